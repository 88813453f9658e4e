/-! the equations: X10a -/
def st_X10_feed : List (Nat × List Bool) := []
theorem sk_X10_feed : ∀ pc bs, tstop st_X10_feed pc = some bs → ∃ a, k_X10_feed pc = some (aMk bs a) := tstop_ok (fun _ h => absurd h List.not_mem_nil)
set_option maxRecDepth 20000 in
theorem e_X10_feed (y1 : Int64) (y3 : Int64) (y5 : Int64) (G : tH) : V_X10_feed y1 y3 y5 G = tbV (V_X10_feedBytes y1 G) (fun G_1 => tbV (V_X10_feedBytes y3 G_1) (fun G_2 => tbV (V_X10_feedBytes y5 G_2) (fun G_3 => some (some (vI (gI G_3 801 (0))), G_3)))) := (tgo 18 rfl sk_X10_feed rfl).trans rfl
def st_X10_feedBytes : List (Nat × List Bool) := [(3, [true, true, false, true])]
theorem sk_X10_feedBytes : ∀ pc bs, tstop st_X10_feedBytes pc = some bs → ∃ a, k_X10_feedBytes pc = some (aMk bs a) := tstop_ok (List.forall_mem_cons.mpr ⟨⟨_, rfl⟩, fun _ h => absurd h List.not_mem_nil⟩)
set_option maxRecDepth 20000 in
theorem e_X10_feedBytes (y1 : Int64) (G : tH) : V_X10_feedBytes y1 G = V_X10_feedBytes_3 y1 (nI 7) G := (tgo 24 rfl sk_X10_feedBytes rfl).trans rfl
set_option maxRecDepth 20000 in
theorem e_X10_feedBytes_3 (y1 : Int64) (x3 : Int32) (G : tH) : V_X10_feedBytes_3 y1 x3 G = tif (x3 < 0) (some (none, G))
  (tbV (V_X8_put ((((((y1.toUInt64 >>> (((nI 8) * x3).toInt64.toUInt64 &&& Int64.toUInt64 63)).toInt64) &&& (lN 255)).toInt32).toUInt32 % 65536).toInt32) G) (fun G_1 => V_X10_feedBytes_3 y1 (x3 + (-1 : Int32)) G_1)) := (tgo 24 rfl sk_X10_feedBytes rfl).trans rfl
def st_X10_province : List (Nat × List Bool) := [(43, [true, false])]
theorem sk_X10_province : ∀ pc bs, tstop st_X10_province pc = some bs → ∃ a, k_X10_province pc = some (aMk bs a) := tstop_ok (List.forall_mem_cons.mpr ⟨⟨_, rfl⟩, fun _ h => absurd h List.not_mem_nil⟩)
set_option maxRecDepth 20000 in
theorem e_X10_province (G : tH) : V_X10_province  G = tbV (V_X8_start G) (fun G_1 => tbI (V_X5_tellFrom (gR G_1 1002 (0)) G_1) (fun r_3 G_2 => tif (r_3 = 0) (V_X10_province_43 G_2)
  (let G_4 := sR G_2 1001 (0) (gR G_2 1002 (0))
  let G_5 := sR G_4 1002 (0) (gR G_2 1001 (0))
  tbV (V_X10_startAnew G_5) (fun G_6 => V_X10_province_43 G_6)))) := (tgo 30 rfl sk_X10_province rfl).trans rfl
set_option maxRecDepth 20000 in
theorem e_X10_province_43 (G : tH) : V_X10_province_43  G = tbI (V_X8_empty G) (fun r_2 G_1 => some (some (vI r_2), G_1)) := (tgo 30 rfl sk_X10_province rfl).trans rfl
def st_X10_startAnew : List (Nat × List Bool) := [(33, [true, true])]
theorem sk_X10_startAnew : ∀ pc bs, tstop st_X10_startAnew pc = some bs → ∃ a, k_X10_startAnew pc = some (aMk bs a) := tstop_ok (List.forall_mem_cons.mpr ⟨⟨_, rfl⟩, fun _ h => absurd h List.not_mem_nil⟩)
set_option maxRecDepth 20000 in
theorem e_X10_startAnew (G : tH) : V_X10_startAnew  G = tbV (V_X7_begin 0 (gR G 1001 (0)) G) (fun G_1 => tbV (V_X9_forget G_1) (fun G_2 => let G_3 := sI G_2 400 (gR G_2 1003 (0)) ((nI 0))
  let G_4 := sI G_3 1010 (0) ((nI 0))
  V_X10_startAnew_33 (nI 0) G_4)) := (tgo 33 rfl sk_X10_startAnew rfl).trans rfl
set_option maxRecDepth 20000 in
theorem e_X10_startAnew_33 (x1 : Int32) (G : tH) : V_X10_startAnew_33 x1 G = tif (x1 < (nI 5)) (tif (tin x1 5) (let G_1 := sA G 1011 0 (upd (gA G 1011 0) x1.toNatClampNeg (-1 : Int32))
  V_X10_startAnew_33 (x1 + (nI 1)) G_1) none)
  (some (none, G)) := (tgo 33 rfl sk_X10_startAnew rfl).trans rfl
def st_X10_past : List (Nat × List Bool) := [(43, [true, false])]
theorem sk_X10_past : ∀ pc bs, tstop st_X10_past pc = some bs → ∃ a, k_X10_past pc = some (aMk bs a) := tstop_ok (List.forall_mem_cons.mpr ⟨⟨_, rfl⟩, fun _ h => absurd h List.not_mem_nil⟩)
set_option maxRecDepth 20000 in
theorem e_X10_past (G : tH) : V_X10_past  G = tbV (V_X8_start G) (fun G_1 => tbI (V_X4_tellFrom (gR G_1 1004 (0)) (gR G_1 1001 (0)) G_1) (fun r_3 G_2 => tif (r_3 = 0) (V_X10_past_43 G_2)
  (let G_4 := sR G_2 1003 (0) (gR G_2 1004 (0))
  let G_5 := sR G_4 1004 (0) (gR G_2 1003 (0))
  V_X10_past_43 G_5))) := (tgo 30 rfl sk_X10_past rfl).trans rfl
set_option maxRecDepth 20000 in
theorem e_X10_past_43 (G : tH) : V_X10_past_43  G = tbI (V_X8_empty G) (fun r_2 G_1 => some (some (vI r_2), G_1)) := (tgo 30 rfl sk_X10_past rfl).trans rfl
def st_X10_town : List (Nat × List Bool) := []
theorem sk_X10_town : ∀ pc bs, tstop st_X10_town pc = some bs → ∃ a, k_X10_town pc = some (aMk bs a) := tstop_ok (fun _ h => absurd h List.not_mem_nil)
set_option maxRecDepth 20000 in
theorem e_X10_town (x1 : Int32) (x2 : Int32) (G : tH) : V_X10_town x1 x2 G = tbI (V_X6_has (4 * (gR G 1001 (0)) + 0) x1 G) (fun r_2 G_1 => tif (r_2 = 0) (some (some (vI (-1 : Int32)), G_1))
  (tif (x2 = (nI 0)) (tif (tin x1 6) (some (some (vI (gA G_1 504 (gR G_1 1001 (0)) x1.toNatClampNeg)), G_1)) none)
  (tif (x2 = (nI 1)) (tif (tin x1 6) (some (some (vI (gA G_1 701 0 x1.toNatClampNeg)), G_1)) none)
  (tif (x2 = (nI 2)) (tif (tin x1 6) (some (some (vI (gA G_1 702 0 x1.toNatClampNeg)), G_1)) none)
  (tif (x2 = (nI 3)) (tif (tin x1 6) (some (some (vI (gA G_1 705 0 x1.toNatClampNeg)), G_1)) none)
  (tif (x2 = (nI 4)) (tif (tin x1 6) (some (some (vI (gA G_1 704 0 x1.toNatClampNeg)), G_1)) none)
  (tif (x2 = (nI 5)) (tbI (V_X7_isSpared 0 x1 G_1) (fun r_4 G_3 => tif (r_4 = 0) (some (some (vI (nI 0)), G_3))
  (some (some (vI (nI 1)), G_3))))
  (tif (x2 = (nI 6)) (tif (tin x1 6) (tbI (V_X5_titheOf (gR G_1 1001 (0)) (gA G_1 703 0 x1.toNatClampNeg) G_1) (fun r_6 G_5 => some (some (vI r_6), G_5))) none)
  (some (some (vI (-1 : Int32)), G_1)))))))))) := (tgo 65 rfl sk_X10_town rfl).trans rfl
def st_X10_company : List (Nat × List Bool) := []
theorem sk_X10_company : ∀ pc bs, tstop st_X10_company pc = some bs → ∃ a, k_X10_company pc = some (aMk bs a) := tstop_ok (fun _ h => absurd h List.not_mem_nil)
set_option maxRecDepth 20000 in
theorem e_X10_company (x1 : Int32) (x2 : Int32) (G : tH) : V_X10_company x1 x2 G = tbI (V_X6_has (4 * (gR G 1001 (0)) + 1) x1 G) (fun r_2 G_1 => tif (r_2 = 0) (some (some (vI (-1 : Int32)), G_1))
  (tif (x2 = (nI 0)) (tif (tin x1 5) (some (some (vI (gA G_1 506 (gR G_1 1001 (0)) x1.toNatClampNeg)), G_1)) none)
  (tif (x2 = (nI 1)) (tif (tin x1 5) (some (some (vI (gA G_1 706 0 x1.toNatClampNeg)), G_1)) none)
  (tif (x2 = (nI 2)) (tif (tin x1 5) (some (some (vI (gA G_1 707 0 x1.toNatClampNeg)), G_1)) none)
  (some (some (vI (-1 : Int32)), G_1)))))) := (tgo 35 rfl sk_X10_company rfl).trans rfl
def st_X10_juror : List (Nat × List Bool) := []
theorem sk_X10_juror : ∀ pc bs, tstop st_X10_juror pc = some bs → ∃ a, k_X10_juror pc = some (aMk bs a) := tstop_ok (fun _ h => absurd h List.not_mem_nil)
set_option maxRecDepth 20000 in
theorem e_X10_juror (x1 : Int32) (x2 : Int32) (G : tH) : V_X10_juror x1 x2 G = tbI (V_X6_has (4 * (gR G 1001 (0)) + 3) x1 G) (fun r_2 G_1 => tif (r_2 = 0) (some (some (vI (-2 : Int32)), G_1))
  (tif (x2 = (nI 0)) (tif (tin x1 5) (some (some (vI (gA G_1 510 (gR G_1 1001 (0)) x1.toNatClampNeg)), G_1)) none)
  (tif (x2 = (nI 1)) (tif (tin x1 5) (some (some (vI (gA G_1 511 (gR G_1 1001 (0)) x1.toNatClampNeg)), G_1)) none)
  (tif (x2 = (nI 2)) (tbI (V_X7_isBribed 0 x1 G_1) (fun r_4 G_3 => tif (r_4 = 0) (some (some (vI (nI 0)), G_3))
  (some (some (vI (nI 1)), G_3))))
  (tif (x2 = (nI 3)) (tbI (V_X7_isHeld 0 G_1) (fun r_6 G_5 => tif (r_6 = 0) (some (some (vI (-1 : Int32)), G_5))
  (tbI (V_X7_letsGo 0 x1 G_5) (fun r_8 G_7 => tif (r_8 = 0) (some (some (vI (nI 0)), G_7))
  (some (some (vI (nI 1)), G_7))))))
  (some (some (vI (-2 : Int32)), G_1))))))) := (tgo 53 rfl sk_X10_juror rfl).trans rfl
def st_X10_holder : List (Nat × List Bool) := []
theorem sk_X10_holder : ∀ pc bs, tstop st_X10_holder pc = some bs → ∃ a, k_X10_holder pc = some (aMk bs a) := tstop_ok (fun _ h => absurd h List.not_mem_nil)
set_option maxRecDepth 20000 in
theorem e_X10_holder (G : tH) : V_X10_holder  G = some (some (vI (gI G 710 (0))), G) := (tgo 9 rfl sk_X10_holder rfl).trans rfl
def st_X10_bid : List (Nat × List Bool) := []
theorem sk_X10_bid : ∀ pc bs, tstop st_X10_bid pc = some bs → ∃ a, k_X10_bid pc = some (aMk bs a) := tstop_ok (fun _ h => absurd h List.not_mem_nil)
set_option maxRecDepth 20000 in
theorem e_X10_bid (x1 : Int32) (x2 : Int32) (G : tH) : V_X10_bid x1 x2 G = tbV (V_X9_layDown 0 G) (fun G_1 => tbI (V_X7_placeBid 0 x1 x2 G_1) (fun r_3 G_2 => tbI (V_X9_settle r_3 G_2) (fun r_5 G_4 => tif (vp_nar .boolean r_5 = r_5) (some (some (vI r_5), G_4)) none))) := (tgo 19 rfl sk_X10_bid rfl).trans rfl
def st_X10_award : List (Nat × List Bool) := [(34, [false, true])]
theorem sk_X10_award : ∀ pc bs, tstop st_X10_award pc = some bs → ∃ a, k_X10_award pc = some (aMk bs a) := tstop_ok (List.forall_mem_cons.mpr ⟨⟨_, rfl⟩, fun _ h => absurd h List.not_mem_nil⟩)
set_option maxRecDepth 20000 in
theorem e_X10_award (G : tH) : V_X10_award  G = tbV (V_X9_layDown 0 G) (fun G_1 => tbI (V_X7_awardTop 0 G_1) (fun r_3 G_2 => tif (r_3 = (-2 : Int32)) (V_X10_award_34 r_3 (nI 0) G_2)
  (V_X10_award_34 r_3 (nI 1) G_2))) := (tgo 26 rfl sk_X10_award rfl).trans rfl
set_option maxRecDepth 20000 in
theorem e_X10_award_34 (x1 : Int32) (s1 : Int32) (G : tH) : V_X10_award_34 x1 s1 G = tbI (V_X9_settle s1 G) (fun r_2 G_1 => some (some (vI x1), G_1)) := (tgo 26 rfl sk_X10_award rfl).trans rfl
def st_X10_year : List (Nat × List Bool) := [(34, [false, false, true])]
theorem sk_X10_year : ∀ pc bs, tstop st_X10_year pc = some bs → ∃ a, k_X10_year pc = some (aMk bs a) := tstop_ok (List.forall_mem_cons.mpr ⟨⟨_, rfl⟩, fun _ h => absurd h List.not_mem_nil⟩)
set_option maxRecDepth 20000 in
theorem e_X10_year (x1 : Int32) (G : tH) : V_X10_year x1 G = tbV (V_X9_layDown 0 G) (fun G_1 => tbI (V_X7_bringYear 0 x1 G_1) (fun r_3 G_2 => tif (r_3 = (-1 : Int32)) (V_X10_year_34 r_3 (nI 0) G_2)
  (V_X10_year_34 r_3 (nI 1) G_2))) := (tgo 27 rfl sk_X10_year rfl).trans rfl
set_option maxRecDepth 20000 in
theorem e_X10_year_34 (x2 : Int32) (s1 : Int32) (G : tH) : V_X10_year_34 x2 s1 G = tbI (V_X9_settle s1 G) (fun r_2 G_1 => some (some (vI x2), G_1)) := (tgo 27 rfl sk_X10_year rfl).trans rfl
def st_X10_take : List (Nat × List Bool) := [(35, [false, false, false, true])]
theorem sk_X10_take : ∀ pc bs, tstop st_X10_take pc = some bs → ∃ a, k_X10_take pc = some (aMk bs a) := tstop_ok (List.forall_mem_cons.mpr ⟨⟨_, rfl⟩, fun _ h => absurd h List.not_mem_nil⟩)
set_option maxRecDepth 20000 in
theorem e_X10_take (x1 : Int32) (x2 : Int32) (G : tH) : V_X10_take x1 x2 G = tbV (V_X9_layDown 0 G) (fun G_1 => tbI (V_X7_takeFrom 0 x1 x2 G_1) (fun r_3 G_2 => tif (r_3 = (-1 : Int32)) (V_X10_take_35 r_3 (nI 0) G_2)
  (V_X10_take_35 r_3 (nI 1) G_2))) := (tgo 28 rfl sk_X10_take rfl).trans rfl
set_option maxRecDepth 20000 in
theorem e_X10_take_35 (x3 : Int32) (s1 : Int32) (G : tH) : V_X10_take_35 x3 s1 G = tbI (V_X9_settle s1 G) (fun r_2 G_1 => some (some (vI x3), G_1)) := (tgo 28 rfl sk_X10_take rfl).trans rfl
def st_X10_lend : List (Nat × List Bool) := [(35, [false, false, false, true])]
theorem sk_X10_lend : ∀ pc bs, tstop st_X10_lend pc = some bs → ∃ a, k_X10_lend pc = some (aMk bs a) := tstop_ok (List.forall_mem_cons.mpr ⟨⟨_, rfl⟩, fun _ h => absurd h List.not_mem_nil⟩)
set_option maxRecDepth 20000 in
theorem e_X10_lend (x1 : Int32) (x2 : Int32) (G : tH) : V_X10_lend x1 x2 G = tbV (V_X9_layDown 0 G) (fun G_1 => tbI (V_X7_lendTo 0 x1 x2 G_1) (fun r_3 G_2 => tif (r_3 = (-1 : Int32)) (V_X10_lend_35 r_3 (nI 0) G_2)
  (V_X10_lend_35 r_3 (nI 1) G_2))) := (tgo 28 rfl sk_X10_lend rfl).trans rfl
set_option maxRecDepth 20000 in
theorem e_X10_lend_35 (x3 : Int32) (s1 : Int32) (G : tH) : V_X10_lend_35 x3 s1 G = tbI (V_X9_settle s1 G) (fun r_2 G_1 => some (some (vI x3), G_1)) := (tgo 28 rfl sk_X10_lend rfl).trans rfl
def st_X10_call : List (Nat × List Bool) := [(35, [false, false, false, true])]
theorem sk_X10_call : ∀ pc bs, tstop st_X10_call pc = some bs → ∃ a, k_X10_call pc = some (aMk bs a) := tstop_ok (List.forall_mem_cons.mpr ⟨⟨_, rfl⟩, fun _ h => absurd h List.not_mem_nil⟩)
set_option maxRecDepth 20000 in
theorem e_X10_call (x1 : Int32) (x2 : Int32) (G : tH) : V_X10_call x1 x2 G = tbV (V_X9_layDown 0 G) (fun G_1 => tbI (V_X7_callIn 0 x1 x2 G_1) (fun r_3 G_2 => tif (r_3 = (-1 : Int32)) (V_X10_call_35 r_3 (nI 0) G_2)
  (V_X10_call_35 r_3 (nI 1) G_2))) := (tgo 28 rfl sk_X10_call rfl).trans rfl
set_option maxRecDepth 20000 in
theorem e_X10_call_35 (x3 : Int32) (s1 : Int32) (G : tH) : V_X10_call_35 x3 s1 G = tbI (V_X9_settle s1 G) (fun r_2 G_1 => some (some (vI x3), G_1)) := (tgo 28 rfl sk_X10_call rfl).trans rfl
def st_X10_spare : List (Nat × List Bool) := [(34, [false, false, true])]
theorem sk_X10_spare : ∀ pc bs, tstop st_X10_spare pc = some bs → ∃ a, k_X10_spare pc = some (aMk bs a) := tstop_ok (List.forall_mem_cons.mpr ⟨⟨_, rfl⟩, fun _ h => absurd h List.not_mem_nil⟩)
set_option maxRecDepth 20000 in
theorem e_X10_spare (x1 : Int32) (G : tH) : V_X10_spare x1 G = tbV (V_X9_layDown 0 G) (fun G_1 => tbI (V_X7_spareTown 0 x1 G_1) (fun r_3 G_2 => tif (r_3 = (-1 : Int32)) (V_X10_spare_34 r_3 (nI 0) G_2)
  (V_X10_spare_34 r_3 (nI 1) G_2))) := (tgo 27 rfl sk_X10_spare rfl).trans rfl
set_option maxRecDepth 20000 in
theorem e_X10_spare_34 (x2 : Int32) (s1 : Int32) (G : tH) : V_X10_spare_34 x2 s1 G = tbI (V_X9_settle s1 G) (fun r_2 G_1 => some (some (vI x2), G_1)) := (tgo 27 rfl sk_X10_spare rfl).trans rfl
def st_X10_bribe : List (Nat × List Bool) := []
theorem sk_X10_bribe : ∀ pc bs, tstop st_X10_bribe pc = some bs → ∃ a, k_X10_bribe pc = some (aMk bs a) := tstop_ok (fun _ h => absurd h List.not_mem_nil)
set_option maxRecDepth 20000 in
theorem e_X10_bribe (x1 : Int32) (G : tH) : V_X10_bribe x1 G = tbV (V_X9_layDown 0 G) (fun G_1 => tbI (V_X7_bribeJuror 0 x1 G_1) (fun r_3 G_2 => tbI (V_X9_settle r_3 G_2) (fun r_5 G_4 => tif (vp_nar .boolean r_5 = r_5) (some (some (vI r_5), G_4)) none))) := (tgo 18 rfl sk_X10_bribe rfl).trans rfl
def st_X10_sue : List (Nat × List Bool) := [(33, [false, true])]
theorem sk_X10_sue : ∀ pc bs, tstop st_X10_sue pc = some bs → ∃ a, k_X10_sue pc = some (aMk bs a) := tstop_ok (List.forall_mem_cons.mpr ⟨⟨_, rfl⟩, fun _ h => absurd h List.not_mem_nil⟩)
set_option maxRecDepth 20000 in
theorem e_X10_sue (G : tH) : V_X10_sue  G = tbV (V_X9_layDown 0 G) (fun G_1 => tbI (V_X7_sueHolder 0 G_1) (fun r_3 G_2 => tif (r_3 = (-1 : Int32)) (V_X10_sue_33 r_3 (nI 0) G_2)
  (V_X10_sue_33 r_3 (nI 1) G_2))) := (tgo 26 rfl sk_X10_sue rfl).trans rfl
set_option maxRecDepth 20000 in
theorem e_X10_sue_33 (x1 : Int32) (s1 : Int32) (G : tH) : V_X10_sue_33 x1 s1 G = tbI (V_X9_settle s1 G) (fun r_2 G_1 => some (some (vI x1), G_1)) := (tgo 26 rfl sk_X10_sue rfl).trans rfl
def st_X10_close : List (Nat × List Bool) := []
theorem sk_X10_close : ∀ pc bs, tstop st_X10_close pc = some bs → ∃ a, k_X10_close pc = some (aMk bs a) := tstop_ok (fun _ h => absurd h List.not_mem_nil)
set_option maxRecDepth 20000 in
theorem e_X10_close (G : tH) : V_X10_close  G = tbV (V_X9_layDown 0 G) (fun G_1 => tbI (V_X7_closeLease 0 G_1) (fun r_3 G_2 => tbI (V_X9_settle r_3 G_2) (fun r_5 G_4 => tif (vp_nar .boolean r_5 = r_5) (some (some (vI r_5), G_4)) none))) := (tgo 17 rfl sk_X10_close rfl).trans rfl
def st_X10_undo : List (Nat × List Bool) := []
theorem sk_X10_undo : ∀ pc bs, tstop st_X10_undo pc = some bs → ∃ a, k_X10_undo pc = some (aMk bs a) := tstop_ok (fun _ h => absurd h List.not_mem_nil)
set_option maxRecDepth 20000 in
theorem e_X10_undo (G : tH) : V_X10_undo  G = tbI (V_X9_goBack 0 G) (fun r_2 G_1 => tif (vp_nar .boolean r_2 = r_2) (some (some (vI r_2), G_1)) none) := (tgo 11 rfl sk_X10_undo rfl).trans rfl
def st_X10_judged : List (Nat × List Bool) := []
theorem sk_X10_judged : ∀ pc bs, tstop st_X10_judged pc = some bs → ∃ a, k_X10_judged pc = some (aMk bs a) := tstop_ok (fun _ h => absurd h List.not_mem_nil)
set_option maxRecDepth 20000 in
theorem e_X10_judged (x1 : Int32) (G : tH) : V_X10_judged x1 G = tif (x1 < 0) (some (some (vI (-2 : Int32)), G))
  (tif ((nI 2) < x1) (some (some (vI (-2 : Int32)), G))
  (tbV (V_X7_begin 1 (gR G 1001 (0)) G) (fun G_1 => tbI (V_X4_playAll (gR G_1 1003 (0)) 1 G_1) (fun r_3 G_2 => tif (x1 = (nI 0)) (some (some (vI r_3), G_2))
  (tif (x1 = (nI 1)) (some (some (vI (gI G_2 714 (1))), G_2))
  (tbI (V_X7_meansOfAll 1 G_2) (fun r_5 G_4 => some (some (vI r_5), G_4)))))))) := (tgo 35 rfl sk_X10_judged rfl).trans rfl
def st_X10_worth : List (Nat × List Bool) := []
theorem sk_X10_worth : ∀ pc bs, tstop st_X10_worth pc = some bs → ∃ a, k_X10_worth pc = some (aMk bs a) := tstop_ok (fun _ h => absurd h List.not_mem_nil)
set_option maxRecDepth 20000 in
theorem e_X10_worth (x1 : Int32) (G : tH) : V_X10_worth x1 G = tif (0 < x1) (tbI (V_X5_allHarvests (gR G 1001 (0)) G) (fun r_2 G_1 => tif (r_2 < x1) (some (some (vI (-1 : Int32)), G_1))
  (tbV (V_X3_foresee 0 (-1 : Int32) G_1) (fun G_3 => tbI (V_X3_worthBy x1 G_3) (fun r_5 G_4 => some (some (vI r_5), G_4))))))
  (some (some (vI (-1 : Int32)), G)) := (tgo 25 rfl sk_X10_worth rfl).trans rfl
def st_X10_news : List (Nat × List Bool) := []
theorem sk_X10_news : ∀ pc bs, tstop st_X10_news pc = some bs → ∃ a, k_X10_news pc = some (aMk bs a) := tstop_ok (fun _ h => absurd h List.not_mem_nil)
set_option maxRecDepth 20000 in
theorem e_X10_news (G : tH) : V_X10_news  G = tif ((gI G 601 (4 * (gR G 1001 (0)) + 2)) < (nI 2)) (some (some (vI (-1 : Int32)), G))
  (tbV (V_X3_foresee 0 (-1 : Int32) G) (fun G_1 => tbI (V_X3_greatestNews G_1) (fun r_3 G_2 => some (some (vI r_3), G_2)))) := (tgo 23 rfl sk_X10_news rfl).trans rfl
def st_X10_gather : List (Nat × List Bool) := []
theorem sk_X10_gather : ∀ pc bs, tstop st_X10_gather pc = some bs → ∃ a, k_X10_gather pc = some (aMk bs a) := tstop_ok (fun _ h => absurd h List.not_mem_nil)
set_option maxRecDepth 20000 in
theorem e_X10_gather (x1 : Int32) (x2 : Int32) (x3 : Int32) (x4 : Int32) (G : tH) : V_X10_gather x1 x2 x3 x4 G = tbI (V_X6_has (4 * (gR G 1001 (0)) + 0) x1 G) (fun r_2 G_1 => tif (r_2 = 0) (some (some (vI (-1 : Int32)), G_1))
  (tbI (V_X6_has (4 * (gR G_1 1001 (0)) + 2) x2 G_1) (fun r_4 G_3 => tif (r_4 = 0) (some (some (vI (-1 : Int32)), G_3))
  (tif (x3 < (nI 1)) (some (some (vI (-1 : Int32)), G_3))
  (tif ((nI 5) < x3) (some (some (vI (-1 : Int32)), G_3))
  (tif (x4 < 0) (some (some (vI (-1 : Int32)), G_3))
  (tif (x4 < (x3 + (nI 2))) (tbV (V_X1_seek 0 x1 x2 x3 G_3) (fun G_5 => tif (x4 = (nI 0)) (some (some (vI (gI G_5 106 (0))), G_5))
  (tif (x4 = (nI 1)) (some (some (vI (gI G_5 107 (0))), G_5))
  (tif (tin (x4 - (nI 2)) 5) (some (some (vI (gA G_5 105 0 (x4 - (nI 2)).toNatClampNeg)), G_5)) none))))
  (some (some (vI (-1 : Int32)), G_3))))))))) := (tgo 58 rfl sk_X10_gather rfl).trans rfl
def st_X10_rate : List (Nat × List Bool) := []
theorem sk_X10_rate : ∀ pc bs, tstop st_X10_rate pc = some bs → ∃ a, k_X10_rate pc = some (aMk bs a) := tstop_ok (fun _ h => absurd h List.not_mem_nil)
set_option maxRecDepth 20000 in
theorem e_X10_rate (x1 : Int32) (x2 : Int32) (x3 : Int32) (G : tH) : V_X10_rate x1 x2 x3 G = tbI (V_X6_has (4 * (gR G 1001 (0)) + 0) x1 G) (fun r_2 G_1 => tif (r_2 = 0) (some (some (vI (-1 : Int32)), G_1))
  (tbI (V_X6_has (4 * (gR G_1 1001 (0)) + 2) x2 G_1) (fun r_4 G_3 => tif (r_4 = 0) (some (some (vI (-1 : Int32)), G_3))
  (tif (x3 < (nI 1)) (some (some (vI (-1 : Int32)), G_3))
  (tif ((nI 20) < x3) (some (some (vI (-1 : Int32)), G_3))
  (tbI (V_X1_highestRate 0 x1 x2 x3 G_3) (fun r_6 G_5 => some (some (vI r_6), G_5)))))))) := (tgo 34 rfl sk_X10_rate rfl).trans rfl
def st_X10_free : List (Nat × List Bool) := []
theorem sk_X10_free : ∀ pc bs, tstop st_X10_free pc = some bs → ∃ a, k_X10_free pc = some (aMk bs a) := tstop_ok (fun _ h => absurd h List.not_mem_nil)
set_option maxRecDepth 20000 in
theorem e_X10_free (x1 : Int32) (G : tH) : V_X10_free x1 G = tif (x1 < 0) (some (some (vI (-1 : Int32)), G))
  (tif ((nI 1) < x1) (some (some (vI (-1 : Int32)), G))
  (tbI (V_X7_isHeld 0 G) (fun r_2 G_1 => tif (r_2 = 0) (some (some (vI (-1 : Int32)), G_1))
  (tbI (V_X7_cheapestJurors 0 G_1) (fun r_4 G_3 => tif (x1 = 0) (tbI (V_X5_priceOf (gR G_3 1001 (0)) r_4 G_3) (fun r_6 G_5 => some (some (vI r_6), G_5)))
  (some (some (vI r_4), G_3))))))) := (tgo 29 rfl sk_X10_free rfl).trans rfl
def st_X10_agree : List (Nat × List Bool) := []
theorem sk_X10_agree : ∀ pc bs, tstop st_X10_agree pc = some bs → ∃ a, k_X10_agree pc = some (aMk bs a) := tstop_ok (fun _ h => absurd h List.not_mem_nil)
set_option maxRecDepth 20000 in
theorem e_X10_agree (x1 : Int32) (x2 : Int32) (G : tH) : V_X10_agree x1 x2 G = tbI (V_X6_has (4 * (gR G 1001 (0)) + 1) x1 G) (fun r_2 G_1 => tif (r_2 = 0) (some (some (vI (-1 : Int32)), G_1))
  (tbI (V_X6_has (4 * (gR G_1 1001 (0)) + 1) x2 G_1) (fun r_4 G_3 => tif (r_4 = 0) (some (some (vI (-1 : Int32)), G_3))
  (tif (x1 = x2) (some (some (vI (-1 : Int32)), G_3))
  (tbI (V_X7_isHeld 0 G_3) (fun r_6 G_5 => tif (r_6 = 0) (tbI (V_X7_savedBy 0 x1 x2 G_5) (fun r_8 G_7 => some (some (vI r_8), G_7)))
  (some (some (vI (-1 : Int32)), G_5)))))))) := (tgo 32 rfl sk_X10_agree rfl).trans rfl
def st_X10_tale : List (Nat × List Bool) := []
theorem sk_X10_tale : ∀ pc bs, tstop st_X10_tale pc = some bs → ∃ a, k_X10_tale pc = some (aMk bs a) := tstop_ok (fun _ h => absurd h List.not_mem_nil)
set_option maxRecDepth 20000 in
theorem e_X10_tale (x1 : Int32) (x2 : Int32) (G : tH) : V_X10_tale x1 x2 G = tbI (V_X6_has (4 * (gR G 1001 (0)) + 1) x1 G) (fun r_2 G_1 => tif (r_2 = 0) (tif (vp_nar .boolean (nI 0) = (nI 0)) (some (some (vI (nI 0)), G_1)) none)
  (tif (x2 < 0) (tif (vp_nar .boolean (nI 0) = (nI 0)) (some (some (vI (nI 0)), G_1)) none)
  (tif ((nI 99999) < x2) (tif (vp_nar .boolean (nI 0) = (nI 0)) (some (some (vI (nI 0)), G_1)) none)
  (tif (tin x1 5) (let G_3 := sA G_1 1011 0 (upd (gA G_1 1011 0) x1.toNatClampNeg x2)
  tif (vp_nar .boolean (nI 1) = (nI 1)) (some (some (vI (nI 1)), G_3)) none) none)))) := (tgo 25 rfl sk_X10_tale rfl).trans rfl
def st_X10_knew : List (Nat × List Bool) := []
theorem sk_X10_knew : ∀ pc bs, tstop st_X10_knew pc = some bs → ∃ a, k_X10_knew pc = some (aMk bs a) := tstop_ok (fun _ h => absurd h List.not_mem_nil)
set_option maxRecDepth 20000 in
theorem e_X10_knew (x1 : Int32) (x2 : Int32) (G : tH) : V_X10_knew x1 x2 G = tbI (V_X6_has (4 * (gR G 1001 (0)) + 1) x1 G) (fun r_2 G_1 => tif (r_2 = 0) (some (some (vI (-1 : Int32)), G_1))
  (tif (x2 < 0) (some (some (vI (-1 : Int32)), G_1))
  (tif ((nI 2) < x2) (some (some (vI (-1 : Int32)), G_1))
  (tif (tin x1 5) (tif ((gA G_1 1011 0 x1.toNatClampNeg) = (-1 : Int32)) (some (some (vI (-1 : Int32)), G_1))
  (tbV (V_X3_foresee 0 (-1 : Int32) G_1) (fun G_3 => tif (tin x1 5) (tbI (V_X3_setsWorth (gA G_3 1011 0 x1.toNatClampNeg) G_3) (fun r_5 G_4 => tif (x2 = 0) (tbI (V_J6_bitCount_0f7a4 r_5 G_4) (fun r_7 G_6 => some (some (vI r_7), G_6)))
  (tif (r_5 = 0) (some (some (vI (-1 : Int32)), G_4))
  (tif (x2 = (nI 1)) (tbI (V_X3_inAll r_5 G_4) (fun r_9 G_8 => some (some (vI r_9), G_8)))
  (tbI (V_X3_inSome r_5 G_4) (fun r_11 G_10 => some (some (vI r_11), G_10))))))) none))) none)))) := (tgo 60 rfl sk_X10_knew rfl).trans rfl
def st_X10_secret : List (Nat × List Bool) := [(22, [true, true, true])]
theorem sk_X10_secret : ∀ pc bs, tstop st_X10_secret pc = some bs → ∃ a, k_X10_secret pc = some (aMk bs a) := tstop_ok (List.forall_mem_cons.mpr ⟨⟨_, rfl⟩, fun _ h => absurd h List.not_mem_nil⟩)
set_option maxRecDepth 20000 in
theorem e_X10_secret (G : tH) : V_X10_secret  G = tbI (V_X5_allHarvests (gR G 1001 (0)) G) (fun r_2 G_1 => tbV (V_X3_foresee 0 (-1 : Int32) G_1) (fun G_3 => V_X10_secret_22 r_2 (nI 0) G_3)) := (tgo 46 rfl sk_X10_secret rfl).trans rfl
set_option maxRecDepth 20000 in
theorem e_X10_secret_22 (x1 : Int32) (x2 : Int32) (G : tH) : V_X10_secret_22 x1 x2 G = tif (x2 < (gI G 601 (4 * (gR G 1001 (0)) + 1))) (tif (tin x2 5) (tif ((gA G 1011 0 x2.toNatClampNeg) = (-1 : Int32)) (V_X10_secret_22 x1 (x2 + (nI 1)) G)
  (tif (tin x2 5) (tbI (V_X3_setsWorth (gA G 1011 0 x2.toNatClampNeg) G) (fun r_2 G_1 => tbI (V_X3_inSome r_2 G_1) (fun r_4 G_3 => V_X10_secret_22 (x1 &&& r_4) (x2 + (nI 1)) G_3))) none)) none)
  (some (some (vI x1), G)) := (tgo 46 rfl sk_X10_secret rfl).trans rfl
def st_X10_next : List (Nat × List Bool) := [(2, [true, true])]
theorem sk_X10_next : ∀ pc bs, tstop st_X10_next pc = some bs → ∃ a, k_X10_next pc = some (aMk bs a) := tstop_ok (List.forall_mem_cons.mpr ⟨⟨_, rfl⟩, fun _ h => absurd h List.not_mem_nil⟩)
set_option maxRecDepth 20000 in
theorem e_X10_next (G : tH) : V_X10_next  G = V_X10_next_2 (nI 0) G := (tgo 33 rfl sk_X10_next rfl).trans rfl
set_option maxRecDepth 20000 in
theorem e_X10_next_2 (x1 : Int32) (G : tH) : V_X10_next_2 x1 G = tif (x1 < (gI G 601 (4 * (gR G 1001 (0)) + 1))) (tif (tin x1 5) (tif ((gA G 1011 0 x1.toNatClampNeg) = (-1 : Int32)) (V_X10_next_2 (x1 + (nI 1)) G)
  (tif (tin x1 5) (tbI (V_X3_bestParting 0 (gA G 1011 0 x1.toNatClampNeg) G) (fun r_2 G_1 => some (some (vI r_2), G_1))) none)) none)
  (some (some (vI (-1 : Int32)), G)) := (tgo 33 rfl sk_X10_next rfl).trans rfl
def st_X10_areAtRest : List (Nat × List Bool) := [(3, [true, true, true, true, true])]
theorem sk_X10_areAtRest : ∀ pc bs, tstop st_X10_areAtRest pc = some bs → ∃ a, k_X10_areAtRest pc = some (aMk bs a) := tstop_ok (List.forall_mem_cons.mpr ⟨⟨_, rfl⟩, fun _ h => absurd h List.not_mem_nil⟩)
set_option maxRecDepth 20000 in
theorem e_X10_areAtRest (x0 : Int32) (x1 : Int32) (x2 : Int32) (x3 : Int32) (G : tH) : V_X10_areAtRest x0 x1 x2 x3 G = V_X10_areAtRest_3 x0 x1 x2 x3 (nI 0) G := (tgo 34 rfl sk_X10_areAtRest rfl).trans rfl
set_option maxRecDepth 20000 in
theorem e_X10_areAtRest_3 (x0 : Int32) (x1 : Int32) (x2 : Int32) (x3 : Int32) (x4 : Int32) (G : tH) : V_X10_areAtRest_3 x0 x1 x2 x3 x4 G = tif (x4 < (nI 10)) (tbI (V_X10_gain x0 x4 x3 G) (fun r_2 G_1 => tbI (V_X10_gain x0 x2 x3 G_1) (fun r_4 G_3 => tif (r_4 < r_2) (tif (vp_nar .boolean (nI 0) = (nI 0)) (some (some (vI (nI 0)), G_3)) none)
  (tbI (V_X10_gain x1 x4 x2 G_3) (fun r_6 G_5 => tbI (V_X10_gain x1 x3 x2 G_5) (fun r_8 G_7 => tif (r_8 < r_6) (tif (vp_nar .boolean (nI 0) = (nI 0)) (some (some (vI (nI 0)), G_7)) none)
  (V_X10_areAtRest_3 x0 x1 x2 x3 (x4 + (nI 1)) G_7)))))))
  (tif (vp_nar .boolean (nI 1) = (nI 1)) (some (some (vI (nI 1)), G)) none) := (tgo 34 rfl sk_X10_areAtRest rfl).trans rfl
def st_X10_gain : List (Nat × List Bool) := []
theorem sk_X10_gain : ∀ pc bs, tstop st_X10_gain pc = some bs → ∃ a, k_X10_gain pc = some (aMk bs a) := tstop_ok (fun _ h => absurd h List.not_mem_nil)
set_option maxRecDepth 20000 in
theorem e_X10_gain (x0 : Int32) (x1 : Int32) (x2 : Int32) (G : tH) : V_X10_gain x0 x1 x2 G = tif (x1 < x2) (some (some (vI (nI 0)), G))
  (tif (x2 < x1) (some (some (vI (x0 - x1)), G))
  (tif ((nI 2) = 0) none (some (some (vI ((x0 - x1) / (nI 2))), G)))) := (tgo 23 rfl sk_X10_gain rfl).trans rfl
def st_X10_lustra : List (Nat × List Bool) := []
theorem sk_X10_lustra : ∀ pc bs, tstop st_X10_lustra pc = some bs → ∃ a, k_X10_lustra pc = some (aMk bs a) := tstop_ok (fun _ h => absurd h List.not_mem_nil)
set_option maxRecDepth 20000 in
theorem e_X10_lustra (x1 : Int32) (x2 : Int32) (x3 : Int32) (G : tH) : V_X10_lustra x1 x2 x3 G = tif (x1 < 0) (some (some (vI (-1 : Int32)), G))
  (tif ((nI 9999) < x1) (some (some (vI (-1 : Int32)), G))
  (tif (x2 < (nI 1)) (some (some (vI (-1 : Int32)), G))
  (tif ((nI 50) < x2) (some (some (vI (-1 : Int32)), G))
  (tif (x3 < 0) (some (some (vI (-1 : Int32)), G))
  (tif ((nI 2) < x3) (some (some (vI (-1 : Int32)), G))
  (tbV (V_X7_copyFrom 1 0 G) (fun G_1 => tbV (V_X0_live 1 x1 x2 G_1) (fun G_2 => tif (x3 = (nI 0)) (some (some (vI ((gI G_2 714 (1)) - (gI G_2 714 (0)))), G_2))
  (tif (x3 = (nI 1)) (some (some (vI (gI G_2 1 (0))), G_2))
  (tbI (V_X7_meansOfAll 1 G_2) (fun r_4 G_3 => some (some (vI r_4), G_3)))))))))))) := (tgo 53 rfl sk_X10_lustra rfl).trans rfl
def st_X10_mark : List (Nat × List Bool) := []
theorem sk_X10_mark : ∀ pc bs, tstop st_X10_mark pc = some bs → ∃ a, k_X10_mark pc = some (aMk bs a) := tstop_ok (fun _ h => absurd h List.not_mem_nil)
set_option maxRecDepth 20000 in
theorem e_X10_mark (x1 : Int32) (x2 : Int32) (G : tH) : V_X10_mark x1 x2 G = tif (x1 < 0) (tif (vp_nar .boolean (nI 0) = (nI 0)) (some (some (vI (nI 0)), G)) none)
  (tif (x1 < (nI 4)) (tif (x2 = 0) (tif (tin x1 4) (tbV (V_X7_copyFrom (19 + x1.toNatClampNeg) 0 G) (fun G_1 => tif (tcpok (nI 0) (x1 * (nI 5)) (nI 5) 5 20) (let G_2 := sA G_1 1009 0 (va_cpy (gA G_1 1011 0) (gA G_1 1009 0) (nI 0).toNatClampNeg (x1 * (nI 5)).toNatClampNeg (nI 5).toNatClampNeg)
  let G_3 := sI G_2 1010 (0) ((gI G_2 1010 (0)) ||| ((nI 1) <<< (x1 &&& 31)))
  tif (vp_nar .boolean (nI 1) = (nI 1)) (some (some (vI (nI 1)), G_3)) none) none)) none)
  (tif ((((gI G 1010 (0)) >>> (x1 &&& 31)) &&& (nI 1)) = 0) (tif (vp_nar .boolean (nI 0) = (nI 0)) (some (some (vI (nI 0)), G)) none)
  (tif (tin x1 4) (tbV (V_X7_copyFrom 0 (19 + x1.toNatClampNeg) G) (fun G_4 => tif (tcpok (x1 * (nI 5)) (nI 0) (nI 5) 20 5) (let G_5 := sA G_4 1011 0 (va_cpy (gA G_4 1009 0) (gA G_4 1011 0) (x1 * (nI 5)).toNatClampNeg (nI 0).toNatClampNeg (nI 5).toNatClampNeg)
  tbV (V_X9_forget G_5) (fun G_6 => tif (vp_nar .boolean (nI 1) = (nI 1)) (some (some (vI (nI 1)), G_6)) none)) none)) none)))
  (tif (vp_nar .boolean (nI 0) = (nI 0)) (some (some (vI (nI 0)), G)) none)) := (tgo 72 rfl sk_X10_mark rfl).trans rfl
