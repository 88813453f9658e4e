/-! the equations: X7a -/
def st_X7_begin : List (Nat × List Bool) := [(7, [true, true, true]), (61, [true, true, true])]
theorem sk_X7_begin : ∀ pc bs, tstop st_X7_begin pc = some bs → ∃ a, k_X7_begin pc = some (aMk bs a) := tstop_ok (List.forall_mem_cons.mpr ⟨⟨_, rfl⟩, List.forall_mem_cons.mpr ⟨⟨_, rfl⟩, fun _ h => absurd h List.not_mem_nil⟩⟩)
set_option maxRecDepth 20000 in
theorem e_X7_begin (o0 : Nat) (o1 : Nat) (G : tH) : V_X7_begin o0 o1 G = let G_1 := sR G 700 (o0) (o1)
  V_X7_begin_7 o0 o1 (nI 0) G_1 := (tgo 85 rfl sk_X7_begin rfl).trans rfl
set_option maxRecDepth 20000 in
theorem e_X7_begin_7 (o0 : Nat) (o1 : Nat) (x2 : Int32) (G : tH) : V_X7_begin_7 o0 o1 x2 G = tif (x2 < (nI 6)) (tif (tin x2 6) (tif (tin x2 6) (let G_1 := sA G 701 o0 (upd (gA G 701 o0) x2.toNatClampNeg (gA G 505 o1 x2.toNatClampNeg))
  tif (tin x2 6) (let G_2 := sA G_1 702 o0 (upd (gA G_1 702 o0) x2.toNatClampNeg (nI 0))
  tif (tin x2 6) (let G_3 := sA G_2 703 o0 (upd (gA G_2 703 o0) x2.toNatClampNeg (nI 0))
  tif (tin x2 6) (let G_4 := sA G_3 704 o0 (upd (gA G_3 704 o0) x2.toNatClampNeg (nI 0))
  tif (tin x2 6) (let G_5 := sA G_4 705 o0 (upd (gA G_4 705 o0) x2.toNatClampNeg (nI 0))
  V_X7_begin_7 o0 o1 (x2 + (nI 1)) G_5) none) none) none) none) none) none)
  (V_X7_begin_61 o0 o1 (nI 0) G) := (tgo 85 rfl sk_X7_begin rfl).trans rfl
set_option maxRecDepth 20000 in
theorem e_X7_begin_61 (o0 : Nat) (o1 : Nat) (x2 : Int32) (G : tH) : V_X7_begin_61 o0 o1 x2 G = tif (x2 < (nI 5)) (tif (tin x2 5) (tif (tin x2 5) (let G_1 := sA G 706 o0 (upd (gA G 706 o0) x2.toNatClampNeg (gA G 507 o1 x2.toNatClampNeg))
  tif (tin x2 5) (let G_2 := sA G_1 707 o0 (upd (gA G_1 707 o0) x2.toNatClampNeg (nI 0))
  V_X7_begin_61 o0 o1 (x2 + (nI 1)) G_2) none) none) none)
  (let G_3 := sI G 708 (o0) ((nI 0))
  let G_4 := sI G_3 709 (o0) ((nI 0))
  let G_5 := sI G_4 710 (o0) ((-1 : Int32))
  let G_6 := sI G_5 711 (o0) ((nI 0))
  let G_7 := sI G_6 712 (o0) ((nI 0))
  let G_8 := sI G_7 713 (o0) ((nI 0))
  let G_9 := sI G_8 714 (o0) ((nI 0))
  some (none, G_9)) := (tgo 85 rfl sk_X7_begin rfl).trans rfl
def st_X7_copyFrom : List (Nat × List Bool) := []
theorem sk_X7_copyFrom : ∀ pc bs, tstop st_X7_copyFrom pc = some bs → ∃ a, k_X7_copyFrom pc = some (aMk bs a) := tstop_ok (fun _ h => absurd h List.not_mem_nil)
set_option maxRecDepth 20000 in
theorem e_X7_copyFrom (o0 : Nat) (o1 : Nat) (G : tH) : V_X7_copyFrom o0 o1 G = let G_1 := sR G 700 (o0) (gR G 700 (o1))
  tif (tcpok (nI 0) (nI 0) (nI 6) 6 6) (let G_2 := sA G_1 701 o0 (va_cpy (gA G_1 701 o1) (gA G_1 701 o0) (nI 0).toNatClampNeg (nI 0).toNatClampNeg (nI 6).toNatClampNeg)
  tif (tcpok (nI 0) (nI 0) (nI 6) 6 6) (let G_3 := sA G_2 702 o0 (va_cpy (gA G_2 702 o1) (gA G_2 702 o0) (nI 0).toNatClampNeg (nI 0).toNatClampNeg (nI 6).toNatClampNeg)
  tif (tcpok (nI 0) (nI 0) (nI 6) 6 6) (let G_4 := sA G_3 703 o0 (va_cpy (gA G_3 703 o1) (gA G_3 703 o0) (nI 0).toNatClampNeg (nI 0).toNatClampNeg (nI 6).toNatClampNeg)
  tif (tcpok (nI 0) (nI 0) (nI 6) 6 6) (let G_5 := sA G_4 704 o0 (va_cpy (gA G_4 704 o1) (gA G_4 704 o0) (nI 0).toNatClampNeg (nI 0).toNatClampNeg (nI 6).toNatClampNeg)
  tif (tcpok (nI 0) (nI 0) (nI 6) 6 6) (let G_6 := sA G_5 705 o0 (va_cpy (gA G_5 705 o1) (gA G_5 705 o0) (nI 0).toNatClampNeg (nI 0).toNatClampNeg (nI 6).toNatClampNeg)
  tif (tcpok (nI 0) (nI 0) (nI 5) 5 5) (let G_7 := sA G_6 706 o0 (va_cpy (gA G_6 706 o1) (gA G_6 706 o0) (nI 0).toNatClampNeg (nI 0).toNatClampNeg (nI 5).toNatClampNeg)
  tif (tcpok (nI 0) (nI 0) (nI 5) 5 5) (let G_8 := sA G_7 707 o0 (va_cpy (gA G_7 707 o1) (gA G_7 707 o0) (nI 0).toNatClampNeg (nI 0).toNatClampNeg (nI 5).toNatClampNeg)
  let G_9 := sI G_8 708 (o0) (gI G_8 708 (o1))
  let G_10 := sI G_9 709 (o0) (gI G_9 709 (o1))
  let G_11 := sI G_10 710 (o0) (gI G_10 710 (o1))
  let G_12 := sI G_11 711 (o0) (gI G_11 711 (o1))
  let G_13 := sI G_12 712 (o0) (gI G_12 712 (o1))
  let G_14 := sI G_13 713 (o0) (gI G_13 713 (o1))
  let G_15 := sI G_14 714 (o0) (gI G_14 714 (o1))
  some (none, G_15)) none) none) none) none) none) none) none := (tgo 94 rfl sk_X7_copyFrom rfl).trans rfl
def st_X7_isHeld : List (Nat × List Bool) := []
theorem sk_X7_isHeld : ∀ pc bs, tstop st_X7_isHeld pc = some bs → ∃ a, k_X7_isHeld pc = some (aMk bs a) := tstop_ok (fun _ h => absurd h List.not_mem_nil)
set_option maxRecDepth 20000 in
theorem e_X7_isHeld (o0 : Nat) (G : tH) : V_X7_isHeld o0 G = tif ((gI G 710 (o0)) < 0) (tif (vp_nar .boolean (nI 0) = (nI 0)) (some (some (vI (nI 0)), G)) none)
  (tif ((gI G 710 (o0)) < (gI G 601 (4 * (gR G 700 (o0)) + 1))) (tif (vp_nar .boolean (nI 1) = (nI 1)) (some (some (vI (nI 1)), G)) none)
  (tif (vp_nar .boolean (nI 0) = (nI 0)) (some (some (vI (nI 0)), G)) none)) := (tgo 19 rfl sk_X7_isHeld rfl).trans rfl
def st_X7_isSpared : List (Nat × List Bool) := []
theorem sk_X7_isSpared : ∀ pc bs, tstop st_X7_isSpared pc = some bs → ∃ a, k_X7_isSpared pc = some (aMk bs a) := tstop_ok (fun _ h => absurd h List.not_mem_nil)
set_option maxRecDepth 20000 in
theorem e_X7_isSpared (o0 : Nat) (x1 : Int32) (G : tH) : V_X7_isSpared o0 x1 G = tif ((((gI G 708 (o0)) >>> (x1 &&& 31)) &&& (nI 1)) = 0) (tif (vp_nar .boolean (nI 0) = (nI 0)) (some (some (vI (nI 0)), G)) none)
  (tif (vp_nar .boolean (nI 1) = (nI 1)) (some (some (vI (nI 1)), G)) none) := (tgo 16 rfl sk_X7_isSpared rfl).trans rfl
def st_X7_isBribed : List (Nat × List Bool) := []
theorem sk_X7_isBribed : ∀ pc bs, tstop st_X7_isBribed pc = some bs → ∃ a, k_X7_isBribed pc = some (aMk bs a) := tstop_ok (fun _ h => absurd h List.not_mem_nil)
set_option maxRecDepth 20000 in
theorem e_X7_isBribed (o0 : Nat) (x1 : Int32) (G : tH) : V_X7_isBribed o0 x1 G = tif ((((gI G 709 (o0)) >>> (x1 &&& 31)) &&& (nI 1)) = 0) (tif (vp_nar .boolean (nI 0) = (nI 0)) (some (some (vI (nI 0)), G)) none)
  (tif (vp_nar .boolean (nI 1) = (nI 1)) (some (some (vI (nI 1)), G)) none) := (tgo 16 rfl sk_X7_isBribed rfl).trans rfl
def st_X7_meansOfAll : List (Nat × List Bool) := [(4, [true, true, true])]
theorem sk_X7_meansOfAll : ∀ pc bs, tstop st_X7_meansOfAll pc = some bs → ∃ a, k_X7_meansOfAll pc = some (aMk bs a) := tstop_ok (List.forall_mem_cons.mpr ⟨⟨_, rfl⟩, fun _ h => absurd h List.not_mem_nil⟩)
set_option maxRecDepth 20000 in
theorem e_X7_meansOfAll (o0 : Nat) (G : tH) : V_X7_meansOfAll o0 G = V_X7_meansOfAll_4 o0 (nI 0) (nI 0) G := (tgo 26 rfl sk_X7_meansOfAll rfl).trans rfl
set_option maxRecDepth 20000 in
theorem e_X7_meansOfAll_4 (o0 : Nat) (x1 : Int32) (x2 : Int32) (G : tH) : V_X7_meansOfAll_4 o0 x1 x2 G = tif (x2 < (gI G 601 (4 * (gR G 700 (o0)) + 0))) (tif (tin x2 6) (V_X7_meansOfAll_4 o0 (x1 + (gA G 701 o0 x2.toNatClampNeg)) (x2 + (nI 1)) G) none)
  (some (some (vI x1), G)) := (tgo 26 rfl sk_X7_meansOfAll rfl).trans rfl
def st_X7_placeBid : List (Nat × List Bool) := []
theorem sk_X7_placeBid : ∀ pc bs, tstop st_X7_placeBid pc = some bs → ∃ a, k_X7_placeBid pc = some (aMk bs a) := tstop_ok (fun _ h => absurd h List.not_mem_nil)
set_option maxRecDepth 20000 in
theorem e_X7_placeBid (o0 : Nat) (x1 : Int32) (x2 : Int32) (G : tH) : V_X7_placeBid o0 x1 x2 G = tbI (V_X7_isHeld o0 G) (fun r_2 G_1 => tif (r_2 = 0) (tbI (V_X6_has (4 * (gR G_1 700 (o0)) + 1) x1 G_1) (fun r_4 G_3 => tif (r_4 = 0) (tif (vp_nar .boolean (nI 0) = (nI 0)) (some (some (vI (nI 0)), G_3)) none)
  (tif (x2 < 0) (tif (vp_nar .boolean (nI 0) = (nI 0)) (some (some (vI (nI 0)), G_3)) none)
  (tif ((nI 9999) < x2) (tif (vp_nar .boolean (nI 0) = (nI 0)) (some (some (vI (nI 0)), G_3)) none)
  (tif (tin x1 5) (tif ((gA G_3 706 o0 x1.toNatClampNeg) < x2) (tif (vp_nar .boolean (nI 0) = (nI 0)) (some (some (vI (nI 0)), G_3)) none)
  (tif (tin x1 5) (let G_5 := sA G_3 707 o0 (upd (gA G_3 707 o0) x1.toNatClampNeg x2)
  tif (vp_nar .boolean (nI 1) = (nI 1)) (some (some (vI (nI 1)), G_5)) none) none)) none)))))
  (tif (vp_nar .boolean (nI 0) = (nI 0)) (some (some (vI (nI 0)), G_1)) none)) := (tgo 34 rfl sk_X7_placeBid rfl).trans rfl
def st_X7_topBidder : List (Nat × List Bool) := [(6, [true, true, true, true])]
theorem sk_X7_topBidder : ∀ pc bs, tstop st_X7_topBidder pc = some bs → ∃ a, k_X7_topBidder pc = some (aMk bs a) := tstop_ok (List.forall_mem_cons.mpr ⟨⟨_, rfl⟩, fun _ h => absurd h List.not_mem_nil⟩)
set_option maxRecDepth 20000 in
theorem e_X7_topBidder (o0 : Nat) (G : tH) : V_X7_topBidder o0 G = V_X7_topBidder_6 o0 (-1 : Int32) (nI 0) (nI 0) G := (tgo 34 rfl sk_X7_topBidder rfl).trans rfl
set_option maxRecDepth 20000 in
theorem e_X7_topBidder_6 (o0 : Nat) (x1 : Int32) (x2 : Int32) (x3 : Int32) (G : tH) : V_X7_topBidder_6 o0 x1 x2 x3 G = tif (x3 < (gI G 601 (4 * (gR G 700 (o0)) + 1))) (tif (tin x3 5) (tif (x2 < (gA G 707 o0 x3.toNatClampNeg)) (tif (tin x3 5) (V_X7_topBidder_6 o0 x3 (gA G 707 o0 x3.toNatClampNeg) (x3 + (nI 1)) G) none)
  (V_X7_topBidder_6 o0 x1 x2 (x3 + (nI 1)) G)) none)
  (some (some (vI x1), G)) := (tgo 34 rfl sk_X7_topBidder rfl).trans rfl
def st_X7_awardTop : List (Nat × List Bool) := [(65, [true, true, false]), (93, [true, false, true])]
theorem sk_X7_awardTop : ∀ pc bs, tstop st_X7_awardTop pc = some bs → ∃ a, k_X7_awardTop pc = some (aMk bs a) := tstop_ok (List.forall_mem_cons.mpr ⟨⟨_, rfl⟩, List.forall_mem_cons.mpr ⟨⟨_, rfl⟩, fun _ h => absurd h List.not_mem_nil⟩⟩)
set_option maxRecDepth 20000 in
theorem e_X7_awardTop (o0 : Nat) (G : tH) : V_X7_awardTop o0 G = tbI (V_X7_topBidder o0 G) (fun r_2 G_1 => tbI (V_X7_isHeld o0 G_1) (fun r_4 G_3 => tif (r_4 = 0) (tif (r_2 = (-1 : Int32)) (some (some (vI (-2 : Int32)), G_3))
  (tif (tin r_2 5) (tif ((gA G_3 506 (gR G_3 700 (o0)) r_2.toNatClampNeg) = (nI 1)) (V_X7_awardTop_93 o0 (nI 0) G_3)
  (tif (tin r_2 5) (tif ((gA G_3 506 (gR G_3 700 (o0)) r_2.toNatClampNeg) = (nI 2)) (tif (tin r_2 5) (tif ((nI 4) = 0) none (V_X7_awardTop_65 o0 r_2 (((gA G_3 707 o0 r_2.toNatClampNeg) * (nI 3)) / (nI 4)) G_3)) none)
  (tif (tin r_2 5) (V_X7_awardTop_65 o0 r_2 (gA G_3 707 o0 r_2.toNatClampNeg) G_3) none)) none)) none))
  (some (some (vI (-2 : Int32)), G_3)))) := (tgo 85 rfl sk_X7_awardTop rfl).trans rfl
set_option maxRecDepth 20000 in
theorem e_X7_awardTop_65 (o0 : Nat) (x1 : Int32) (s0 : Int32) (G : tH) : V_X7_awardTop_65 o0 x1 s0 G = tif (tin x1 5) (tif (tin x1 5) (let G_1 := sA G 706 o0 (upd (gA G 706 o0) x1.toNatClampNeg ((gA G 706 o0 x1.toNatClampNeg) - s0))
  let G_2 := sI G_1 714 (o0) ((gI G_1 714 (o0)) + s0)
  let G_3 := sI G_2 710 (o0) (x1)
  V_X7_awardTop_93 o0 (nI 0) G_3) none) none := (tgo 85 rfl sk_X7_awardTop rfl).trans rfl
set_option maxRecDepth 20000 in
theorem e_X7_awardTop_93 (o0 : Nat) (x2 : Int32) (G : tH) : V_X7_awardTop_93 o0 x2 G = tif (x2 < (nI 5)) (tif (tin x2 5) (let G_1 := sA G 707 o0 (upd (gA G 707 o0) x2.toNatClampNeg (nI 0))
  V_X7_awardTop_93 o0 (x2 + (nI 1)) G_1) none)
  (let G_2 := sI G 711 (o0) ((nI 0))
  let G_3 := sI G_2 713 (o0) ((nI 0))
  let G_4 := sI G_3 709 (o0) ((nI 0))
  some (some (vI (gI G_4 710 (o0))), G_4)) := (tgo 85 rfl sk_X7_awardTop rfl).trans rfl
def st_X7_bringYear : List (Nat × List Bool) := [(35, [true, true, true, true])]
theorem sk_X7_bringYear : ∀ pc bs, tstop st_X7_bringYear pc = some bs → ∃ a, k_X7_bringYear pc = some (aMk bs a) := tstop_ok (List.forall_mem_cons.mpr ⟨⟨_, rfl⟩, fun _ h => absurd h List.not_mem_nil⟩)
set_option maxRecDepth 20000 in
theorem e_X7_bringYear (o0 : Nat) (x1 : Int32) (G : tH) : V_X7_bringYear o0 x1 G = tbI (V_X7_isHeld o0 G) (fun r_2 G_1 => tif (r_2 = 0) (some (some (vI (-1 : Int32)), G_1))
  (tif ((gI G_1 711 (o0)) < (nI 5)) (tbI (V_X6_has (4 * (gR G_1 700 (o0)) + 2) x1 G_1) (fun r_4 G_3 => tif (r_4 = 0) (some (some (vI (-1 : Int32)), G_3))
  (V_X7_bringYear_35 o0 x1 (nI 0) (nI 0) G_3)))
  (some (some (vI (-1 : Int32)), G_1)))) := (tgo 117 rfl sk_X7_bringYear rfl).trans rfl
set_option maxRecDepth 20000 in
theorem e_X7_bringYear_35 (o0 : Nat) (x1 : Int32) (x2 : Int32) (x3 : Int32) (G : tH) : V_X7_bringYear_35 o0 x1 x2 x3 G = tif (x3 < (gI G 601 (4 * (gR G 700 (o0)) + 0))) (tif (tin x3 6) (tif (tin x3 6) (tbI (V_X5_meansWith (gR G 700 (o0)) (gA G 701 o0 x3.toNatClampNeg) (gA G 702 o0 x3.toNatClampNeg) G) (fun r_2 G_1 => tif (tin x3 6) (let G_3 := sA G_1 701 o0 (upd (gA G_1 701 o0) x3.toNatClampNeg r_2)
  tif (tin x3 6) (tif (tin x3 6) (tbI (V_X2_valueOf (2 * (gR G_3 700 (o0)) + 1) (gA G_3 701 o0 x3.toNatClampNeg) (nI 0) (gA G_3 705 o0 x3.toNatClampNeg) G_3) (fun r_5 G_4 => tbI (V_X10_within r_5 (nI 0) (nI 9999) G_4) (fun r_7 G_6 => tif (tin x3 6) (let G_8 := sA G_6 705 o0 (upd (gA G_6 705 o0) x3.toNatClampNeg r_7)
  tif (tin x3 6) (tbI (V_X5_cropOf (gR G_8 700 (o0)) x3 (gA G_8 701 o0 x3.toNatClampNeg) x1 G_8) (fun r_10 G_9 => tif (tin x3 6) (let G_11 := sA G_9 702 o0 (upd (gA G_9 702 o0) x3.toNatClampNeg r_10)
  tif (tin x3 6) (tif (tin x3 6) (let G_12 := sA G_11 703 o0 (upd (gA G_11 703 o0) x3.toNatClampNeg (gA G_11 702 o0 x3.toNatClampNeg))
  tif (tin x3 6) (let G_13 := sA G_12 704 o0 (upd (gA G_12 704 o0) x3.toNatClampNeg (nI 0))
  tif (tin x3 6) (V_X7_bringYear_35 o0 x1 (x2 + (gA G_13 702 o0 x3.toNatClampNeg)) (x3 + (nI 1)) G_13) none) none) none) none) none)) none) none))) none) none) none)) none) none)
  (let G_14 := sI G 708 (o0) ((nI 0))
  let G_15 := sI G_14 711 (o0) ((gI G_14 711 (o0)) + (nI 1))
  let G_16 := sI G_15 712 (o0) ((gI G_15 712 (o0)) + (nI 1))
  some (some (vI x2), G_16)) := (tgo 117 rfl sk_X7_bringYear rfl).trans rfl
def st_X7_takeFrom : List (Nat × List Bool) := []
theorem sk_X7_takeFrom : ∀ pc bs, tstop st_X7_takeFrom pc = some bs → ∃ a, k_X7_takeFrom pc = some (aMk bs a) := tstop_ok (fun _ h => absurd h List.not_mem_nil)
set_option maxRecDepth 20000 in
theorem e_X7_takeFrom (o0 : Nat) (x1 : Int32) (x2 : Int32) (G : tH) : V_X7_takeFrom o0 x1 x2 G = tbI (V_X7_isHeld o0 G) (fun r_2 G_1 => tif (r_2 = 0) (some (some (vI (-1 : Int32)), G_1))
  (tbI (V_X6_has (4 * (gR G_1 700 (o0)) + 0) x1 G_1) (fun r_4 G_3 => tif (r_4 = 0) (some (some (vI (-1 : Int32)), G_3))
  (tbI (V_X7_isSpared o0 x1 G_3) (fun r_6 G_5 => tif (r_6 = 0) (tif (x2 < (nI 1)) (some (some (vI (-1 : Int32)), G_5))
  (tif ((nI 9999) < x2) (some (some (vI (-1 : Int32)), G_5))
  (tif (tin x1 6) (tif ((gA G_5 702 o0 x1.toNatClampNeg) < x2) (some (some (vI (-1 : Int32)), G_5))
  (tif (tin x1 6) (tbI (V_X5_titheOf (gR G_5 700 (o0)) (gA G_5 703 o0 x1.toNatClampNeg) G_5) (fun r_8 G_7 => tif (tin x1 6) (let z_9 : Int32 := if (nI 0) < ((gA G_7 704 o0 x1.toNatClampNeg) - r_8) then ((gA G_7 704 o0 x1.toNatClampNeg) - r_8) else (nI 0)
  tif (tin x1 6) (tif (tin x1 6) (let G_10 := sA G_7 704 o0 (upd (gA G_7 704 o0) x1.toNatClampNeg ((gA G_7 704 o0 x1.toNatClampNeg) + x2))
  tif (tin x1 6) (let z_11 : Int32 := (if (nI 0) < ((gA G_10 704 o0 x1.toNatClampNeg) - r_8) then ((gA G_10 704 o0 x1.toNatClampNeg) - r_8) else (nI 0)) - z_9
  tif (tin x1 6) (tif (tin x1 6) (let G_12 := sA G_10 702 o0 (upd (gA G_10 702 o0) x1.toNatClampNeg ((gA G_10 702 o0 x1.toNatClampNeg) - x2))
  tif (tin (gI G_12 710 (o0)) 5) (tif (tin (gI G_12 710 (o0)) 5) (let G_13 := sA G_12 706 o0 (upd (gA G_12 706 o0) (gI G_12 710 (o0)).toNatClampNeg ((gA G_12 706 o0 (gI G_12 710 (o0)).toNatClampNeg) + x2))
  let G_14 := sI G_13 713 (o0) ((gI G_13 713 (o0)) + z_11)
  tif (tin x1 6) (tbI (V_X5_meansBehind (gR G_14 700 (o0)) x1 (gA G_14 701 o0 x1.toNatClampNeg) z_11 G_14) (fun r_16 G_15 => tif (tin x1 6) (let G_17 := sA G_15 701 o0 (upd (gA G_15 701 o0) x1.toNatClampNeg r_16)
  some (some (vI z_11), G_17)) none)) none) none) none) none) none) none) none) none) none)) none)) none)))
  (some (some (vI (-1 : Int32)), G_5))))))) := (tgo 106 rfl sk_X7_takeFrom rfl).trans rfl
def st_X7_lendTo : List (Nat × List Bool) := []
theorem sk_X7_lendTo : ∀ pc bs, tstop st_X7_lendTo pc = some bs → ∃ a, k_X7_lendTo pc = some (aMk bs a) := tstop_ok (fun _ h => absurd h List.not_mem_nil)
set_option maxRecDepth 20000 in
theorem e_X7_lendTo (o0 : Nat) (x1 : Int32) (x2 : Int32) (G : tH) : V_X7_lendTo o0 x1 x2 G = tbI (V_X7_isHeld o0 G) (fun r_2 G_1 => tif (r_2 = 0) (some (some (vI (-1 : Int32)), G_1))
  (tbI (V_X6_has (4 * (gR G_1 700 (o0)) + 0) x1 G_1) (fun r_4 G_3 => tif (r_4 = 0) (some (some (vI (-1 : Int32)), G_3))
  (tif (x2 < (nI 1)) (some (some (vI (-1 : Int32)), G_3))
  (tif ((nI 9999) < x2) (some (some (vI (-1 : Int32)), G_3))
  (tif (tin (gI G_3 710 (o0)) 5) (tif ((gA G_3 706 o0 (gI G_3 710 (o0)).toNatClampNeg) < x2) (some (some (vI (-1 : Int32)), G_3))
  (tif (tin (gI G_3 710 (o0)) 5) (tif (tin (gI G_3 710 (o0)) 5) (let G_5 := sA G_3 706 o0 (upd (gA G_3 706 o0) (gI G_3 710 (o0)).toNatClampNeg ((gA G_3 706 o0 (gI G_3 710 (o0)).toNatClampNeg) - x2))
  tif (tin x1 6) (tif (tin x1 6) (let G_6 := sA G_5 701 o0 (upd (gA G_5 701 o0) x1.toNatClampNeg (if ((gA G_5 701 o0 x1.toNatClampNeg) + x2) < (nI 9999) then ((gA G_5 701 o0 x1.toNatClampNeg) + x2) else (nI 9999)))
  tif (tin x1 6) (tif (tin x1 6) (let G_7 := sA G_6 705 o0 (upd (gA G_6 705 o0) x1.toNatClampNeg (if ((gA G_6 705 o0 x1.toNatClampNeg) + x2) < (nI 9999) then ((gA G_6 705 o0 x1.toNatClampNeg) + x2) else (nI 9999)))
  tif (tin x1 6) (some (some (vI (gA G_7 705 o0 x1.toNatClampNeg)), G_7)) none) none) none) none) none) none) none)) none)))))) := (tgo 67 rfl sk_X7_lendTo rfl).trans rfl
def st_X7_callIn : List (Nat × List Bool) := []
theorem sk_X7_callIn : ∀ pc bs, tstop st_X7_callIn pc = some bs → ∃ a, k_X7_callIn pc = some (aMk bs a) := tstop_ok (fun _ h => absurd h List.not_mem_nil)
set_option maxRecDepth 20000 in
theorem e_X7_callIn (o0 : Nat) (x1 : Int32) (x2 : Int32) (G : tH) : V_X7_callIn o0 x1 x2 G = tbI (V_X7_isHeld o0 G) (fun r_2 G_1 => tif (r_2 = 0) (some (some (vI (-1 : Int32)), G_1))
  (tbI (V_X6_has (4 * (gR G_1 700 (o0)) + 0) x1 G_1) (fun r_4 G_3 => tif (r_4 = 0) (some (some (vI (-1 : Int32)), G_3))
  (tif (x2 < (nI 1)) (some (some (vI (-1 : Int32)), G_3))
  (tif (tin x1 6) (tif ((gA G_3 705 o0 x1.toNatClampNeg) < x2) (some (some (vI (-1 : Int32)), G_3))
  (tif (tin x1 6) (tif ((gA G_3 701 o0 x1.toNatClampNeg) < x2) (some (some (vI (-1 : Int32)), G_3))
  (tif (tin x1 6) (tif (tin x1 6) (let G_5 := sA G_3 701 o0 (upd (gA G_3 701 o0) x1.toNatClampNeg ((gA G_3 701 o0 x1.toNatClampNeg) - x2))
  tif (tin x1 6) (tif (tin x1 6) (let G_6 := sA G_5 705 o0 (upd (gA G_5 705 o0) x1.toNatClampNeg ((gA G_5 705 o0 x1.toNatClampNeg) - x2))
  tif (tin (gI G_6 710 (o0)) 5) (tif (tin (gI G_6 710 (o0)) 5) (let G_7 := sA G_6 706 o0 (upd (gA G_6 706 o0) (gI G_6 710 (o0)).toNatClampNeg ((gA G_6 706 o0 (gI G_6 710 (o0)).toNatClampNeg) + x2))
  tif (tin x1 6) (some (some (vI (gA G_7 705 o0 x1.toNatClampNeg)), G_7)) none) none) none) none) none) none) none)) none)) none))))) := (tgo 61 rfl sk_X7_callIn rfl).trans rfl
def st_X7_spareTown : List (Nat × List Bool) := [(98, [true, true, false, true])]
theorem sk_X7_spareTown : ∀ pc bs, tstop st_X7_spareTown pc = some bs → ∃ a, k_X7_spareTown pc = some (aMk bs a) := tstop_ok (List.forall_mem_cons.mpr ⟨⟨_, rfl⟩, fun _ h => absurd h List.not_mem_nil⟩)
set_option maxRecDepth 20000 in
theorem e_X7_spareTown (o0 : Nat) (x1 : Int32) (G : tH) : V_X7_spareTown o0 x1 G = tbI (V_X7_isHeld o0 G) (fun r_2 G_1 => tif (r_2 = 0) (some (some (vI (-1 : Int32)), G_1))
  (tbI (V_X6_has (4 * (gR G_1 700 (o0)) + 0) x1 G_1) (fun r_4 G_3 => tif (r_4 = 0) (some (some (vI (-1 : Int32)), G_3))
  (tbI (V_X7_isSpared o0 x1 G_3) (fun r_6 G_5 => tif (r_6 = 0) (tif (tin x1 6) (tif (tin x1 6) (tif (tin x1 6) (tbI (V_X2_valueOf (2 * (gR G_5 700 (o0)) + 0) (gA G_5 701 o0 x1.toNatClampNeg) (gA G_5 702 o0 x1.toNatClampNeg) (gA G_5 705 o0 x1.toNatClampNeg) G_5) (fun r_8 G_7 => tif (tin x1 6) (tbI (V_X10_within r_8 (nI 0) (gA G_7 701 o0 x1.toNatClampNeg) G_7) (fun r_10 G_9 => tif (tin x1 6) (tif ((gA G_9 504 (gR G_9 700 (o0)) x1.toNatClampNeg) = (nI 1)) (tif (tin x1 6) (let z_11 : Int32 := if (gA G_9 701 o0 x1.toNatClampNeg) < ((nI 2) * r_10) then (gA G_9 701 o0 x1.toNatClampNeg) else ((nI 2) * r_10)
  V_X7_spareTown_98 o0 x1 z_11 G_9) none)
  (V_X7_spareTown_98 o0 x1 r_10 G_9)) none)) none)) none) none) none)
  (some (some (vI (-1 : Int32)), G_5))))))) := (tgo 88 rfl sk_X7_spareTown rfl).trans rfl
set_option maxRecDepth 20000 in
theorem e_X7_spareTown_98 (o0 : Nat) (x1 : Int32) (x3 : Int32) (G : tH) : V_X7_spareTown_98 o0 x1 x3 G = tif (tin x1 6) (tif (tin x1 6) (let G_1 := sA G 701 o0 (upd (gA G 701 o0) x1.toNatClampNeg ((gA G 701 o0 x1.toNatClampNeg) - x3))
  tif (tin (gI G_1 710 (o0)) 5) (tif (tin (gI G_1 710 (o0)) 5) (let G_2 := sA G_1 706 o0 (upd (gA G_1 706 o0) (gI G_1 710 (o0)).toNatClampNeg ((gA G_1 706 o0 (gI G_1 710 (o0)).toNatClampNeg) + x3))
  let G_3 := sI G_2 708 (o0) ((gI G_2 708 (o0)) ||| ((nI 1) <<< (x1 &&& 31)))
  some (some (vI x3), G_3)) none) none) none) none := (tgo 88 rfl sk_X7_spareTown rfl).trans rfl
def st_X7_bribeJuror : List (Nat × List Bool) := []
theorem sk_X7_bribeJuror : ∀ pc bs, tstop st_X7_bribeJuror pc = some bs → ∃ a, k_X7_bribeJuror pc = some (aMk bs a) := tstop_ok (fun _ h => absurd h List.not_mem_nil)
set_option maxRecDepth 20000 in
theorem e_X7_bribeJuror (o0 : Nat) (x1 : Int32) (G : tH) : V_X7_bribeJuror o0 x1 G = tbI (V_X7_isHeld o0 G) (fun r_2 G_1 => tif (r_2 = 0) (tif (vp_nar .boolean (nI 0) = (nI 0)) (some (some (vI (nI 0)), G_1)) none)
  (tbI (V_X6_has (4 * (gR G_1 700 (o0)) + 3) x1 G_1) (fun r_4 G_3 => tif (r_4 = 0) (tif (vp_nar .boolean (nI 0) = (nI 0)) (some (some (vI (nI 0)), G_3)) none)
  (tbI (V_X7_isBribed o0 x1 G_3) (fun r_6 G_5 => tif (r_6 = 0) (tif (tin x1 5) (tif (tin (gI G_5 710 (o0)) 5) (tif ((gA G_5 706 o0 (gI G_5 710 (o0)).toNatClampNeg) < (gA G_5 511 (gR G_5 700 (o0)) x1.toNatClampNeg)) (tif (vp_nar .boolean (nI 0) = (nI 0)) (some (some (vI (nI 0)), G_5)) none)
  (tif (tin (gI G_5 710 (o0)) 5) (tif (tin x1 5) (tif (tin (gI G_5 710 (o0)) 5) (let G_7 := sA G_5 706 o0 (upd (gA G_5 706 o0) (gI G_5 710 (o0)).toNatClampNeg ((gA G_5 706 o0 (gI G_5 710 (o0)).toNatClampNeg) - (gA G_5 511 (gR G_5 700 (o0)) x1.toNatClampNeg)))
  let G_8 := sI G_7 709 (o0) ((gI G_7 709 (o0)) ||| ((nI 1) <<< (x1 &&& 31)))
  tif (vp_nar .boolean (nI 1) = (nI 1)) (some (some (vI (nI 1)), G_8)) none) none) none) none)) none) none)
  (tif (vp_nar .boolean (nI 0) = (nI 0)) (some (some (vI (nI 0)), G_5)) none)))))) := (tgo 54 rfl sk_X7_bribeJuror rfl).trans rfl
def st_X7_letsGo : List (Nat × List Bool) := [(58, [true, true, false])]
theorem sk_X7_letsGo : ∀ pc bs, tstop st_X7_letsGo pc = some bs → ∃ a, k_X7_letsGo pc = some (aMk bs a) := tstop_ok (List.forall_mem_cons.mpr ⟨⟨_, rfl⟩, fun _ h => absurd h List.not_mem_nil⟩)
set_option maxRecDepth 20000 in
theorem e_X7_letsGo (o0 : Nat) (x1 : Int32) (G : tH) : V_X7_letsGo o0 x1 G = tbI (V_X7_isHeld o0 G) (fun r_2 G_1 => tif (r_2 = 0) (tif (vp_nar .boolean (nI 0) = (nI 0)) (some (some (vI (nI 0)), G_1)) none)
  (tbI (V_X6_has (4 * (gR G_1 700 (o0)) + 3) x1 G_1) (fun r_4 G_3 => tif (r_4 = 0) (tif (vp_nar .boolean (nI 0) = (nI 0)) (some (some (vI (nI 0)), G_3)) none)
  (tif (tin (gI G_3 710 (o0)) 5) (tif ((gA G_3 506 (gR G_3 700 (o0)) (gI G_3 710 (o0)).toNatClampNeg) = (nI 3)) (V_X7_letsGo_58 o0 x1 ((nI 2) * (gI G_3 513 (gR G_3 700 (o0)))) G_3)
  (V_X7_letsGo_58 o0 x1 (gI G_3 513 (gR G_3 700 (o0))) G_3)) none)))) := (tgo 54 rfl sk_X7_letsGo rfl).trans rfl
set_option maxRecDepth 20000 in
theorem e_X7_letsGo_58 (o0 : Nat) (x1 : Int32) (s0 : Int32) (G : tH) : V_X7_letsGo_58 o0 x1 s0 G = tif (tin x1 5) (tif ((gA G 510 (gR G 700 (o0)) x1.toNatClampNeg) = (gI G 710 (o0))) (tif (vp_nar .boolean (nI 1) = (nI 1)) (some (some (vI (nI 1)), G)) none)
  (tbI (V_X7_isBribed o0 x1 G) (fun r_2 G_1 => tif (r_2 = 0) (tif (s0 < (gI G_1 713 (o0))) (tif (vp_nar .boolean (nI 0) = (nI 0)) (some (some (vI (nI 0)), G_1)) none)
  (tif (vp_nar .boolean (nI 1) = (nI 1)) (some (some (vI (nI 1)), G_1)) none))
  (tif (vp_nar .boolean (nI 1) = (nI 1)) (some (some (vI (nI 1)), G_1)) none)))) none := (tgo 54 rfl sk_X7_letsGo rfl).trans rfl
def st_X7_friends : List (Nat × List Bool) := [(4, [true, true, true])]
theorem sk_X7_friends : ∀ pc bs, tstop st_X7_friends pc = some bs → ∃ a, k_X7_friends pc = some (aMk bs a) := tstop_ok (List.forall_mem_cons.mpr ⟨⟨_, rfl⟩, fun _ h => absurd h List.not_mem_nil⟩)
set_option maxRecDepth 20000 in
theorem e_X7_friends (o0 : Nat) (G : tH) : V_X7_friends o0 G = V_X7_friends_4 o0 (nI 0) (nI 0) G := (tgo 29 rfl sk_X7_friends rfl).trans rfl
set_option maxRecDepth 20000 in
theorem e_X7_friends_4 (o0 : Nat) (x1 : Int32) (x2 : Int32) (G : tH) : V_X7_friends_4 o0 x1 x2 G = tif (x2 < (gI G 601 (4 * (gR G 700 (o0)) + 3))) (tbI (V_X7_letsGo o0 x2 G) (fun r_2 G_1 => tif (r_2 = 0) (V_X7_friends_4 o0 x1 (x2 + (nI 1)) G_1)
  (V_X7_friends_4 o0 (x1 ||| ((nI 1) <<< (x2 &&& 31))) (x2 + (nI 1)) G_1)))
  (some (some (vI x1), G)) := (tgo 29 rfl sk_X7_friends rfl).trans rfl
def st_X7_isEnough : List (Nat × List Bool) := []
theorem sk_X7_isEnough : ∀ pc bs, tstop st_X7_isEnough pc = some bs → ∃ a, k_X7_isEnough pc = some (aMk bs a) := tstop_ok (fun _ h => absurd h List.not_mem_nil)
set_option maxRecDepth 20000 in
theorem e_X7_isEnough (o0 : Nat) (x1 : Int32) (G : tH) : V_X7_isEnough o0 x1 G = tbI (V_J6_bitCount_0f7a4 x1 G) (fun r_2 G_1 => tif (((nI 2) * r_2) < (gI G_1 601 (4 * (gR G_1 700 (o0)) + 3))) (tif (vp_nar .boolean (nI 0) = (nI 0)) (some (some (vI (nI 0)), G_1)) none)
  (tif (vp_nar .boolean (nI 1) = (nI 1)) (some (some (vI (nI 1)), G_1)) none)) := (tgo 18 rfl sk_X7_isEnough rfl).trans rfl
