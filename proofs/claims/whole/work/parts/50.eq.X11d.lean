/-! the equations: X11d -/
def st_X11_mayBribe : List (Nat × List Bool) := []
theorem sk_X11_mayBribe : ∀ pc bs, tstop st_X11_mayBribe pc = some bs → ∃ a, k_X11_mayBribe pc = some (aMk bs a) := tstop_ok (fun _ h => absurd h List.not_mem_nil)
set_option maxRecDepth 20000 in
theorem e_X11_mayBribe (x1 : Int32) (x2 : Int32) (G : tH) : V_X11_mayBribe x1 x2 G = tbI (V_X11_isHeld x1 G) (fun r_2 G_1 => tif (r_2 = 0) (tif (vp_nar .boolean (nI 0) = (nI 0)) (some (some (vI (nI 0)), G_1)) none)
  (tif (tin ((x1 + (nI 51)) + x2) 1403) (tif ((gA G_1 1124 0 ((x1 + (nI 51)) + x2).toNatClampNeg) = 0) (tif (tin (x1 + (nI 0)) 1403) (tif (tin ((x1 + (nI 41)) + (gA G_1 1124 0 (x1 + (nI 0)).toNatClampNeg)) 1403) (tif (tin (((nI 40) + ((nI 2) * x2)) + (nI 1)) 120) (tif ((gA G_1 1124 0 ((x1 + (nI 41)) + (gA G_1 1124 0 (x1 + (nI 0)).toNatClampNeg)).toNatClampNeg) < (gA G_1 1110 0 (((nI 40) + ((nI 2) * x2)) + (nI 1)).toNatClampNeg)) (tif (vp_nar .boolean (nI 0) = (nI 0)) (some (some (vI (nI 0)), G_1)) none)
  (tif (vp_nar .boolean (nI 1) = (nI 1)) (some (some (vI (nI 1)), G_1)) none)) none) none) none)
  (tif (vp_nar .boolean (nI 0) = (nI 0)) (some (some (vI (nI 0)), G_1)) none)) none)) := (tgo 46 rfl sk_X11_mayBribe rfl).trans rfl
def st_X11_bribes : List (Nat × List Bool) := []
theorem sk_X11_bribes : ∀ pc bs, tstop st_X11_bribes pc = some bs → ∃ a, k_X11_bribes pc = some (aMk bs a) := tstop_ok (fun _ h => absurd h List.not_mem_nil)
set_option maxRecDepth 20000 in
theorem e_X11_bribes (x1 : Int32) (x2 : Int32) (G : tH) : V_X11_bribes x1 x2 G = tif (tin (x1 + (nI 0)) 1403) (tif (tin ((x1 + (nI 41)) + (gA G 1124 0 (x1 + (nI 0)).toNatClampNeg)) 1403) (tif (tin (((nI 40) + ((nI 2) * x2)) + (nI 1)) 120) (tif (tin ((x1 + (nI 41)) + (gA G 1124 0 (x1 + (nI 0)).toNatClampNeg)) 1403) (let G_1 := sA G 1124 0 (upd (gA G 1124 0) ((x1 + (nI 41)) + (gA G 1124 0 (x1 + (nI 0)).toNatClampNeg)).toNatClampNeg ((gA G 1124 0 ((x1 + (nI 41)) + (gA G 1124 0 (x1 + (nI 0)).toNatClampNeg)).toNatClampNeg) - (gA G 1110 0 (((nI 40) + ((nI 2) * x2)) + (nI 1)).toNatClampNeg)))
  tif (tin ((x1 + (nI 51)) + x2) 1403) (let G_2 := sA G_1 1124 0 (upd (gA G_1 1124 0) ((x1 + (nI 51)) + x2).toNatClampNeg (nI 1))
  some (none, G_2)) none) none) none) none) none := (tgo 41 rfl sk_X11_bribes rfl).trans rfl
def st_X11_letsGo : List (Nat × List Bool) := [(33, [true, true, true, false])]
theorem sk_X11_letsGo : ∀ pc bs, tstop st_X11_letsGo pc = some bs → ∃ a, k_X11_letsGo pc = some (aMk bs a) := tstop_ok (List.forall_mem_cons.mpr ⟨⟨_, rfl⟩, fun _ h => absurd h List.not_mem_nil⟩)
set_option maxRecDepth 20000 in
theorem e_X11_letsGo (x1 : Int32) (x2 : Int32) (G : tH) : V_X11_letsGo x1 x2 G = tif (tin (x1 + (nI 0)) 1403) (tbI (V_X11_sortOf (gA G 1124 0 (x1 + (nI 0)).toNatClampNeg) G) (fun r_2 G_1 => tif (r_2 = (nI 3)) (tif (tin (nI 5) 120) (V_X11_letsGo_33 x1 x2 ((nI 2) * (gA G_1 1110 0 (nI 5).toNatClampNeg)) G_1) none)
  (tif (tin (nI 5) 120) (V_X11_letsGo_33 x1 x2 (gA G_1 1110 0 (nI 5).toNatClampNeg) G_1) none))) none := (tgo 64 rfl sk_X11_letsGo rfl).trans rfl
set_option maxRecDepth 20000 in
theorem e_X11_letsGo_33 (x1 : Int32) (x2 : Int32) (s0 : Int32) (G : tH) : V_X11_letsGo_33 x1 x2 s0 G = tif (tin ((nI 40) + ((nI 2) * x2)) 120) (tif (tin (x1 + (nI 0)) 1403) (tif ((gA G 1110 0 ((nI 40) + ((nI 2) * x2)).toNatClampNeg) = (gA G 1124 0 (x1 + (nI 0)).toNatClampNeg)) (tif (vp_nar .boolean (nI 1) = (nI 1)) (some (some (vI (nI 1)), G)) none)
  (tif (tin ((x1 + (nI 51)) + x2) 1403) (tif ((gA G 1124 0 ((x1 + (nI 51)) + x2).toNatClampNeg) = (nI 1)) (tif (vp_nar .boolean (nI 1) = (nI 1)) (some (some (vI (nI 1)), G)) none)
  (tif (tin (x1 + (nI 2)) 1403) (tif (s0 < (gA G 1124 0 (x1 + (nI 2)).toNatClampNeg)) (tif (vp_nar .boolean (nI 0) = (nI 0)) (some (some (vI (nI 0)), G)) none)
  (tif (vp_nar .boolean (nI 1) = (nI 1)) (some (some (vI (nI 1)), G)) none)) none)) none)) none) none := (tgo 64 rfl sk_X11_letsGo rfl).trans rfl
def st_X11_isFree : List (Nat × List Bool) := [(5, [true, true, true, true, true])]
theorem sk_X11_isFree : ∀ pc bs, tstop st_X11_isFree pc = some bs → ∃ a, k_X11_isFree pc = some (aMk bs a) := tstop_ok (List.forall_mem_cons.mpr ⟨⟨_, rfl⟩, fun _ h => absurd h List.not_mem_nil⟩)
set_option maxRecDepth 20000 in
theorem e_X11_isFree (x1 : Int32) (x2 : Int32) (G : tH) : V_X11_isFree x1 x2 G = V_X11_isFree_5 x1 x2 (nI 0) (nI 0) G := (tgo 39 rfl sk_X11_isFree rfl).trans rfl
set_option maxRecDepth 20000 in
theorem e_X11_isFree_5 (x1 : Int32) (x2 : Int32) (x3 : Int32) (x4 : Int32) (G : tH) : V_X11_isFree_5 x1 x2 x3 x4 G = tbI (V_X11_jurors G) (fun r_2 G_1 => tif (x4 < r_2) (tbI (V_X11_letsGo x1 x4 G_1) (fun r_4 G_3 => tif (r_4 = 0) (tif (((x2 >>> (x4 &&& 31)) &&& (nI 1)) = (nI 1)) (V_X11_isFree_5 x1 x2 (x3 + (nI 1)) (x4 + (nI 1)) G_3)
  (V_X11_isFree_5 x1 x2 (x3 + (-1 : Int32)) (x4 + (nI 1)) G_3))
  (V_X11_isFree_5 x1 x2 (x3 + (nI 1)) (x4 + (nI 1)) G_3)))
  (tif (x3 < 0) (tif (vp_nar .boolean (nI 0) = (nI 0)) (some (some (vI (nI 0)), G_1)) none)
  (tif (vp_nar .boolean (nI 1) = (nI 1)) (some (some (vI (nI 1)), G_1)) none))) := (tgo 39 rfl sk_X11_isFree rfl).trans rfl
def st_X11_sues : List (Nat × List Bool) := [(64, [true, true, true, true, false]), (115, [true, true, true, true, false])]
theorem sk_X11_sues : ∀ pc bs, tstop st_X11_sues pc = some bs → ∃ a, k_X11_sues pc = some (aMk bs a) := tstop_ok (List.forall_mem_cons.mpr ⟨⟨_, rfl⟩, List.forall_mem_cons.mpr ⟨⟨_, rfl⟩, fun _ h => absurd h List.not_mem_nil⟩⟩)
set_option maxRecDepth 20000 in
theorem e_X11_sues (x1 : Int32) (G : tH) : V_X11_sues x1 G = tbI (V_X11_isFree x1 (nI 0) G) (fun r_2 G_1 => tif (r_2 = 0) (tif (tin (x1 + (nI 0)) 1403) (tif (tin (x1 + (nI 2)) 1403) (tif (tin ((x1 + (nI 41)) + (gA G_1 1124 0 (x1 + (nI 0)).toNatClampNeg)) 1403) (tif ((gA G_1 1124 0 ((x1 + (nI 41)) + (gA G_1 1124 0 (x1 + (nI 0)).toNatClampNeg)).toNatClampNeg) < ((nI 2) * (gA G_1 1124 0 (x1 + (nI 2)).toNatClampNeg))) (tif (tin ((x1 + (nI 41)) + (gA G_1 1124 0 (x1 + (nI 0)).toNatClampNeg)) 1403) (V_X11_sues_64 x1 r_2 (gA G_1 1124 0 (x1 + (nI 0)).toNatClampNeg) (gA G_1 1124 0 ((x1 + (nI 41)) + (gA G_1 1124 0 (x1 + (nI 0)).toNatClampNeg)).toNatClampNeg) G_1) none)
  (V_X11_sues_64 x1 r_2 (gA G_1 1124 0 (x1 + (nI 0)).toNatClampNeg) ((nI 2) * (gA G_1 1124 0 (x1 + (nI 2)).toNatClampNeg)) G_1)) none) none) none)
  (tif (tin (x1 + (nI 2)) 1403) (let G_3 := sA G_1 1124 0 (upd (gA G_1 1124 0) (x1 + (nI 2)).toNatClampNeg (nI 0))
  V_X11_sues_115 x1 r_2 (nI 0) G_3) none)) := (tgo 103 rfl sk_X11_sues rfl).trans rfl
set_option maxRecDepth 20000 in
theorem e_X11_sues_64 (x1 : Int32) (x2 : Int32) (x3 : Int32) (s0 : Int32) (G : tH) : V_X11_sues_64 x1 x2 x3 s0 G = tif (tin ((x1 + (nI 41)) + x3) 1403) (tif (tin ((x1 + (nI 41)) + x3) 1403) (let G_1 := sA G 1124 0 (upd (gA G 1124 0) ((x1 + (nI 41)) + x3).toNatClampNeg ((gA G 1124 0 ((x1 + (nI 41)) + x3).toNatClampNeg) - s0))
  tif (tin (x1 + (nI 3)) 1403) (tif (tin (x1 + (nI 3)) 1403) (let G_2 := sA G_1 1124 0 (upd (gA G_1 1124 0) (x1 + (nI 3)).toNatClampNeg ((gA G_1 1124 0 (x1 + (nI 3)).toNatClampNeg) + s0))
  tif (tin (x1 + (nI 0)) 1403) (let G_3 := sA G_2 1124 0 (upd (gA G_2 1124 0) (x1 + (nI 0)).toNatClampNeg (-1 : Int32))
  tif (tin (x1 + (nI 2)) 1403) (let G_4 := sA G_3 1124 0 (upd (gA G_3 1124 0) (x1 + (nI 2)).toNatClampNeg (nI 0))
  V_X11_sues_115 x1 x2 (nI 0) G_4) none) none) none) none) none) none := (tgo 103 rfl sk_X11_sues rfl).trans rfl
set_option maxRecDepth 20000 in
theorem e_X11_sues_115 (x1 : Int32) (x2 : Int32) (x3 : Int32) (G : tH) : V_X11_sues_115 x1 x2 x3 G = tif (x3 < (nI 5)) (tif (tin ((x1 + (nI 51)) + x3) 1403) (let G_1 := sA G 1124 0 (upd (gA G 1124 0) ((x1 + (nI 51)) + x3).toNatClampNeg (nI 0))
  V_X11_sues_115 x1 x2 (x3 + (nI 1)) G_1) none)
  (tif (vp_nar .boolean x2 = x2) (some (some (vI x2), G)) none) := (tgo 103 rfl sk_X11_sues rfl).trans rfl
def st_X11_mayClose : List (Nat × List Bool) := []
theorem sk_X11_mayClose : ∀ pc bs, tstop st_X11_mayClose pc = some bs → ∃ a, k_X11_mayClose pc = some (aMk bs a) := tstop_ok (fun _ h => absurd h List.not_mem_nil)
set_option maxRecDepth 20000 in
theorem e_X11_mayClose (x1 : Int32) (G : tH) : V_X11_mayClose x1 G = tbI (V_X11_isHeld x1 G) (fun r_2 G_1 => tif (r_2 = 0) (tif (vp_nar .boolean (nI 0) = (nI 0)) (some (some (vI (nI 0)), G_1)) none)
  (tif (tin (x1 + (nI 1)) 1403) (tif ((gA G_1 1124 0 (x1 + (nI 1)).toNatClampNeg) = (nI 5)) (tif (vp_nar .boolean (nI 1) = (nI 1)) (some (some (vI (nI 1)), G_1)) none)
  (tif (vp_nar .boolean (nI 0) = (nI 0)) (some (some (vI (nI 0)), G_1)) none)) none)) := (tgo 21 rfl sk_X11_mayClose rfl).trans rfl
def st_X11_town : List (Nat × List Bool) := []
theorem sk_X11_town : ∀ pc bs, tstop st_X11_town pc = some bs → ∃ a, k_X11_town pc = some (aMk bs a) := tstop_ok (fun _ h => absurd h List.not_mem_nil)
set_option maxRecDepth 20000 in
theorem e_X11_town (x1 : Int32) (x2 : Int32) (G : tH) : V_X11_town x1 x2 G = let G_1 := sI G 1100 (0) ((nI 0))
  tbI (V_X11_isTown x1 G_1) (fun r_3 G_2 => tif (r_3 = 0) (some (some (vI (-1 : Int32)), G_2))
  (tbI (V_X11_within x2 (nI 0) (nI 6) G_2) (fun r_5 G_4 => tif (r_5 = 0) (some (some (vI (-1 : Int32)), G_4))
  (tif (x2 = (nI 0)) (tbI (V_X11_townOf x1 (nI 0) G_4) (fun r_7 G_6 => some (some (vI r_7), G_6)))
  (tif (x2 = (nI 1)) (tif (tin ((nI 5) + x1) 1403) (some (some (vI (gA G_4 1124 0 ((nI 5) + x1).toNatClampNeg)), G_4)) none)
  (tif (x2 = (nI 2)) (tif (tin ((nI 11) + x1) 1403) (some (some (vI (gA G_4 1124 0 ((nI 11) + x1).toNatClampNeg)), G_4)) none)
  (tif (x2 = (nI 3)) (tif (tin ((nI 29) + x1) 1403) (some (some (vI (gA G_4 1124 0 ((nI 29) + x1).toNatClampNeg)), G_4)) none)
  (tif (x2 = (nI 4)) (tif (tin ((nI 23) + x1) 1403) (some (some (vI (gA G_4 1124 0 ((nI 23) + x1).toNatClampNeg)), G_4)) none)
  (tif (x2 = (nI 5)) (tif (tin ((nI 35) + x1) 1403) (some (some (vI (gA G_4 1124 0 ((nI 35) + x1).toNatClampNeg)), G_4)) none)
  (tif (tin ((nI 17) + x1) 1403) (tbI (V_X11_titheOf (gA G_4 1124 0 ((nI 17) + x1).toNatClampNeg) G_4) (fun r_9 G_8 => some (some (vI r_9), G_8))) none)))))))))) := (tgo 70 rfl sk_X11_town rfl).trans rfl
def st_X11_company : List (Nat × List Bool) := []
theorem sk_X11_company : ∀ pc bs, tstop st_X11_company pc = some bs → ∃ a, k_X11_company pc = some (aMk bs a) := tstop_ok (fun _ h => absurd h List.not_mem_nil)
set_option maxRecDepth 20000 in
theorem e_X11_company (x1 : Int32) (x2 : Int32) (G : tH) : V_X11_company x1 x2 G = let G_1 := sI G 1100 (0) ((nI 0))
  tbI (V_X11_isCompany x1 G_1) (fun r_3 G_2 => tif (r_3 = 0) (some (some (vI (-1 : Int32)), G_2))
  (tbI (V_X11_within x2 (nI 0) (nI 2) G_2) (fun r_5 G_4 => tif (r_5 = 0) (some (some (vI (-1 : Int32)), G_4))
  (tif (x2 = 0) (tbI (V_X11_sortOf x1 G_4) (fun r_7 G_6 => some (some (vI r_7), G_6)))
  (tif (x2 = (nI 1)) (tif (tin ((nI 41) + x1) 1403) (some (some (vI (gA G_4 1124 0 ((nI 41) + x1).toNatClampNeg)), G_4)) none)
  (tif (tin ((nI 46) + x1) 1403) (some (some (vI (gA G_4 1124 0 ((nI 46) + x1).toNatClampNeg)), G_4)) none)))))) := (tgo 42 rfl sk_X11_company rfl).trans rfl
def st_X11_juror : List (Nat × List Bool) := []
theorem sk_X11_juror : ∀ pc bs, tstop st_X11_juror pc = some bs → ∃ a, k_X11_juror pc = some (aMk bs a) := tstop_ok (fun _ h => absurd h List.not_mem_nil)
set_option maxRecDepth 20000 in
theorem e_X11_juror (x1 : Int32) (x2 : Int32) (G : tH) : V_X11_juror x1 x2 G = let G_1 := sI G 1100 (0) ((nI 0))
  tbI (V_X11_isJuror x1 G_1) (fun r_3 G_2 => tif (r_3 = 0) (some (some (vI (-2 : Int32)), G_2))
  (tbI (V_X11_within x2 (nI 0) (nI 3) G_2) (fun r_5 G_4 => tif (r_5 = 0) (some (some (vI (-2 : Int32)), G_4))
  (tif (x2 < (nI 2)) (tif (tin (((nI 40) + ((nI 2) * x1)) + x2) 120) (some (some (vI (gA G_4 1110 0 (((nI 40) + ((nI 2) * x1)) + x2).toNatClampNeg)), G_4)) none)
  (tif (x2 = (nI 2)) (tif (tin ((nI 51) + x1) 1403) (some (some (vI (gA G_4 1124 0 ((nI 51) + x1).toNatClampNeg)), G_4)) none)
  (tbI (V_X11_isHeld (nI 0) G_4) (fun r_7 G_6 => tif (r_7 = 0) (some (some (vI (-1 : Int32)), G_6))
  (tbI (V_X11_letsGo (nI 0) x1 G_6) (fun r_9 G_8 => tif (r_9 = 0) (some (some (vI (nI 0)), G_8))
  (some (some (vI (nI 1)), G_8))))))))))) := (tgo 58 rfl sk_X11_juror rfl).trans rfl
def st_X11_holder : List (Nat × List Bool) := []
theorem sk_X11_holder : ∀ pc bs, tstop st_X11_holder pc = some bs → ∃ a, k_X11_holder pc = some (aMk bs a) := tstop_ok (fun _ h => absurd h List.not_mem_nil)
set_option maxRecDepth 20000 in
theorem e_X11_holder (G : tH) : V_X11_holder  G = let G_1 := sI G 1100 (0) ((nI 0))
  tif (tin (nI 0) 1403) (some (some (vI (gA G_1 1124 0 (nI 0).toNatClampNeg)), G_1)) none := (tgo 13 rfl sk_X11_holder rfl).trans rfl
def st_X11_bid : List (Nat × List Bool) := []
theorem sk_X11_bid : ∀ pc bs, tstop st_X11_bid pc = some bs → ∃ a, k_X11_bid pc = some (aMk bs a) := tstop_ok (fun _ h => absurd h List.not_mem_nil)
set_option maxRecDepth 20000 in
theorem e_X11_bid (x1 : Int32) (x2 : Int32) (G : tH) : V_X11_bid x1 x2 G = let G_1 := sI G 1100 (0) ((nI 0))
  tbI (V_X11_isCompany x1 G_1) (fun r_3 G_2 => tif (r_3 = 0) (tif (vp_nar .boolean (nI 0) = (nI 0)) (some (some (vI (nI 0)), G_2)) none)
  (tbI (V_X11_within x2 (nI 0) (nI 9999) G_2) (fun r_5 G_4 => tif (r_5 = 0) (tif (vp_nar .boolean (nI 0) = (nI 0)) (some (some (vI (nI 0)), G_4)) none)
  (tbI (V_X11_mayBid (nI 0) x1 x2 G_4) (fun r_7 G_6 => tif (r_7 = 0) (tif (vp_nar .boolean (nI 0) = (nI 0)) (some (some (vI (nI 0)), G_6)) none)
  (tbV (V_X11_keeps G_6) (fun G_8 => tif (tin ((nI 46) + x1) 1403) (let G_9 := sA G_8 1124 0 (upd (gA G_8 1124 0) ((nI 46) + x1).toNatClampNeg x2)
  tif (vp_nar .boolean (nI 1) = (nI 1)) (some (some (vI (nI 1)), G_9)) none) none))))))) := (tgo 36 rfl sk_X11_bid rfl).trans rfl
def st_X11_award : List (Nat × List Bool) := []
theorem sk_X11_award : ∀ pc bs, tstop st_X11_award pc = some bs → ∃ a, k_X11_award pc = some (aMk bs a) := tstop_ok (fun _ h => absurd h List.not_mem_nil)
set_option maxRecDepth 20000 in
theorem e_X11_award (G : tH) : V_X11_award  G = let G_1 := sI G 1100 (0) ((nI 0))
  tbI (V_X11_mayAward (nI 0) G_1) (fun r_3 G_2 => tif (r_3 = 0) (some (some (vI (-2 : Int32)), G_2))
  (tbV (V_X11_keeps G_2) (fun G_4 => tbI (V_X11_awards (nI 0) G_4) (fun r_6 G_5 => some (some (vI r_6), G_5))))) := (tgo 20 rfl sk_X11_award rfl).trans rfl
def st_X11_year : List (Nat × List Bool) := []
theorem sk_X11_year : ∀ pc bs, tstop st_X11_year pc = some bs → ∃ a, k_X11_year pc = some (aMk bs a) := tstop_ok (fun _ h => absurd h List.not_mem_nil)
set_option maxRecDepth 20000 in
theorem e_X11_year (x1 : Int32) (G : tH) : V_X11_year x1 G = let G_1 := sI G 1100 (0) ((nI 0))
  tbI (V_X11_isHarvest x1 G_1) (fun r_3 G_2 => tif (r_3 = 0) (some (some (vI (-1 : Int32)), G_2))
  (tbI (V_X11_mayYear (nI 0) G_2) (fun r_5 G_4 => tif (r_5 = 0) (some (some (vI (-1 : Int32)), G_4))
  (tbV (V_X11_keeps G_4) (fun G_6 => tbI (V_X11_yearBy (nI 0) x1 G_6) (fun r_8 G_7 => some (some (vI r_8), G_7))))))) := (tgo 25 rfl sk_X11_year rfl).trans rfl
def st_X11_take : List (Nat × List Bool) := []
theorem sk_X11_take : ∀ pc bs, tstop st_X11_take pc = some bs → ∃ a, k_X11_take pc = some (aMk bs a) := tstop_ok (fun _ h => absurd h List.not_mem_nil)
set_option maxRecDepth 20000 in
theorem e_X11_take (x1 : Int32) (x2 : Int32) (G : tH) : V_X11_take x1 x2 G = let G_1 := sI G 1100 (0) ((nI 0))
  tbI (V_X11_isTown x1 G_1) (fun r_3 G_2 => tif (r_3 = 0) (some (some (vI (-1 : Int32)), G_2))
  (tbI (V_X11_within x2 (nI 1) (nI 9999) G_2) (fun r_5 G_4 => tif (r_5 = 0) (some (some (vI (-1 : Int32)), G_4))
  (tbI (V_X11_mayTake (nI 0) x1 x2 G_4) (fun r_7 G_6 => tif (r_7 = 0) (some (some (vI (-1 : Int32)), G_6))
  (tbV (V_X11_keeps G_6) (fun G_8 => tbI (V_X11_takes (nI 0) x1 x2 G_8) (fun r_10 G_9 => some (some (vI r_10), G_9))))))))) := (tgo 33 rfl sk_X11_take rfl).trans rfl
def st_X11_lend : List (Nat × List Bool) := []
theorem sk_X11_lend : ∀ pc bs, tstop st_X11_lend pc = some bs → ∃ a, k_X11_lend pc = some (aMk bs a) := tstop_ok (fun _ h => absurd h List.not_mem_nil)
set_option maxRecDepth 20000 in
theorem e_X11_lend (x1 : Int32) (x2 : Int32) (G : tH) : V_X11_lend x1 x2 G = let G_1 := sI G 1100 (0) ((nI 0))
  tbI (V_X11_isTown x1 G_1) (fun r_3 G_2 => tif (r_3 = 0) (some (some (vI (-1 : Int32)), G_2))
  (tbI (V_X11_within x2 (nI 1) (nI 9999) G_2) (fun r_5 G_4 => tif (r_5 = 0) (some (some (vI (-1 : Int32)), G_4))
  (tbI (V_X11_mayLend (nI 0) x2 G_4) (fun r_7 G_6 => tif (r_7 = 0) (some (some (vI (-1 : Int32)), G_6))
  (tbV (V_X11_keeps G_6) (fun G_8 => tbI (V_X11_lends (nI 0) x1 x2 G_8) (fun r_10 G_9 => some (some (vI r_10), G_9))))))))) := (tgo 32 rfl sk_X11_lend rfl).trans rfl
def st_X11_call : List (Nat × List Bool) := []
theorem sk_X11_call : ∀ pc bs, tstop st_X11_call pc = some bs → ∃ a, k_X11_call pc = some (aMk bs a) := tstop_ok (fun _ h => absurd h List.not_mem_nil)
set_option maxRecDepth 20000 in
theorem e_X11_call (x1 : Int32) (x2 : Int32) (G : tH) : V_X11_call x1 x2 G = let G_1 := sI G 1100 (0) ((nI 0))
  tbI (V_X11_isTown x1 G_1) (fun r_3 G_2 => tif (r_3 = 0) (some (some (vI (-1 : Int32)), G_2))
  (tbI (V_X11_within x2 (nI 1) (nI 9999) G_2) (fun r_5 G_4 => tif (r_5 = 0) (some (some (vI (-1 : Int32)), G_4))
  (tbI (V_X11_mayCall (nI 0) x1 x2 G_4) (fun r_7 G_6 => tif (r_7 = 0) (some (some (vI (-1 : Int32)), G_6))
  (tbV (V_X11_keeps G_6) (fun G_8 => tbI (V_X11_calls (nI 0) x1 x2 G_8) (fun r_10 G_9 => some (some (vI r_10), G_9))))))))) := (tgo 33 rfl sk_X11_call rfl).trans rfl
def st_X11_spare : List (Nat × List Bool) := []
theorem sk_X11_spare : ∀ pc bs, tstop st_X11_spare pc = some bs → ∃ a, k_X11_spare pc = some (aMk bs a) := tstop_ok (fun _ h => absurd h List.not_mem_nil)
set_option maxRecDepth 20000 in
theorem e_X11_spare (x1 : Int32) (G : tH) : V_X11_spare x1 G = let G_1 := sI G 1100 (0) ((nI 0))
  tbI (V_X11_isTown x1 G_1) (fun r_3 G_2 => tif (r_3 = 0) (some (some (vI (-1 : Int32)), G_2))
  (tbI (V_X11_maySpare (nI 0) x1 G_2) (fun r_5 G_4 => tif (r_5 = 0) (some (some (vI (-1 : Int32)), G_4))
  (tbV (V_X11_keeps G_4) (fun G_6 => tbI (V_X11_spares (nI 0) x1 G_6) (fun r_8 G_7 => some (some (vI r_8), G_7))))))) := (tgo 26 rfl sk_X11_spare rfl).trans rfl
def st_X11_bribe : List (Nat × List Bool) := []
theorem sk_X11_bribe : ∀ pc bs, tstop st_X11_bribe pc = some bs → ∃ a, k_X11_bribe pc = some (aMk bs a) := tstop_ok (fun _ h => absurd h List.not_mem_nil)
set_option maxRecDepth 20000 in
theorem e_X11_bribe (x1 : Int32) (G : tH) : V_X11_bribe x1 G = let G_1 := sI G 1100 (0) ((nI 0))
  tbI (V_X11_isJuror x1 G_1) (fun r_3 G_2 => tif (r_3 = 0) (tif (vp_nar .boolean (nI 0) = (nI 0)) (some (some (vI (nI 0)), G_2)) none)
  (tbI (V_X11_mayBribe (nI 0) x1 G_2) (fun r_5 G_4 => tif (r_5 = 0) (tif (vp_nar .boolean (nI 0) = (nI 0)) (some (some (vI (nI 0)), G_4)) none)
  (tbV (V_X11_keeps G_4) (fun G_6 => tbV (V_X11_bribes (nI 0) x1 G_6) (fun G_7 => tif (vp_nar .boolean (nI 1) = (nI 1)) (some (some (vI (nI 1)), G_7)) none)))))) := (tgo 27 rfl sk_X11_bribe rfl).trans rfl
def st_X11_sue : List (Nat × List Bool) := []
theorem sk_X11_sue : ∀ pc bs, tstop st_X11_sue pc = some bs → ∃ a, k_X11_sue pc = some (aMk bs a) := tstop_ok (fun _ h => absurd h List.not_mem_nil)
set_option maxRecDepth 20000 in
theorem e_X11_sue (G : tH) : V_X11_sue  G = let G_1 := sI G 1100 (0) ((nI 0))
  tbI (V_X11_isHeld (nI 0) G_1) (fun r_3 G_2 => tif (r_3 = 0) (some (some (vI (-1 : Int32)), G_2))
  (tbV (V_X11_keeps G_2) (fun G_4 => tbI (V_X11_sues (nI 0) G_4) (fun r_6 G_5 => tif (r_6 = 0) (some (some (vI (nI 0)), G_5))
  (some (some (vI (nI 1)), G_5)))))) := (tgo 24 rfl sk_X11_sue rfl).trans rfl
def st_X11_close : List (Nat × List Bool) := []
theorem sk_X11_close : ∀ pc bs, tstop st_X11_close pc = some bs → ∃ a, k_X11_close pc = some (aMk bs a) := tstop_ok (fun _ h => absurd h List.not_mem_nil)
set_option maxRecDepth 20000 in
theorem e_X11_close (G : tH) : V_X11_close  G = let G_1 := sI G 1100 (0) ((nI 0))
  tbI (V_X11_mayClose (nI 0) G_1) (fun r_3 G_2 => tif (r_3 = 0) (tif (vp_nar .boolean (nI 0) = (nI 0)) (some (some (vI (nI 0)), G_2)) none)
  (tbV (V_X11_keeps G_2) (fun G_4 => tif (tin (nI 0) 1403) (let G_5 := sA G_4 1124 0 (upd (gA G_4 1124 0) (nI 0).toNatClampNeg (-1 : Int32))
  tif (vp_nar .boolean (nI 1) = (nI 1)) (some (some (vI (nI 1)), G_5)) none) none))) := (tgo 23 rfl sk_X11_close rfl).trans rfl
def st_X11_undo : List (Nat × List Bool) := []
theorem sk_X11_undo : ∀ pc bs, tstop st_X11_undo pc = some bs → ∃ a, k_X11_undo pc = some (aMk bs a) := tstop_ok (fun _ h => absurd h List.not_mem_nil)
set_option maxRecDepth 20000 in
theorem e_X11_undo (G : tH) : V_X11_undo  G = let G_1 := sI G 1100 (0) ((nI 0))
  tif ((gI G_1 1125 (0)) = 0) (tif (vp_nar .boolean (nI 0) = (nI 0)) (some (some (vI (nI 0)), G_1)) none)
  (let G_2 := sI G_1 1125 (0) ((gI G_1 1125 (0)) - (nI 1))
  tbV (V_X11_copies ((nI 61) * ((nI 5) + (gI G_2 1125 (0)))) (nI 0) (nI 56) G_2) (fun G_3 => tif (vp_nar .boolean (nI 1) = (nI 1)) (some (some (vI (nI 1)), G_3)) none)) := (tgo 31 rfl sk_X11_undo rfl).trans rfl
def st_X11_mayDo : List (Nat × List Bool) := []
theorem sk_X11_mayDo : ∀ pc bs, tstop st_X11_mayDo pc = some bs → ∃ a, k_X11_mayDo pc = some (aMk bs a) := tstop_ok (fun _ h => absurd h List.not_mem_nil)
set_option maxRecDepth 20000 in
theorem e_X11_mayDo (x1 : Int32) (x2 : Int32) (x3 : Int32) (G : tH) : V_X11_mayDo x1 x2 x3 G = tif (x1 = (nI 0)) (tbI (V_X11_mayBid (nI 1281) x2 x3 G) (fun r_2 G_1 => tif (vp_nar .boolean r_2 = r_2) (some (some (vI r_2), G_1)) none))
  (tif (x1 = (nI 1)) (tbI (V_X11_mayAward (nI 1281) G) (fun r_4 G_3 => tif (vp_nar .boolean r_4 = r_4) (some (some (vI r_4), G_3)) none))
  (tif (x1 = (nI 2)) (tbI (V_X11_mayYear (nI 1281) G) (fun r_6 G_5 => tif (vp_nar .boolean r_6 = r_6) (some (some (vI r_6), G_5)) none))
  (tif (x1 = (nI 3)) (tbI (V_X11_mayTake (nI 1281) x2 x3 G) (fun r_8 G_7 => tif (vp_nar .boolean r_8 = r_8) (some (some (vI r_8), G_7)) none))
  (tif (x1 = (nI 4)) (tbI (V_X11_mayLend (nI 1281) x3 G) (fun r_10 G_9 => tif (vp_nar .boolean r_10 = r_10) (some (some (vI r_10), G_9)) none))
  (tif (x1 = (nI 5)) (tbI (V_X11_mayCall (nI 1281) x2 x3 G) (fun r_12 G_11 => tif (vp_nar .boolean r_12 = r_12) (some (some (vI r_12), G_11)) none))
  (tif (x1 = (nI 6)) (tbI (V_X11_maySpare (nI 1281) x2 G) (fun r_14 G_13 => tif (vp_nar .boolean r_14 = r_14) (some (some (vI r_14), G_13)) none))
  (tif (x1 = (nI 7)) (tbI (V_X11_mayBribe (nI 1281) x2 G) (fun r_16 G_15 => tif (vp_nar .boolean r_16 = r_16) (some (some (vI r_16), G_15)) none))
  (tif (x1 = (nI 8)) (tbI (V_X11_isHeld (nI 1281) G) (fun r_18 G_17 => tif (vp_nar .boolean r_18 = r_18) (some (some (vI r_18), G_17)) none))
  (tbI (V_X11_mayClose (nI 1281) G) (fun r_20 G_19 => tif (vp_nar .boolean r_20 = r_20) (some (some (vI r_20), G_19)) none)))))))))) := (tgo 56 rfl sk_X11_mayDo rfl).trans rfl
def st_X11_does : List (Nat × List Bool) := []
theorem sk_X11_does : ∀ pc bs, tstop st_X11_does pc = some bs → ∃ a, k_X11_does pc = some (aMk bs a) := tstop_ok (fun _ h => absurd h List.not_mem_nil)
set_option maxRecDepth 20000 in
theorem e_X11_does (x1 : Int32) (x2 : Int32) (x3 : Int32) (G : tH) : V_X11_does x1 x2 x3 G = tif (x1 = (nI 0)) (tif (tin ((nI 1327) + x2) 1403) (let G_1 := sA G 1124 0 (upd (gA G 1124 0) ((nI 1327) + x2).toNatClampNeg x3)
  some (none, G_1)) none)
  (tif (x1 = (nI 1)) (tbI (V_X11_awards (nI 1281) G) (fun r_3 G_2 => some (none, G_2)))
  (tif (x1 = (nI 2)) (tbI (V_X11_yearBy (nI 1281) x2 G) (fun r_5 G_4 => some (none, G_4)))
  (tif (x1 = (nI 3)) (tbI (V_X11_takes (nI 1281) x2 x3 G) (fun r_7 G_6 => some (none, G_6)))
  (tif (x1 = (nI 4)) (tbI (V_X11_lends (nI 1281) x2 x3 G) (fun r_9 G_8 => some (none, G_8)))
  (tif (x1 = (nI 5)) (tbI (V_X11_calls (nI 1281) x2 x3 G) (fun r_11 G_10 => some (none, G_10)))
  (tif (x1 = (nI 6)) (tbI (V_X11_spares (nI 1281) x2 G) (fun r_13 G_12 => some (none, G_12)))
  (tif (x1 = (nI 7)) (tbV (V_X11_bribes (nI 1281) x2 G) (fun G_14 => some (none, G_14)))
  (tif (x1 = (nI 8)) (tbI (V_X11_sues (nI 1281) G) (fun r_16 G_15 => some (none, G_15)))
  (tif (tin (nI 1281) 1403) (let G_17 := sA G 1124 0 (upd (gA G 1124 0) (nI 1281).toNatClampNeg (-1 : Int32))
  some (none, G_17)) none))))))))) := (tgo 69 rfl sk_X11_does rfl).trans rfl
def st_X11_meansOf : List (Nat × List Bool) := [(4, [true, true, true, true])]
theorem sk_X11_meansOf : ∀ pc bs, tstop st_X11_meansOf pc = some bs → ∃ a, k_X11_meansOf pc = some (aMk bs a) := tstop_ok (List.forall_mem_cons.mpr ⟨⟨_, rfl⟩, fun _ h => absurd h List.not_mem_nil⟩)
set_option maxRecDepth 20000 in
theorem e_X11_meansOf (x1 : Int32) (G : tH) : V_X11_meansOf x1 G = V_X11_meansOf_4 x1 (nI 0) (nI 0) G := (tgo 28 rfl sk_X11_meansOf rfl).trans rfl
set_option maxRecDepth 20000 in
theorem e_X11_meansOf_4 (x1 : Int32) (x2 : Int32) (x3 : Int32) (G : tH) : V_X11_meansOf_4 x1 x2 x3 G = tbI (V_X11_towns G) (fun r_2 G_1 => tif (x3 < r_2) (tif (tin ((x1 + (nI 5)) + x3) 1403) (V_X11_meansOf_4 x1 (x2 + (gA G_1 1124 0 ((x1 + (nI 5)) + x3).toNatClampNeg)) (x3 + (nI 1)) G_1) none)
  (some (some (vI x2), G_1))) := (tgo 28 rfl sk_X11_meansOf rfl).trans rfl
def st_X11_judged : List (Nat × List Bool) := [(28, [true, true, true, true, false, false]), (110, [true, true, true, true, false, true])]
theorem sk_X11_judged : ∀ pc bs, tstop st_X11_judged pc = some bs → ∃ a, k_X11_judged pc = some (aMk bs a) := tstop_ok (List.forall_mem_cons.mpr ⟨⟨_, rfl⟩, List.forall_mem_cons.mpr ⟨⟨_, rfl⟩, fun _ h => absurd h List.not_mem_nil⟩⟩)
set_option maxRecDepth 20000 in
theorem e_X11_judged (x1 : Int32) (G : tH) : V_X11_judged x1 G = let G_1 := sI G 1100 (0) ((nI 0))
  tbI (V_X11_within x1 (nI 0) (nI 2) G_1) (fun r_3 G_2 => tif (r_3 = 0) (some (some (vI (-2 : Int32)), G_2))
  (tbV (V_X11_starts (nI 1281) G_2) (fun G_4 => V_X11_judged_28 x1 (-1 : Int32) (nI 0) G_4))) := (tgo 99 rfl sk_X11_judged rfl).trans rfl
set_option maxRecDepth 20000 in
theorem e_X11_judged_28 (x1 : Int32) (x2 : Int32) (x3 : Int32) (G : tH) : V_X11_judged_28 x1 x2 x3 G = tif (tin (nI 0) 250) (tif (x3 < (gA G 1121 0 (nI 0).toNatClampNeg)) (tif (tin ((nI 1) + ((nI 3) * x3)) 250) (tif (tin (((nI 1) + ((nI 3) * x3)) + (nI 1)) 250) (tif (tin (((nI 1) + ((nI 3) * x3)) + (nI 2)) 250) (tbI (V_X11_mayDo (gA G 1121 0 ((nI 1) + ((nI 3) * x3)).toNatClampNeg) (gA G 1121 0 (((nI 1) + ((nI 3) * x3)) + (nI 1)).toNatClampNeg) (gA G 1121 0 (((nI 1) + ((nI 3) * x3)) + (nI 2)).toNatClampNeg) G) (fun r_2 G_1 => tif (r_2 = 0) (V_X11_judged_110 x1 x2 x3 r_2 G_1)
  (tif (tin ((nI 1) + ((nI 3) * x3)) 250) (tif (tin (((nI 1) + ((nI 3) * x3)) + (nI 1)) 250) (tif (tin (((nI 1) + ((nI 3) * x3)) + (nI 2)) 250) (tbV (V_X11_does (gA G_1 1121 0 ((nI 1) + ((nI 3) * x3)).toNatClampNeg) (gA G_1 1121 0 (((nI 1) + ((nI 3) * x3)) + (nI 1)).toNatClampNeg) (gA G_1 1121 0 (((nI 1) + ((nI 3) * x3)) + (nI 2)).toNatClampNeg) G_1) (fun G_3 => V_X11_judged_110 x1 x2 x3 r_2 G_3)) none) none) none))) none) none) none)
  (tif (x1 = 0) (some (some (vI x2), G))
  (tif (x1 = (nI 1)) (tif (tin (nI 1284) 1403) (some (some (vI (gA G 1124 0 (nI 1284).toNatClampNeg)), G)) none)
  (tbI (V_X11_meansOf (nI 1281) G) (fun r_5 G_4 => some (some (vI r_5), G_4)))))) none := (tgo 99 rfl sk_X11_judged rfl).trans rfl
set_option maxRecDepth 20000 in
theorem e_X11_judged_110 (x1 : Int32) (x2 : Int32) (x3 : Int32) (x5 : Int32) (G : tH) : V_X11_judged_110 x1 x2 x3 x5 G = tif (x5 = 0) (tif (x2 < 0) (V_X11_judged_28 x1 x3 (x3 + (nI 1)) G)
  (V_X11_judged_28 x1 x2 (x3 + (nI 1)) G))
  (V_X11_judged_28 x1 x2 (x3 + (nI 1)) G) := (tgo 99 rfl sk_X11_judged rfl).trans rfl
