/-! the equations: X7b -/
def st_X7_sueHolder : List (Nat × List Bool) := [(69, [true, true, false])]
theorem sk_X7_sueHolder : ∀ pc bs, tstop st_X7_sueHolder pc = some bs → ∃ a, k_X7_sueHolder pc = some (aMk bs a) := tstop_ok (List.forall_mem_cons.mpr ⟨⟨_, rfl⟩, fun _ h => absurd h List.not_mem_nil⟩)
set_option maxRecDepth 20000 in
theorem e_X7_sueHolder (o0 : Nat) (G : tH) : V_X7_sueHolder o0 G = tbI (V_X7_isHeld o0 G) (fun r_2 G_1 => tif (r_2 = 0) (some (some (vI (-1 : Int32)), G_1))
  (tbI (V_X7_friends o0 G_1) (fun r_4 G_3 => tbI (V_X7_isEnough o0 r_4 G_3) (fun r_6 G_5 => tif (r_6 = 0) (tif (tin (gI G_5 710 (o0)) 5) (let z_7 : Int32 := if ((nI 2) * (gI G_5 713 (o0))) < (gA G_5 706 o0 (gI G_5 710 (o0)).toNatClampNeg) then ((nI 2) * (gI G_5 713 (o0))) else (gA G_5 706 o0 (gI G_5 710 (o0)).toNatClampNeg)
  tif (tin (gI G_5 710 (o0)) 5) (tif (tin (gI G_5 710 (o0)) 5) (let G_8 := sA G_5 706 o0 (upd (gA G_5 706 o0) (gI G_5 710 (o0)).toNatClampNeg ((gA G_5 706 o0 (gI G_5 710 (o0)).toNatClampNeg) - z_7))
  let G_9 := sI G_8 714 (o0) ((gI G_8 714 (o0)) + z_7)
  let G_10 := sI G_9 710 (o0) ((-1 : Int32))
  V_X7_sueHolder_69 o0 r_6 G_10) none) none) none)
  (V_X7_sueHolder_69 o0 r_6 G_5))))) := (tgo 58 rfl sk_X7_sueHolder rfl).trans rfl
set_option maxRecDepth 20000 in
theorem e_X7_sueHolder_69 (o0 : Nat) (x1 : Int32) (G : tH) : V_X7_sueHolder_69 o0 x1 G = let G_1 := sI G 713 (o0) ((nI 0))
  let G_2 := sI G_1 709 (o0) ((nI 0))
  tif (x1 = 0) (some (some (vI (nI 0)), G_2))
  (some (some (vI (nI 1)), G_2)) := (tgo 58 rfl sk_X7_sueHolder rfl).trans rfl
def st_X7_closeLease : List (Nat × List Bool) := []
theorem sk_X7_closeLease : ∀ pc bs, tstop st_X7_closeLease pc = some bs → ∃ a, k_X7_closeLease pc = some (aMk bs a) := tstop_ok (fun _ h => absurd h List.not_mem_nil)
set_option maxRecDepth 20000 in
theorem e_X7_closeLease (o0 : Nat) (G : tH) : V_X7_closeLease o0 G = tbI (V_X7_isHeld o0 G) (fun r_2 G_1 => tif (r_2 = 0) (tif (vp_nar .boolean (nI 0) = (nI 0)) (some (some (vI (nI 0)), G_1)) none)
  (tif ((gI G_1 711 (o0)) < (nI 5)) (tif (vp_nar .boolean (nI 0) = (nI 0)) (some (some (vI (nI 0)), G_1)) none)
  (let G_3 := sI G_1 710 (o0) ((-1 : Int32))
  tif (vp_nar .boolean (nI 1) = (nI 1)) (some (some (vI (nI 1)), G_3)) none))) := (tgo 19 rfl sk_X7_closeLease rfl).trans rfl
def st_X7_cheapestJurors : List (Nat × List Bool) := [(9, [true, true, true, true])]
theorem sk_X7_cheapestJurors : ∀ pc bs, tstop st_X7_cheapestJurors pc = some bs → ∃ a, k_X7_cheapestJurors pc = some (aMk bs a) := tstop_ok (List.forall_mem_cons.mpr ⟨⟨_, rfl⟩, fun _ h => absurd h List.not_mem_nil⟩)
set_option maxRecDepth 20000 in
theorem e_X7_cheapestJurors (o0 : Nat) (G : tH) : V_X7_cheapestJurors o0 G = tbI (V_X7_friends o0 G) (fun r_2 G_1 => V_X7_cheapestJurors_9 o0 r_2 (-1 : Int32) (nI 0) G_1) := (tgo 48 rfl sk_X7_cheapestJurors rfl).trans rfl
set_option maxRecDepth 20000 in
theorem e_X7_cheapestJurors_9 (o0 : Nat) (x1 : Int32) (x2 : Int32) (x3 : Int32) (G : tH) : V_X7_cheapestJurors_9 o0 x1 x2 x3 G = tif (x3 < ((nI 1) <<< ((gI G 601 (4 * (gR G 700 (o0)) + 3)) &&& 31))) (tif ((x3 &&& x1) = 0) (tbI (V_X7_isEnough o0 (x3 ||| x1) G) (fun r_2 G_1 => tif (r_2 = 0) (V_X7_cheapestJurors_9 o0 x1 x2 (x3 + (nI 1)) G_1)
  (tif (x2 = (-1 : Int32)) (V_X7_cheapestJurors_9 o0 x1 x3 (x3 + (nI 1)) G_1)
  (tbI (V_X5_priceOf (gR G_1 700 (o0)) x3 G_1) (fun r_4 G_3 => tbI (V_X5_priceOf (gR G_3 700 (o0)) x2 G_3) (fun r_6 G_5 => tif (r_4 < r_6) (V_X7_cheapestJurors_9 o0 x1 x3 (x3 + (nI 1)) G_5)
  (V_X7_cheapestJurors_9 o0 x1 x2 (x3 + (nI 1)) G_5)))))))
  (V_X7_cheapestJurors_9 o0 x1 x2 (x3 + (nI 1)) G))
  (some (some (vI x2), G)) := (tgo 48 rfl sk_X7_cheapestJurors rfl).trans rfl
def st_X7_savedBy : List (Nat × List Bool) := [(20, [true, true, true, true, false, false]), (41, [true, true, true, true, true, true])]
theorem sk_X7_savedBy : ∀ pc bs, tstop st_X7_savedBy pc = some bs → ∃ a, k_X7_savedBy pc = some (aMk bs a) := tstop_ok (List.forall_mem_cons.mpr ⟨⟨_, rfl⟩, List.forall_mem_cons.mpr ⟨⟨_, rfl⟩, fun _ h => absurd h List.not_mem_nil⟩⟩)
set_option maxRecDepth 20000 in
theorem e_X7_savedBy (o0 : Nat) (x1 : Int32) (x2 : Int32) (G : tH) : V_X7_savedBy o0 x1 x2 G = tbI (V_X7_topBidder o0 G) (fun r_2 G_1 => tif (r_2 = (-1 : Int32)) (some (some (vI (nI 0)), G_1))
  (tif (r_2 = x1) (V_X7_savedBy_20 o0 x1 x2 r_2 G_1)
  (tif (r_2 = x2) (V_X7_savedBy_20 o0 x1 x2 r_2 G_1)
  (some (some (vI (nI 0)), G_1))))) := (tgo 62 rfl sk_X7_savedBy rfl).trans rfl
set_option maxRecDepth 20000 in
theorem e_X7_savedBy_20 (o0 : Nat) (x1 : Int32) (x2 : Int32) (x3 : Int32) (G : tH) : V_X7_savedBy_20 o0 x1 x2 x3 G = tif (tin x3 5) (tif ((gA G 506 (gR G 700 (o0)) x3.toNatClampNeg) = (nI 1)) (some (some (vI (nI 0)), G))
  (V_X7_savedBy_41 o0 x1 x2 x3 (nI 0) (nI 0) G)) none := (tgo 62 rfl sk_X7_savedBy rfl).trans rfl
set_option maxRecDepth 20000 in
theorem e_X7_savedBy_41 (o0 : Nat) (x1 : Int32) (x2 : Int32) (x3 : Int32) (x4 : Int32) (x5 : Int32) (G : tH) : V_X7_savedBy_41 o0 x1 x2 x3 x4 x5 G = tif (x5 < (gI G 601 (4 * (gR G 700 (o0)) + 1))) (tif (x5 = x1) (V_X7_savedBy_41 o0 x1 x2 x3 x4 (x5 + (nI 1)) G)
  (tif (x5 = x2) (V_X7_savedBy_41 o0 x1 x2 x3 x4 (x5 + (nI 1)) G)
  (tif (tin x5 5) (let z_1 : Int32 := if x4 < (gA G 707 o0 x5.toNatClampNeg) then (gA G 707 o0 x5.toNatClampNeg) else x4
  V_X7_savedBy_41 o0 x1 x2 x3 z_1 (x5 + (nI 1)) G) none)))
  (tif (tin x3 5) (some (some (vI (if (nI 0) < (((gA G 707 o0 x3.toNatClampNeg) - x4) - (nI 1)) then (((gA G 707 o0 x3.toNatClampNeg) - x4) - (nI 1)) else (nI 0))), G)) none) := (tgo 62 rfl sk_X7_savedBy rfl).trans rfl
