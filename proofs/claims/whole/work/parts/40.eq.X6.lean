/-! the equations: X6 -/
def st_X6_has : List (Nat × List Bool) := []
theorem sk_X6_has : ∀ pc bs, tstop st_X6_has pc = some bs → ∃ a, k_X6_has pc = some (aMk bs a) := tstop_ok (fun _ h => absurd h List.not_mem_nil)
set_option maxRecDepth 20000 in
theorem e_X6_has (o0 : Nat) (x1 : Int32) (G : tH) : V_X6_has o0 x1 G = tif (x1 < 0) (tif (vp_nar .boolean (nI 0) = (nI 0)) (some (some (vI (nI 0)), G)) none)
  (tif (x1 < (gI G 601 (o0))) (tif (vp_nar .boolean (nI 1) = (nI 1)) (some (some (vI (nI 1)), G)) none)
  (tif (vp_nar .boolean (nI 0) = (nI 0)) (some (some (vI (nI 0)), G)) none)) := (tgo 15 rfl sk_X6_has rfl).trans rfl
def st_X6_isFull : List (Nat × List Bool) := []
theorem sk_X6_isFull : ∀ pc bs, tstop st_X6_isFull pc = some bs → ∃ a, k_X6_isFull pc = some (aMk bs a) := tstop_ok (fun _ h => absurd h List.not_mem_nil)
set_option maxRecDepth 20000 in
theorem e_X6_isFull (o0 : Nat) (G : tH) : V_X6_isFull o0 G = tif ((gI G 601 (o0)) < (Int32.ofNat (talen 600 o0))) (tif (vp_nar .boolean (nI 0) = (nI 0)) (some (some (vI (nI 0)), G)) none)
  (tif (vp_nar .boolean (nI 1) = (nI 1)) (some (some (vI (nI 1)), G)) none) := (tgo 15 rfl sk_X6_isFull rfl).trans rfl
def st_X6_find : List (Nat × List Bool) := [(2, [true, true, false, true])]
theorem sk_X6_find : ∀ pc bs, tstop st_X6_find pc = some bs → ∃ a, k_X6_find pc = some (aMk bs a) := tstop_ok (List.forall_mem_cons.mpr ⟨⟨_, rfl⟩, fun _ h => absurd h List.not_mem_nil⟩)
set_option maxRecDepth 20000 in
theorem e_X6_find (o0 : Nat) (y1 : Int64) (G : tH) : V_X6_find o0 y1 G = V_X6_find_2 o0 y1 (nI 0) G := (tgo 24 rfl sk_X6_find rfl).trans rfl
set_option maxRecDepth 20000 in
theorem e_X6_find_2 (o0 : Nat) (y1 : Int64) (x3 : Int32) (G : tH) : V_X6_find_2 o0 y1 x3 G = tif (x3 < (gI G 601 (o0))) (tif (tin x3 (talen 600 o0)) (tif ((lg_cmp (gB G 600 o0 x3.toNatClampNeg) y1) = 0) (some (some (vI x3), G))
  (V_X6_find_2 o0 y1 (x3 + (nI 1)) G)) none)
  (some (some (vI (-1 : Int32)), G)) := (tgo 24 rfl sk_X6_find rfl).trans rfl
def st_X6_enter : List (Nat × List Bool) := []
theorem sk_X6_enter : ∀ pc bs, tstop st_X6_enter pc = some bs → ∃ a, k_X6_enter pc = some (aMk bs a) := tstop_ok (fun _ h => absurd h List.not_mem_nil)
set_option maxRecDepth 20000 in
theorem e_X6_enter (o0 : Nat) (y1 : Int64) (G : tH) : V_X6_enter o0 y1 G = tbI (V_X6_isFull o0 G) (fun r_2 G_1 => tif (r_2 = 0) (tif (tin (gI G_1 601 (o0)) (talen 600 o0)) (let G_3 := sB G_1 600 o0 (vp_updL (gB G_1 600 o0) (gI G_1 601 (o0)).toNatClampNeg y1)
  let G_4 := sI G_3 601 (o0) ((gI G_3 601 (o0)) + (nI 1))
  some (some (vI ((gI G_4 601 (o0)) - (nI 1))), G_4)) none)
  (some (some (vI (-1 : Int32)), G_1))) := (tgo 27 rfl sk_X6_enter rfl).trans rfl
