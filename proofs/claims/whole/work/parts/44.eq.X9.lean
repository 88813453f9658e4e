/-! the equations: X9 -/
def st_X9_forget : List (Nat × List Bool) := []
theorem sk_X9_forget : ∀ pc bs, tstop st_X9_forget pc = some bs → ∃ a, k_X9_forget pc = some (aMk bs a) := tstop_ok (fun _ h => absurd h List.not_mem_nil)
set_option maxRecDepth 20000 in
theorem e_X9_forget (G : tH) : V_X9_forget  G = let G_1 := sI G 902 (0) ((nI 0))
  some (none, G_1) := (tgo 9 rfl sk_X9_forget rfl).trans rfl
def st_X9_layDown : List (Nat × List Bool) := []
theorem sk_X9_layDown : ∀ pc bs, tstop st_X9_layDown pc = some bs → ∃ a, k_X9_layDown pc = some (aMk bs a) := tstop_ok (fun _ h => absurd h List.not_mem_nil)
set_option maxRecDepth 20000 in
theorem e_X9_layDown (o1 : Nat) (G : tH) : V_X9_layDown o1 G = tif (tin (gI G 901 (0)) 17) (tbV (V_X7_copyFrom (2 + (gI G 901 (0)).toNatClampNeg) o1 G) (fun G_1 => some (none, G_1))) none := (tgo 13 rfl sk_X9_layDown rfl).trans rfl
def st_X9_settle : List (Nat × List Bool) := []
theorem sk_X9_settle : ∀ pc bs, tstop st_X9_settle pc = some bs → ∃ a, k_X9_settle pc = some (aMk bs a) := tstop_ok (fun _ h => absurd h List.not_mem_nil)
set_option maxRecDepth 20000 in
theorem e_X9_settle (x1 : Int32) (G : tH) : V_X9_settle x1 G = tif (x1 = 0) (tif (vp_nar .boolean x1 = x1) (some (some (vI x1), G)) none)
  (tif ((nI 17) = 0) none (let G_1 := sI G 901 (0) (((gI G 901 (0)) + (nI 1)) - ((gI G 901 (0)) + (nI 1)) / (nI 17) * (nI 17))
  let G_2 := sI G_1 902 (0) (if ((gI G_1 902 (0)) + (nI 1)) < (nI 16) then ((gI G_1 902 (0)) + (nI 1)) else (nI 16))
  tif (vp_nar .boolean x1 = x1) (some (some (vI x1), G_2)) none)) := (tgo 25 rfl sk_X9_settle rfl).trans rfl
def st_X9_goBack : List (Nat × List Bool) := []
theorem sk_X9_goBack : ∀ pc bs, tstop st_X9_goBack pc = some bs → ∃ a, k_X9_goBack pc = some (aMk bs a) := tstop_ok (fun _ h => absurd h List.not_mem_nil)
set_option maxRecDepth 20000 in
theorem e_X9_goBack (o1 : Nat) (G : tH) : V_X9_goBack o1 G = tif ((gI G 902 (0)) = 0) (tif (vp_nar .boolean (nI 0) = (nI 0)) (some (some (vI (nI 0)), G)) none)
  (tif ((nI 17) = 0) none (let G_1 := sI G 901 (0) ((((gI G 901 (0)) + (nI 17)) - (nI 1)) - (((gI G 901 (0)) + (nI 17)) - (nI 1)) / (nI 17) * (nI 17))
  let G_2 := sI G_1 902 (0) ((gI G_1 902 (0)) - (nI 1))
  tif (tin (gI G_2 901 (0)) 17) (tbV (V_X7_copyFrom o1 (2 + (gI G_2 901 (0)).toNatClampNeg) G_2) (fun G_3 => tif (vp_nar .boolean (nI 1) = (nI 1)) (some (some (vI (nI 1)), G_3)) none)) none)) := (tgo 35 rfl sk_X9_goBack rfl).trans rfl
