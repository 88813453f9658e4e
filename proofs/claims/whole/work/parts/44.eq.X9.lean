/-! the equations: X9 -/
def st_X9_forget : List (Nat × List Bool) := []
theorem sk_X9_forget : ∀ pc bs, tstop st_X9_forget pc = some bs → ∃ a, k_X9_forget pc = some (aMk bs a) := tstop_ok (fun _ h => absurd h List.not_mem_nil)
theorem e_X9_forget (G : tH) : V_X9_forget  G = let G_1 := sI G 902 (0) ((0 : Int32))
  some (none, G_1) := (tgo 9 rfl sk_X9_forget rfl).trans rfl
def st_X9_layDown : List (Nat × List Bool) := []
theorem sk_X9_layDown : ∀ pc bs, tstop st_X9_layDown pc = some bs → ∃ a, k_X9_layDown pc = some (aMk bs a) := tstop_ok (fun _ h => absurd h List.not_mem_nil)
theorem e_X9_layDown (o1 : Nat) (G : tH) : V_X9_layDown o1 G = if tin (gI G 901 (0)) 17 then tbV (V_X7_copyFrom (2 + (gI G 901 (0)).toNatClampNeg) o1 G) (fun G_1 => some (none, G_1)) else none := (tgo 13 rfl sk_X9_layDown rfl).trans rfl
def st_X9_settle : List (Nat × List Bool) := []
theorem sk_X9_settle : ∀ pc bs, tstop st_X9_settle pc = some bs → ∃ a, k_X9_settle pc = some (aMk bs a) := tstop_ok (fun _ h => absurd h List.not_mem_nil)
theorem e_X9_settle (x1 : Int32) (G : tH) : V_X9_settle x1 G = if x1 = 0 then (if vp_nar .boolean x1 = x1 then some (some (vI x1), G) else none)
  else let G_1 := sI G 901 (0) (((gI G 901 (0)) + (1 : Int32)) - ((gI G 901 (0)) + (1 : Int32)) / (17 : Int32) * (17 : Int32))
  let G_2 := sI G_1 902 (0) (if ((gI G_1 902 (0)) + (1 : Int32)) < (16 : Int32) then ((gI G_1 902 (0)) + (1 : Int32)) else (16 : Int32))
  if vp_nar .boolean x1 = x1 then some (some (vI x1), G_2) else none := (tgo 25 rfl sk_X9_settle rfl).trans rfl
def st_X9_goBack : List (Nat × List Bool) := []
theorem sk_X9_goBack : ∀ pc bs, tstop st_X9_goBack pc = some bs → ∃ a, k_X9_goBack pc = some (aMk bs a) := tstop_ok (fun _ h => absurd h List.not_mem_nil)
theorem e_X9_goBack (o1 : Nat) (G : tH) : V_X9_goBack o1 G = if (gI G 902 (0)) = 0 then some (some (vI (0 : Int32)), G)
  else let G_1 := sI G 901 (0) ((((gI G 901 (0)) + (17 : Int32)) - (1 : Int32)) - (((gI G 901 (0)) + (17 : Int32)) - (1 : Int32)) / (17 : Int32) * (17 : Int32))
  let G_2 := sI G_1 902 (0) ((gI G_1 902 (0)) - (1 : Int32))
  if tin (gI G_2 901 (0)) 17 then tbV (V_X7_copyFrom o1 (2 + (gI G_2 901 (0)).toNatClampNeg) G_2) (fun G_3 => some (some (vI (1 : Int32)), G_3)) else none := (tgo 35 rfl sk_X9_goBack rfl).trans rfl
