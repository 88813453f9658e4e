/-! the equations: X10b -/
def st_X10_count : List (Nat × List Bool) := []
theorem sk_X10_count : ∀ pc bs, tstop st_X10_count pc = some bs → ∃ a, k_X10_count pc = some (aMk bs a) := tstop_ok (fun _ h => absurd h List.not_mem_nil)
theorem e_X10_count (x1 : Int32) (G : tH) : V_X10_count x1 G = if x1 = (0 : Int32) then some (some (vI (gI G 601 (4 * (gR G 1001 (0)) + 0))), G)
  else if x1 = (1 : Int32) then some (some (vI (gI G 601 (4 * (gR G 1001 (0)) + 1))), G)
  else if x1 = (2 : Int32) then some (some (vI (gI G 601 (4 * (gR G 1001 (0)) + 2))), G)
  else if x1 = (3 : Int32) then some (some (vI (gI G 601 (4 * (gR G 1001 (0)) + 3))), G)
  else if x1 = (4 : Int32) then some (some (vI (gI G 712 (0))), G)
  else if x1 = (5 : Int32) then some (some (vI (gI G 711 (0))), G)
  else if x1 = (6 : Int32) then some (some (vI (gI G 713 (0))), G)
  else if x1 = (7 : Int32) then some (some (vI (gI G 714 (0))), G)
  else if x1 = (8 : Int32) then tbI (V_X7_meansOfAll 0 G) (fun r_2 G_1 => some (some (vI r_2), G_1))
  else if x1 = (9 : Int32) then some (some (vI (gI G 400 (gR G 1003 (0)))), G)
  else if x1 = (10 : Int32) then tbI (V_X10_talesTold G) (fun r_4 G_3 => some (some (vI r_4), G_3))
  else if x1 = (11 : Int32) then some (some (vI (gI G 902 (0))), G)
  else if x1 = (12 : Int32) then some (some (vI (gI G 801 (0))), G)
  else some (some (vI (-1 : Int32)), G) := (tgo 64 rfl sk_X10_count rfl).trans rfl
def st_X10_talesTold : List (Nat × List Bool) := [(4, [true, true, true])]
theorem sk_X10_talesTold : ∀ pc bs, tstop st_X10_talesTold pc = some bs → ∃ a, k_X10_talesTold pc = some (aMk bs a) := tstop_ok (List.forall_mem_cons.mpr ⟨⟨_, rfl⟩, fun _ h => absurd h List.not_mem_nil⟩)
theorem e_X10_talesTold (G : tH) : V_X10_talesTold  G = V_X10_talesTold_4 (0 : Int32) (0 : Int32) G := (tgo 23 rfl sk_X10_talesTold rfl).trans rfl
theorem e_X10_talesTold_4 (x1 : Int32) (x2 : Int32) (G : tH) : V_X10_talesTold_4 x1 x2 G = if x2 < (5 : Int32) then (if tin x2 5 then (if (gA G 1011 0 x2.toNatClampNeg) = (-1 : Int32) then V_X10_talesTold_4 x1 (x2 + (1 : Int32)) G
  else V_X10_talesTold_4 (x1 + (1 : Int32)) (x2 + (1 : Int32)) G) else none)
  else some (some (vI x1), G) := (tgo 23 rfl sk_X10_talesTold rfl).trans rfl
def st_X10_within : List (Nat × List Bool) := []
theorem sk_X10_within : ∀ pc bs, tstop st_X10_within pc = some bs → ∃ a, k_X10_within pc = some (aMk bs a) := tstop_ok (fun _ h => absurd h List.not_mem_nil)
theorem e_X10_within (x0 : Int32) (x1 : Int32) (x2 : Int32) (G : tH) : V_X10_within x0 x1 x2 G = some (some (vI (if x1 < (if x0 < x2 then x0 else x2) then (if x0 < x2 then x0 else x2) else x1)), G) := (tgo 11 rfl sk_X10_within rfl).trans rfl
