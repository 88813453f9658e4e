/-! the equations: X10b -/
def st_X10_count : List (Nat × List Bool) := []
theorem sk_X10_count : ∀ pc bs, tstop st_X10_count pc = some bs → ∃ a, k_X10_count pc = some (aMk bs a) := tstop_ok (fun _ h => absurd h List.not_mem_nil)
set_option maxRecDepth 20000 in
theorem e_X10_count (x1 : Int32) (G : tH) : V_X10_count x1 G = tif (x1 = (nI 0)) (some (some (vI (gI G 601 (4 * (gR G 1001 (0)) + 0))), G))
  (tif (x1 = (nI 1)) (some (some (vI (gI G 601 (4 * (gR G 1001 (0)) + 1))), G))
  (tif (x1 = (nI 2)) (some (some (vI (gI G 601 (4 * (gR G 1001 (0)) + 2))), G))
  (tif (x1 = (nI 3)) (some (some (vI (gI G 601 (4 * (gR G 1001 (0)) + 3))), G))
  (tif (x1 = (nI 4)) (some (some (vI (gI G 712 (0))), G))
  (tif (x1 = (nI 5)) (some (some (vI (gI G 711 (0))), G))
  (tif (x1 = (nI 6)) (some (some (vI (gI G 713 (0))), G))
  (tif (x1 = (nI 7)) (some (some (vI (gI G 714 (0))), G))
  (tif (x1 = (nI 8)) (tbI (V_X7_meansOfAll 0 G) (fun r_2 G_1 => some (some (vI r_2), G_1)))
  (tif (x1 = (nI 9)) (some (some (vI (gI G 400 (gR G 1003 (0)))), G))
  (tif (x1 = (nI 10)) (tbI (V_X10_talesTold G) (fun r_4 G_3 => some (some (vI r_4), G_3)))
  (tif (x1 = (nI 11)) (some (some (vI (gI G 902 (0))), G))
  (tif (x1 = (nI 12)) (some (some (vI (gI G 801 (0))), G))
  (some (some (vI (-1 : Int32)), G)))))))))))))) := (tgo 64 rfl sk_X10_count rfl).trans rfl
def st_X10_talesTold : List (Nat × List Bool) := [(4, [true, true, true])]
theorem sk_X10_talesTold : ∀ pc bs, tstop st_X10_talesTold pc = some bs → ∃ a, k_X10_talesTold pc = some (aMk bs a) := tstop_ok (List.forall_mem_cons.mpr ⟨⟨_, rfl⟩, fun _ h => absurd h List.not_mem_nil⟩)
set_option maxRecDepth 20000 in
theorem e_X10_talesTold (G : tH) : V_X10_talesTold  G = V_X10_talesTold_4 (nI 0) (nI 0) G := (tgo 23 rfl sk_X10_talesTold rfl).trans rfl
set_option maxRecDepth 20000 in
theorem e_X10_talesTold_4 (x1 : Int32) (x2 : Int32) (G : tH) : V_X10_talesTold_4 x1 x2 G = tif (x2 < (nI 5)) (tif (tin x2 5) (tif ((gA G 1011 0 x2.toNatClampNeg) = (-1 : Int32)) (V_X10_talesTold_4 x1 (x2 + (nI 1)) G)
  (V_X10_talesTold_4 (x1 + (nI 1)) (x2 + (nI 1)) G)) none)
  (some (some (vI x1), G)) := (tgo 23 rfl sk_X10_talesTold rfl).trans rfl
def st_X10_within : List (Nat × List Bool) := []
theorem sk_X10_within : ∀ pc bs, tstop st_X10_within pc = some bs → ∃ a, k_X10_within pc = some (aMk bs a) := tstop_ok (fun _ h => absurd h List.not_mem_nil)
set_option maxRecDepth 20000 in
theorem e_X10_within (x0 : Int32) (x1 : Int32) (x2 : Int32) (G : tH) : V_X10_within x0 x1 x2 G = some (some (vI (if x1 < (if x0 < x2 then x0 else x2) then (if x0 < x2 then x0 else x2) else x1)), G) := (tgo 11 rfl sk_X10_within rfl).trans rfl
