/-! the equations: X6 -/
def st_X6_has : List (Nat × List Bool) := []
theorem sk_X6_has : ∀ pc bs, tstop st_X6_has pc = some bs → ∃ a, k_X6_has pc = some (aMk bs a) := tstop_ok (fun _ h => absurd h List.not_mem_nil)
theorem e_X6_has (o0 : Nat) (x1 : Int32) (G : tH) : V_X6_has o0 x1 G = if x1 < 0 then some (some (vI (0 : Int32)), G)
  else if x1 < (gI G 601 (o0)) then some (some (vI (1 : Int32)), G)
  else some (some (vI (0 : Int32)), G) := (tgo 15 rfl sk_X6_has rfl).trans rfl
def st_X6_isFull : List (Nat × List Bool) := []
theorem sk_X6_isFull : ∀ pc bs, tstop st_X6_isFull pc = some bs → ∃ a, k_X6_isFull pc = some (aMk bs a) := tstop_ok (fun _ h => absurd h List.not_mem_nil)
theorem e_X6_isFull (o0 : Nat) (G : tH) : V_X6_isFull o0 G = if (gI G 601 (o0)) < (Int32.ofNat (talen 600 o0)) then some (some (vI (0 : Int32)), G)
  else some (some (vI (1 : Int32)), G) := (tgo 15 rfl sk_X6_isFull rfl).trans rfl
def st_X6_find : List (Nat × List Bool) := [(2, [true, true, false, true])]
theorem sk_X6_find : ∀ pc bs, tstop st_X6_find pc = some bs → ∃ a, k_X6_find pc = some (aMk bs a) := tstop_ok (List.forall_mem_cons.mpr ⟨⟨_, rfl⟩, fun _ h => absurd h List.not_mem_nil⟩)
theorem e_X6_find (o0 : Nat) (y1 : Int64) (G : tH) : V_X6_find o0 y1 G = V_X6_find_2 o0 y1 (0 : Int32) G := (tgo 24 rfl sk_X6_find rfl).trans rfl
theorem e_X6_find_2 (o0 : Nat) (y1 : Int64) (x3 : Int32) (G : tH) : V_X6_find_2 o0 y1 x3 G = if x3 < (gI G 601 (o0)) then (if tin x3 (talen 600 o0) then (if (lg_cmp (gB G 600 o0 x3.toNatClampNeg) y1) = 0 then some (some (vI x3), G)
  else V_X6_find_2 o0 y1 (x3 + (1 : Int32)) G) else none)
  else some (some (vI (-1 : Int32)), G) := (tgo 24 rfl sk_X6_find rfl).trans rfl
def st_X6_enter : List (Nat × List Bool) := []
theorem sk_X6_enter : ∀ pc bs, tstop st_X6_enter pc = some bs → ∃ a, k_X6_enter pc = some (aMk bs a) := tstop_ok (fun _ h => absurd h List.not_mem_nil)
theorem e_X6_enter (o0 : Nat) (y1 : Int64) (G : tH) : V_X6_enter o0 y1 G = tbI (V_X6_isFull o0 G) (fun r_2 G_1 => if r_2 = 0 then (if tin (gI G_1 601 (o0)) (talen 600 o0) then (let G_3 := sB G_1 600 o0 (vp_updL (gB G_1 600 o0) (gI G_1 601 (o0)).toNatClampNeg y1)
  let G_4 := sI G_3 601 (o0) ((gI G_3 601 (o0)) + (1 : Int32))
  some (some (vI ((gI G_4 601 (o0)) - (1 : Int32))), G_4)) else none)
  else some (some (vI (-1 : Int32)), G_1)) := (tgo 27 rfl sk_X6_enter rfl).trans rfl
