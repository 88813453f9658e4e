/-! the equations: X1 -/
def st_X1_seek : List (Nat × List Bool) := []
theorem sk_X1_seek : ∀ pc bs, tstop st_X1_seek pc = some bs → ∃ a, k_X1_seek pc = some (aMk bs a) := tstop_ok (fun _ h => absurd h List.not_mem_nil)
theorem e_X1_seek (o1 : Nat) (x2 : Int32) (x3 : Int32) (x4 : Int32) (G : tH) : V_X1_seek o1 x2 x3 x4 G = let G_1 := sR G 100 (0) (gR G 700 (o1))
  let G_2 := sI G_1 101 (0) (x2)
  let G_3 := sI G_2 102 (0) (x3)
  let G_4 := sI G_3 103 (0) (if (5 : Int32) < x4 then (5 : Int32) else x4)
  let G_5 := sI G_4 106 (0) ((-1 : Int32))
  let G_6 := sI G_5 107 (0) ((-1 : Int32))
  if tin x2 6 then (if tin x2 6 then tbV (V_X1_gatherFrom (trank 7 [vR 1 0, vI (0 : Int32), vI (gA G_6 701 o1 x2.toNatClampNeg), vI (gA G_6 702 o1 x2.toNatClampNeg), vI (0 : Int32)]) (0 : Int32) (gA G_6 701 o1 x2.toNatClampNeg) (gA G_6 702 o1 x2.toNatClampNeg) (0 : Int32) G_6) (fun G_7 => some (none, G_7)) else none) else none := (tgo 39 rfl sk_X1_seek rfl).trans rfl
def st_X1_gatherFrom : List (Nat × List Bool) := [(49, [true, true, false, false, true, true, true, true, false])]
theorem sk_X1_gatherFrom : ∀ pc bs, tstop st_X1_gatherFrom pc = some bs → ∃ a, k_X1_gatherFrom pc = some (aMk bs a) := tstop_ok (List.forall_mem_cons.mpr ⟨⟨_, rfl⟩, fun _ h => absurd h List.not_mem_nil⟩)
theorem e_X1_gatherFrom (d : Nat) (x1 : Int32) (x2 : Int32) (x3 : Int32) (x4 : Int32) (G : tH) : V_X1_gatherFrom d x1 x2 x3 x4 G = if x1 < (gI G 103 (0)) then tbI (V_X5_meansWith (gR G 100 (0)) x2 x3 G) (fun r_2 G_1 => tbI (V_X5_cropOf (gR G_1 100 (0)) (gI G_1 101 (0)) r_2 (gI G_1 102 (0)) G_1) (fun r_4 G_3 => V_X1_gatherFrom_49 d x1 x4 r_2 r_4 (0 : Int32) G_3))
  else tbV (V_X1_keepIfBetter x2 x4 G) (fun G_5 => some (none, G_5)) := (tgo 64 rfl sk_X1_gatherFrom rfl).trans rfl
theorem e_X1_gatherFrom_49 (d : Nat) (x1 : Int32) (x4 : Int32) (x5 : Int32) (x6 : Int32) (x7 : Int32) (G : tH) : V_X1_gatherFrom_49 d x1 x4 x5 x6 x7 G = if (4 : Int32) < x7 then some (none, G)
  else if tin x1 5 then (let G_1 := sA G 104 0 (upd (gA G 104 0) x1.toNatClampNeg x7)
  tbI (V_X1_meansLeft x5 x6 ((x6 * x7) / (4 : Int32)) G_1) (fun r_3 G_2 => tbV (cond (Nat.blt (trank 7 [vR 1 0, vI (x1 + (1 : Int32)), vI r_3, vI (x6 - ((x6 * x7) / (4 : Int32))), vI (x4 + ((x6 * x7) / (4 : Int32)))]) d && true) (V_X1_gatherFrom (trank 7 [vR 1 0, vI (x1 + (1 : Int32)), vI r_3, vI (x6 - ((x6 * x7) / (4 : Int32))), vI (x4 + ((x6 * x7) / (4 : Int32)))]) (x1 + (1 : Int32)) r_3 (x6 - ((x6 * x7) / (4 : Int32))) (x4 + ((x6 * x7) / (4 : Int32))) G_2) none) (fun G_4 => V_X1_gatherFrom_49 d x1 x4 x5 x6 (x7 + (1 : Int32)) G_4))) else none := (tgo 64 rfl sk_X1_gatherFrom rfl).trans rfl
def st_X1_meansLeft : List (Nat × List Bool) := []
theorem sk_X1_meansLeft : ∀ pc bs, tstop st_X1_meansLeft pc = some bs → ∃ a, k_X1_meansLeft pc = some (aMk bs a) := tstop_ok (fun _ h => absurd h List.not_mem_nil)
theorem e_X1_meansLeft (x1 : Int32) (x2 : Int32) (x3 : Int32) (G : tH) : V_X1_meansLeft x1 x2 x3 G = tbI (V_X5_titheOf (gR G 100 (0)) x2 G) (fun r_2 G_1 => tbI (V_X5_meansBehind (gR G 100 (0)) (gI G 101 (0)) x1 (if (0 : Int32) < (x3 - r_2) then (x3 - r_2) else (0 : Int32)) G_1) (fun r_4 G_3 => some (some (vI r_4), G_3))) := (tgo 20 rfl sk_X1_meansLeft rfl).trans rfl
def st_X1_keepIfBetter : List (Nat × List Bool) := [(24, [true, true, true])]
theorem sk_X1_keepIfBetter : ∀ pc bs, tstop st_X1_keepIfBetter pc = some bs → ∃ a, k_X1_keepIfBetter pc = some (aMk bs a) := tstop_ok (List.forall_mem_cons.mpr ⟨⟨_, rfl⟩, fun _ h => absurd h List.not_mem_nil⟩)
theorem e_X1_keepIfBetter (x1 : Int32) (x2 : Int32) (G : tH) : V_X1_keepIfBetter x1 x2 G = if (gI G 106 (0)) < x2 then V_X1_keepIfBetter_24 x1 x2 G
  else if x2 = (gI G 106 (0)) then (if (gI G 107 (0)) < x1 then V_X1_keepIfBetter_24 x1 x2 G
  else some (none, G))
  else some (none, G) := (tgo 32 rfl sk_X1_keepIfBetter rfl).trans rfl
theorem e_X1_keepIfBetter_24 (x1 : Int32) (x2 : Int32) (G : tH) : V_X1_keepIfBetter_24 x1 x2 G = let G_1 := sI G 106 (0) (x2)
  let G_2 := sI G_1 107 (0) (x1)
  let G_3 := sA G_2 105 0 (va_cpy (gA G_2 104 0) (gA G_2 105 0) (0 : Int32).toNatClampNeg (0 : Int32).toNatClampNeg (5 : Int32).toNatClampNeg)
  some (none, G_3) := (tgo 32 rfl sk_X1_keepIfBetter rfl).trans rfl
def st_X1_highestRate : List (Nat × List Bool) := [(22, [true, true, true, false, true, true])]
theorem sk_X1_highestRate : ∀ pc bs, tstop st_X1_highestRate pc = some bs → ∃ a, k_X1_highestRate pc = some (aMk bs a) := tstop_ok (List.forall_mem_cons.mpr ⟨⟨_, rfl⟩, fun _ h => absurd h List.not_mem_nil⟩)
theorem e_X1_highestRate (o1 : Nat) (x2 : Int32) (x3 : Int32) (x4 : Int32) (G : tH) : V_X1_highestRate o1 x2 x3 x4 G = let G_1 := sR G 100 (0) (gR G 700 (o1))
  let G_2 := sI G_1 101 (0) (x2)
  let G_3 := sI G_2 102 (0) (x3)
  V_X1_highestRate_22 o1 x2 x4 (100 : Int32) G_3 := (tgo 42 rfl sk_X1_highestRate rfl).trans rfl
theorem e_X1_highestRate_22 (o1 : Nat) (x2 : Int32) (x4 : Int32) (x5 : Int32) (G : tH) : V_X1_highestRate_22 o1 x2 x4 x5 G = if 0 < x5 then (if tin x2 6 then (if tin x2 6 then (tbI (V_X1_meansByRate x5 x4 (gA G 701 o1 x2.toNatClampNeg) (gA G 702 o1 x2.toNatClampNeg) G) (fun r_2 G_1 => if tin x2 6 then (if r_2 < (gA G_1 701 o1 x2.toNatClampNeg) then V_X1_highestRate_22 o1 x2 x4 (x5 + (-1 : Int32)) G_1
  else some (some (vI x5), G_1)) else none)) else none) else none)
  else some (some (vI (0 : Int32)), G) := (tgo 42 rfl sk_X1_highestRate rfl).trans rfl
def st_X1_meansByRate : List (Nat × List Bool) := [(10, [true, true, true, false, false, true, true, true, false, false])]
theorem sk_X1_meansByRate : ∀ pc bs, tstop st_X1_meansByRate pc = some bs → ∃ a, k_X1_meansByRate pc = some (aMk bs a) := tstop_ok (List.forall_mem_cons.mpr ⟨⟨_, rfl⟩, fun _ h => absurd h List.not_mem_nil⟩)
theorem e_X1_meansByRate (x1 : Int32) (x2 : Int32) (x3 : Int32) (x4 : Int32) (G : tH) : V_X1_meansByRate x1 x2 x3 x4 G = V_X1_meansByRate_10 x1 x2 x3 x4 (0 : Int32) G := (tgo 49 rfl sk_X1_meansByRate rfl).trans rfl
theorem e_X1_meansByRate_10 (x1 : Int32) (x2 : Int32) (x5 : Int32) (x6 : Int32) (x7 : Int32) (G : tH) : V_X1_meansByRate_10 x1 x2 x5 x6 x7 G = if x7 < x2 then tbI (V_X5_meansWith (gR G 100 (0)) x5 x6 G) (fun r_2 G_1 => tbI (V_X5_cropOf (gR G_1 100 (0)) (gI G_1 101 (0)) r_2 (gI G_1 102 (0)) G_1) (fun r_4 G_3 => tbI (V_X1_meansLeft r_2 r_4 ((r_4 * x1) / (100 : Int32)) G_3) (fun r_6 G_5 => V_X1_meansByRate_10 x1 x2 r_6 (r_4 - ((r_4 * x1) / (100 : Int32))) (x7 + (1 : Int32)) G_5)))
  else some (some (vI x5), G) := (tgo 49 rfl sk_X1_meansByRate rfl).trans rfl
