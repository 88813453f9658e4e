/-! the equations: X1 -/
def st_X1_seek : List (Nat × List Bool) := []
theorem sk_X1_seek : ∀ pc bs, tstop st_X1_seek pc = some bs → ∃ a, k_X1_seek pc = some (aMk bs a) := tstop_ok (fun _ h => absurd h List.not_mem_nil)
set_option maxRecDepth 20000 in
theorem e_X1_seek (o1 : Nat) (x2 : Int32) (x3 : Int32) (x4 : Int32) (G : tH) : V_X1_seek o1 x2 x3 x4 G = let G_1 := sR G 100 (0) (gR G 700 (o1))
  let G_2 := sI G_1 101 (0) (x2)
  let G_3 := sI G_2 102 (0) (x3)
  let G_4 := sI G_3 103 (0) (if (nI 5) < x4 then (nI 5) else x4)
  let G_5 := sI G_4 106 (0) ((-1 : Int32))
  let G_6 := sI G_5 107 (0) ((-1 : Int32))
  tif (tin x2 6) (tif (tin x2 6) (tbV (V_X1_gatherFrom (6 - (nI 0).toInt).toNat (nI 0) (gA G_6 701 o1 x2.toNatClampNeg) (gA G_6 702 o1 x2.toNatClampNeg) (nI 0) G_6) (fun G_7 => some (none, G_7))) none) none := (tgo 39 rfl sk_X1_seek rfl).trans rfl
def st_X1_gatherFrom : List (Nat × List Bool) := [(49, [true, true, false, false, true, true, true, true, false])]
theorem sk_X1_gatherFrom : ∀ pc bs, tstop st_X1_gatherFrom pc = some bs → ∃ a, k_X1_gatherFrom pc = some (aMk bs a) := tstop_ok (List.forall_mem_cons.mpr ⟨⟨_, rfl⟩, fun _ h => absurd h List.not_mem_nil⟩)
set_option maxRecDepth 20000 in
theorem e_X1_gatherFrom (d : Nat) (x1 : Int32) (x2 : Int32) (x3 : Int32) (x4 : Int32) (G : tH) : V_X1_gatherFrom d x1 x2 x3 x4 G = tif (x1 < (gI G 103 (0))) (tbI (V_X5_meansWith (gR G 100 (0)) x2 x3 G) (fun r_2 G_1 => tbI (V_X5_cropOf (gR G_1 100 (0)) (gI G_1 101 (0)) r_2 (gI G_1 102 (0)) G_1) (fun r_4 G_3 => V_X1_gatherFrom_49 d x1 x4 r_2 r_4 (nI 0) G_3)))
  (tbV (V_X1_keepIfBetter x2 x4 G) (fun G_5 => some (none, G_5))) := (tgo 64 rfl sk_X1_gatherFrom rfl).trans rfl
set_option maxRecDepth 20000 in
theorem e_X1_gatherFrom_49 (d : Nat) (x1 : Int32) (x4 : Int32) (x5 : Int32) (x6 : Int32) (x7 : Int32) (G : tH) : V_X1_gatherFrom_49 d x1 x4 x5 x6 x7 G = tif ((nI 4) < x7) (some (none, G))
  (tif ((nI 4) = 0) none (tif (tin x1 5) (let G_1 := sA G 104 0 (upd (gA G 104 0) x1.toNatClampNeg x7)
  tbI (V_X1_meansLeft x5 x6 ((x6 * x7) / (nI 4)) G_1) (fun r_3 G_2 => tbV (cond (Nat.blt ((6 - (x1 + (nI 1)).toInt).toNat + 4) (d + 4) && true) (V_X1_gatherFrom (6 - (x1 + (nI 1)).toInt).toNat (x1 + (nI 1)) r_3 (x6 - ((x6 * x7) / (nI 4))) (x4 + ((x6 * x7) / (nI 4))) G_2) none) (fun G_4 => V_X1_gatherFrom_49 d x1 x4 x5 x6 (x7 + (nI 1)) G_4))) none)) := (tgo 64 rfl sk_X1_gatherFrom rfl).trans rfl
def st_X1_meansLeft : List (Nat × List Bool) := []
theorem sk_X1_meansLeft : ∀ pc bs, tstop st_X1_meansLeft pc = some bs → ∃ a, k_X1_meansLeft pc = some (aMk bs a) := tstop_ok (fun _ h => absurd h List.not_mem_nil)
set_option maxRecDepth 20000 in
theorem e_X1_meansLeft (x1 : Int32) (x2 : Int32) (x3 : Int32) (G : tH) : V_X1_meansLeft x1 x2 x3 G = tbI (V_X5_titheOf (gR G 100 (0)) x2 G) (fun r_2 G_1 => tbI (V_X5_meansBehind (gR G 100 (0)) (gI G 101 (0)) x1 (if (nI 0) < (x3 - r_2) then (x3 - r_2) else (nI 0)) G_1) (fun r_4 G_3 => some (some (vI r_4), G_3))) := (tgo 20 rfl sk_X1_meansLeft rfl).trans rfl
def st_X1_keepIfBetter : List (Nat × List Bool) := [(24, [true, true, true])]
theorem sk_X1_keepIfBetter : ∀ pc bs, tstop st_X1_keepIfBetter pc = some bs → ∃ a, k_X1_keepIfBetter pc = some (aMk bs a) := tstop_ok (List.forall_mem_cons.mpr ⟨⟨_, rfl⟩, fun _ h => absurd h List.not_mem_nil⟩)
set_option maxRecDepth 20000 in
theorem e_X1_keepIfBetter (x1 : Int32) (x2 : Int32) (G : tH) : V_X1_keepIfBetter x1 x2 G = tif ((gI G 106 (0)) < x2) (V_X1_keepIfBetter_24 x1 x2 G)
  (tif (x2 = (gI G 106 (0))) (tif ((gI G 107 (0)) < x1) (V_X1_keepIfBetter_24 x1 x2 G)
  (some (none, G)))
  (some (none, G))) := (tgo 32 rfl sk_X1_keepIfBetter rfl).trans rfl
set_option maxRecDepth 20000 in
theorem e_X1_keepIfBetter_24 (x1 : Int32) (x2 : Int32) (G : tH) : V_X1_keepIfBetter_24 x1 x2 G = let G_1 := sI G 106 (0) (x2)
  let G_2 := sI G_1 107 (0) (x1)
  tif (tcpok (nI 0) (nI 0) (nI 5) 5 5) (let G_3 := sA G_2 105 0 (va_cpy (gA G_2 104 0) (gA G_2 105 0) (nI 0).toNatClampNeg (nI 0).toNatClampNeg (nI 5).toNatClampNeg)
  some (none, G_3)) none := (tgo 32 rfl sk_X1_keepIfBetter rfl).trans rfl
def st_X1_highestRate : List (Nat × List Bool) := [(22, [true, true, true, false, true, true])]
theorem sk_X1_highestRate : ∀ pc bs, tstop st_X1_highestRate pc = some bs → ∃ a, k_X1_highestRate pc = some (aMk bs a) := tstop_ok (List.forall_mem_cons.mpr ⟨⟨_, rfl⟩, fun _ h => absurd h List.not_mem_nil⟩)
set_option maxRecDepth 20000 in
theorem e_X1_highestRate (o1 : Nat) (x2 : Int32) (x3 : Int32) (x4 : Int32) (G : tH) : V_X1_highestRate o1 x2 x3 x4 G = let G_1 := sR G 100 (0) (gR G 700 (o1))
  let G_2 := sI G_1 101 (0) (x2)
  let G_3 := sI G_2 102 (0) (x3)
  V_X1_highestRate_22 o1 x2 x4 (nI 100) G_3 := (tgo 42 rfl sk_X1_highestRate rfl).trans rfl
set_option maxRecDepth 20000 in
theorem e_X1_highestRate_22 (o1 : Nat) (x2 : Int32) (x4 : Int32) (x5 : Int32) (G : tH) : V_X1_highestRate_22 o1 x2 x4 x5 G = tif (0 < x5) (tif (tin x2 6) (tif (tin x2 6) (tbI (V_X1_meansByRate x5 x4 (gA G 701 o1 x2.toNatClampNeg) (gA G 702 o1 x2.toNatClampNeg) G) (fun r_2 G_1 => tif (tin x2 6) (tif (r_2 < (gA G_1 701 o1 x2.toNatClampNeg)) (V_X1_highestRate_22 o1 x2 x4 (x5 + (-1 : Int32)) G_1)
  (some (some (vI x5), G_1))) none)) none) none)
  (some (some (vI (nI 0)), G)) := (tgo 42 rfl sk_X1_highestRate rfl).trans rfl
def st_X1_meansByRate : List (Nat × List Bool) := [(10, [true, true, true, false, false, true, true, true, false, false])]
theorem sk_X1_meansByRate : ∀ pc bs, tstop st_X1_meansByRate pc = some bs → ∃ a, k_X1_meansByRate pc = some (aMk bs a) := tstop_ok (List.forall_mem_cons.mpr ⟨⟨_, rfl⟩, fun _ h => absurd h List.not_mem_nil⟩)
set_option maxRecDepth 20000 in
theorem e_X1_meansByRate (x1 : Int32) (x2 : Int32) (x3 : Int32) (x4 : Int32) (G : tH) : V_X1_meansByRate x1 x2 x3 x4 G = V_X1_meansByRate_10 x1 x2 x3 x4 (nI 0) G := (tgo 49 rfl sk_X1_meansByRate rfl).trans rfl
set_option maxRecDepth 20000 in
theorem e_X1_meansByRate_10 (x1 : Int32) (x2 : Int32) (x5 : Int32) (x6 : Int32) (x7 : Int32) (G : tH) : V_X1_meansByRate_10 x1 x2 x5 x6 x7 G = tif (x7 < x2) (tbI (V_X5_meansWith (gR G 100 (0)) x5 x6 G) (fun r_2 G_1 => tbI (V_X5_cropOf (gR G_1 100 (0)) (gI G_1 101 (0)) r_2 (gI G_1 102 (0)) G_1) (fun r_4 G_3 => tif ((nI 100) = 0) none (tbI (V_X1_meansLeft r_2 r_4 ((r_4 * x1) / (nI 100)) G_3) (fun r_6 G_5 => V_X1_meansByRate_10 x1 x2 r_6 (r_4 - ((r_4 * x1) / (nI 100))) (x7 + (nI 1)) G_5)))))
  (some (some (vI x5), G)) := (tgo 49 rfl sk_X1_meansByRate rfl).trans rfl
