/-! the equations: X11b -/
def st_X11_readName : List (Nat × List Bool) := [(62, [true, false, false, true, true])]
theorem sk_X11_readName : ∀ pc bs, tstop st_X11_readName pc = some bs → ∃ a, k_X11_readName pc = some (aMk bs a) := tstop_ok (List.forall_mem_cons.mpr ⟨⟨_, rfl⟩, fun _ h => absurd h List.not_mem_nil⟩)
set_option maxRecDepth 20000 in
theorem e_X11_readName (x1 : Int32) (x2 : Int32) (x3 : Int32) (G : tH) : V_X11_readName x1 x2 x3 G = tif (tin ((nI 60) + x1) 120) (tif ((gA G 1110 0 ((nI 60) + x1).toNatClampNeg) = x2) (tbV (V_X11_wrong (nI 5) G) (fun G_1 => tif (vp_nar .boolean (nI 0) = (nI 0)) (some (some (vI (nI 0)), G_1)) none))
  (let G_2 := sI G 1107 (0) ((gI G 1107 (0)) + (nI 1))
  tbI (V_X11_isName G_2) (fun r_4 G_3 => tif (r_4 = 0) (tbV (V_X11_wrong (nI 1) G_3) (fun G_5 => V_X11_readName_62 x3 (gA G 1110 0 ((nI 60) + x1).toNatClampNeg) G_5))
  (tbI (V_X11_find (nI 1) G_3) (fun r_7 G_6 => tif (r_7 < 0) (V_X11_readName_62 x3 (gA G 1110 0 ((nI 60) + x1).toNatClampNeg) G_6)
  (tbV (V_X11_wrong (nI 3) G_6) (fun G_8 => V_X11_readName_62 x3 (gA G 1110 0 ((nI 60) + x1).toNatClampNeg) G_8))))))) none := (tgo 77 rfl sk_X11_readName rfl).trans rfl
set_option maxRecDepth 20000 in
theorem e_X11_readName_62 (x3 : Int32) (x4 : Int32) (G : tH) : V_X11_readName_62 x3 x4 G = tif (0 < (gI G 1108 (0))) (tif (vp_nar .boolean (nI 0) = (nI 0)) (some (some (vI (nI 0)), G)) none)
  (tif (tin (gI G 1107 (0)) 1002) (tif (tin (gI G 1119 (0)) 21) (let G_1 := sB G 1115 0 (vp_updL (gB G 1115 0) (gI G 1119 (0)).toNatClampNeg (gB G 1106 0 (gI G 1107 (0)).toNatClampNeg))
  tif (tin (gI G_1 1119 (0)) 21) (let G_2 := sA G_1 1117 0 (upd (gA G_1 1117 0) (gI G_1 1119 (0)).toNatClampNeg (x3 + x4))
  let G_3 := sI G_2 1119 (0) ((gI G_2 1119 (0)) + (nI 1))
  let G_4 := sI G_3 1107 (0) ((gI G_3 1107 (0)) + (nI 1))
  tif (vp_nar .boolean (nI 1) = (nI 1)) (some (some (vI (nI 1)), G_4)) none) none) none) none) := (tgo 77 rfl sk_X11_readName rfl).trans rfl
def st_X11_readOnce : List (Nat × List Bool) := [(37, [true, true]), (94, [false, false])]
theorem sk_X11_readOnce : ∀ pc bs, tstop st_X11_readOnce pc = some bs → ∃ a, k_X11_readOnce pc = some (aMk bs a) := tstop_ok (List.forall_mem_cons.mpr ⟨⟨_, rfl⟩, List.forall_mem_cons.mpr ⟨⟨_, rfl⟩, fun _ h => absurd h List.not_mem_nil⟩⟩)
set_option maxRecDepth 20000 in
theorem e_X11_readOnce (G : tH) : V_X11_readOnce  G = tbI (V_X11_wordHere (nI 10) (nI 4) G) (fun r_2 G_1 => tif (r_2 < 0) (tbV (V_X11_wrong (nI 1) G_1) (fun G_3 => V_X11_readOnce_37 r_2 G_3))
  (tif ((((gI G_1 1120 (0)) >>> (r_2 &&& 31)) &&& (nI 1)) = (nI 1)) (tbV (V_X11_wrong (nI 3) G_1) (fun G_4 => V_X11_readOnce_37 r_2 G_4))
  (V_X11_readOnce_37 r_2 G_1))) := (tgo 81 rfl sk_X11_readOnce rfl).trans rfl
set_option maxRecDepth 20000 in
theorem e_X11_readOnce_37 (x1 : Int32) (G : tH) : V_X11_readOnce_37 x1 G = tif (0 < (gI G 1108 (0))) (some (none, G))
  (let G_1 := sI G 1120 (0) ((gI G 1120 (0)) ||| ((nI 1) <<< (x1 &&& 31)))
  let G_2 := sI G_1 1107 (0) ((gI G_1 1107 (0)) + (nI 1))
  tif (x1 < (nI 2)) (tif (x1 = 0) (V_X11_readOnce_94 (nI 100) (nI 0) ((nI 64) + x1) G_2)
  (V_X11_readOnce_94 (nI 999) (nI 0) ((nI 64) + x1) G_2))
  (tif (tin (((nI 66) + x1) - (nI 2)) 120) (let G_3 := sA G_2 1110 0 (upd (gA G_2 1110 0) (((nI 66) + x1) - (nI 2)).toNatClampNeg (gI G_2 1113 (0)))
  tbV (V_X11_all (10 * (6 - (nI 0).toInt).toNat) (nI 0) G_3) (fun G_4 => tbV (V_X11_emit (nI 0) (nI 0) G_4) (fun G_5 => some (none, G_5)))) none)) := (tgo 81 rfl sk_X11_readOnce rfl).trans rfl
set_option maxRecDepth 20000 in
theorem e_X11_readOnce_94 (s4 : Int32) (s3 : Int32) (s1 : Int32) (G : tH) : V_X11_readOnce_94 s4 s3 s1 G = tbI (V_X11_takeNumber s3 s4 G) (fun r_2 G_1 => tif (tin s1 120) (let G_3 := sA G_1 1110 0 (upd (gA G_1 1110 0) s1.toNatClampNeg r_2)
  some (none, G_3)) none) := (tgo 81 rfl sk_X11_readOnce rfl).trans rfl
def st_X11_past : List (Nat × List Bool) := [(11, [true, true, false]), (101, [true, true, false]), (110, [true, true, false]), (131, [true, true, true])]
theorem sk_X11_past : ∀ pc bs, tstop st_X11_past pc = some bs → ∃ a, k_X11_past pc = some (aMk bs a) := tstop_ok (List.forall_mem_cons.mpr ⟨⟨_, rfl⟩, List.forall_mem_cons.mpr ⟨⟨_, rfl⟩, List.forall_mem_cons.mpr ⟨⟨_, rfl⟩, List.forall_mem_cons.mpr ⟨⟨_, rfl⟩, fun _ h => absurd h List.not_mem_nil⟩⟩⟩⟩)
set_option maxRecDepth 20000 in
theorem e_X11_past (G : tH) : V_X11_past  G = let G_1 := sI G 1100 (0) ((nI 0))
  tbV (V_X11_cutAll G_1) (fun G_2 => V_X11_past_11 (nI 0) G_2) := (tgo 101 rfl sk_X11_past rfl).trans rfl
set_option maxRecDepth 20000 in
theorem e_X11_past_11 (x1 : Int32) (G : tH) : V_X11_past_11 x1 G = tif ((gI G 1108 (0)) = 0) (tif (tin (gI G 1107 (0)) 1002) (tif ((gA G 1104 0 (gI G 1107 (0)).toNatClampNeg) = 0) (V_X11_past_110 x1 G)
  (tbI (V_X11_wordHere (nI 14) (nI 10) G) (fun r_2 G_1 => tif (r_2 < 0) (tbV (V_X11_wrong (nI 1) G_1) (fun G_3 => V_X11_past_101 x1 G_3))
  (tif (x1 = (nI 40)) (tbV (V_X11_wrong (nI 5) G_1) (fun G_4 => V_X11_past_101 x1 G_4))
  (let G_5 := sI G_1 1107 (0) ((gI G_1 1107 (0)) + (nI 1))
  tif (tin ((nI 125) + ((nI 3) * x1)) 250) (let G_6 := sA G_5 1121 0 (upd (gA G_5 1121 0) ((nI 125) + ((nI 3) * x1)).toNatClampNeg r_2)
  tbV (V_X11_readPast r_2 ((nI 126) + ((nI 3) * x1)) G_6) (fun G_7 => V_X11_past_101 (x1 + (nI 1)) G_7)) none))))) none)
  (V_X11_past_110 x1 G) := (tgo 101 rfl sk_X11_past rfl).trans rfl
set_option maxRecDepth 20000 in
theorem e_X11_past_101 (x1 : Int32) (G : tH) : V_X11_past_101 x1 G = tbV (V_X11_takeSign (nI 59) G) (fun G_1 => V_X11_past_11 x1 G_1) := (tgo 101 rfl sk_X11_past rfl).trans rfl
set_option maxRecDepth 20000 in
theorem e_X11_past_110 (x1 : Int32) (G : tH) : V_X11_past_110 x1 G = tif (0 < (gI G 1108 (0))) (some (some (vI (gI G 1108 (0))), G))
  (tif (tin (nI 0) 250) (let G_1 := sA G 1121 0 (upd (gA G 1121 0) (nI 0).toNatClampNeg x1)
  V_X11_past_131 x1 (nI 0) G_1) none) := (tgo 101 rfl sk_X11_past rfl).trans rfl
set_option maxRecDepth 20000 in
theorem e_X11_past_131 (x1 : Int32) (x2 : Int32) (G : tH) : V_X11_past_131 x1 x2 G = tif (x2 < ((nI 3) * x1)) (tif (tin ((nI 125) + x2) 250) (tif (tin ((nI 1) + x2) 250) (let G_1 := sA G 1121 0 (upd (gA G 1121 0) ((nI 1) + x2).toNatClampNeg (gA G 1121 0 ((nI 125) + x2).toNatClampNeg))
  V_X11_past_131 x1 (x2 + (nI 1)) G_1) none) none)
  (some (some (vI (nI 0)), G)) := (tgo 101 rfl sk_X11_past rfl).trans rfl
def st_X11_readPast : List (Nat × List Bool) := []
theorem sk_X11_readPast : ∀ pc bs, tstop st_X11_readPast pc = some bs → ∃ a, k_X11_readPast pc = some (aMk bs a) := tstop_ok (fun _ h => absurd h List.not_mem_nil)
set_option maxRecDepth 20000 in
theorem e_X11_readPast (x1 : Int32) (x2 : Int32) (G : tH) : V_X11_readPast x1 x2 G = tif (tin x2 250) (let G_1 := sA G 1121 0 (upd (gA G 1121 0) x2.toNatClampNeg (nI 0))
  tif (tin (x2 + (nI 1)) 250) (let G_2 := sA G_1 1121 0 (upd (gA G_1 1121 0) (x2 + (nI 1)).toNatClampNeg (nI 0))
  tif (x1 = 0) (tbI (V_X11_takeTold (nI 0) (nI 20) G_2) (fun r_4 G_3 => tif (tin x2 250) (let G_5 := sA G_3 1121 0 (upd (gA G_3 1121 0) x2.toNatClampNeg r_4)
  tbI (V_X11_takeNumber (nI 0) (nI 9999) G_5) (fun r_7 G_6 => tif (tin (x2 + (nI 1)) 250) (let G_8 := sA G_6 1121 0 (upd (gA G_6 1121 0) (x2 + (nI 1)).toNatClampNeg r_7)
  some (none, G_8)) none)) none))
  (tif (x1 = (nI 2)) (tbI (V_X11_takeTold (nI 0) (nI 40) G_2) (fun r_10 G_9 => tif (tin x2 250) (let G_11 := sA G_9 1121 0 (upd (gA G_9 1121 0) x2.toNatClampNeg r_10)
  some (none, G_11)) none))
  (tbI (V_X11_within x1 (nI 3) (nI 5) G_2) (fun r_13 G_12 => tif (r_13 = 0) (tif (x1 = (nI 6)) (tbI (V_X11_takeTold (nI 0) (nI 0) G_12) (fun r_15 G_14 => tif (tin x2 250) (let G_16 := sA G_14 1121 0 (upd (gA G_14 1121 0) x2.toNatClampNeg r_15)
  some (none, G_16)) none))
  (tif (x1 = (nI 7)) (tbI (V_X11_takeTold (nI 0) (nI 60) G_12) (fun r_18 G_17 => tif (tin x2 250) (let G_19 := sA G_17 1121 0 (upd (gA G_17 1121 0) x2.toNatClampNeg r_18)
  some (none, G_19)) none))
  (some (none, G_12))))
  (tbI (V_X11_takeTold (nI 0) (nI 0) G_12) (fun r_21 G_20 => tif (tin x2 250) (let G_22 := sA G_20 1121 0 (upd (gA G_20 1121 0) x2.toNatClampNeg r_21)
  tbI (V_X11_takeNumber (nI 1) (nI 9999) G_22) (fun r_24 G_23 => tif (tin (x2 + (nI 1)) 250) (let G_25 := sA G_23 1121 0 (upd (gA G_23 1121 0) (x2 + (nI 1)).toNatClampNeg r_24)
  some (none, G_25)) none)) none)))))) none) none := (tgo 98 rfl sk_X11_readPast rfl).trans rfl
def st_X11_emit : List (Nat × List Bool) := []
theorem sk_X11_emit : ∀ pc bs, tstop st_X11_emit pc = some bs → ∃ a, k_X11_emit pc = some (aMk bs a) := tstop_ok (fun _ h => absurd h List.not_mem_nil)
set_option maxRecDepth 20000 in
theorem e_X11_emit (x1 : Int32) (x2 : Int32) (G : tH) : V_X11_emit x1 x2 G = tif (tin ((nI 1100) + (gI G 1113 (0))) 2200) (let G_1 := sA G 1111 0 (upd (gA G 1111 0) ((nI 1100) + (gI G 1113 (0))).toNatClampNeg x1)
  tif (tin ((nI 1100) + (gI G_1 1113 (0))) 2200) (let G_2 := sA G_1 1112 0 (upd (gA G_1 1112 0) ((nI 1100) + (gI G_1 1113 (0))).toNatClampNeg x2)
  let G_3 := sI G_2 1113 (0) ((gI G_2 1113 (0)) + (nI 1))
  some (none, G_3)) none) none := (tgo 28 rfl sk_X11_emit rfl).trans rfl
def st_X11_all : List (Nat × List Bool) := [(5, [true, true, false]), (23, [true, true, false]), (57, [true, true, false])]
theorem sk_X11_all : ∀ pc bs, tstop st_X11_all pc = some bs → ∃ a, k_X11_all pc = some (aMk bs a) := tstop_ok (List.forall_mem_cons.mpr ⟨⟨_, rfl⟩, List.forall_mem_cons.mpr ⟨⟨_, rfl⟩, List.forall_mem_cons.mpr ⟨⟨_, rfl⟩, fun _ h => absurd h List.not_mem_nil⟩⟩⟩)
set_option maxRecDepth 20000 in
theorem e_X11_all (d : Nat) (x1 : Int32) (G : tH) : V_X11_all d x1 G = tbV (cond (Nat.blt ((10 * (6 - x1.toInt).toNat) + 7) (d + 8) && true) (V_X11_test (10 * (6 - x1.toInt).toNat) x1 G) none) (fun G_1 => V_X11_all_5 d x1 G_1) := (tgo 39 rfl sk_X11_all rfl).trans rfl
set_option maxRecDepth 20000 in
theorem e_X11_all_5 (d : Nat) (x1 : Int32) (G : tH) : V_X11_all_5 d x1 G = tbI (V_X11_isWord (nI 33) G) (fun r_2 G_1 => tif (r_2 = 0) (tbI (V_X11_isWord (nI 34) G_1) (fun r_4 G_3 => tif (r_4 = 0) (some (none, G_3))
  (V_X11_all_23 d x1 G_3)))
  (V_X11_all_23 d x1 G_1)) := (tgo 39 rfl sk_X11_all rfl).trans rfl
set_option maxRecDepth 20000 in
theorem e_X11_all_23 (d : Nat) (x1 : Int32) (G : tH) : V_X11_all_23 d x1 G = tbI (V_X11_isWord (nI 33) G) (fun r_2 G_1 => let G_3 := sI G_1 1107 (0) ((gI G_1 1107 (0)) + (nI 1))
  tbV (cond (Nat.blt ((10 * (6 - x1.toInt).toNat) + 7) (d + 8) && true) (V_X11_test (10 * (6 - x1.toInt).toNat) x1 G_3) none) (fun G_4 => tif (r_2 = 0) (V_X11_all_57 d x1 (nI 10) G_4)
  (V_X11_all_57 d x1 (nI 9) G_4))) := (tgo 39 rfl sk_X11_all rfl).trans rfl
set_option maxRecDepth 20000 in
theorem e_X11_all_57 (d : Nat) (x1 : Int32) (s1 : Int32) (G : tH) : V_X11_all_57 d x1 s1 G = tbV (V_X11_emit s1 (nI 0) G) (fun G_1 => V_X11_all_5 d x1 G_1) := (tgo 39 rfl sk_X11_all rfl).trans rfl
def st_X11_test : List (Nat × List Bool) := [(30, [true, true, true]), (47, [false, false, false])]
theorem sk_X11_test : ∀ pc bs, tstop st_X11_test pc = some bs → ∃ a, k_X11_test pc = some (aMk bs a) := tstop_ok (List.forall_mem_cons.mpr ⟨⟨_, rfl⟩, List.forall_mem_cons.mpr ⟨⟨_, rfl⟩, fun _ h => absurd h List.not_mem_nil⟩⟩)
set_option maxRecDepth 20000 in
theorem e_X11_test (d : Nat) (x1 : Int32) (G : tH) : V_X11_test d x1 G = tbV (cond (Nat.blt ((10 * (6 - x1.toInt).toNat) + 6) (d + 7) && true) (V_X11_sums (10 * (6 - x1.toInt).toNat) x1 G) none) (fun G_1 => tbI (V_X11_isSign (nI 60) G_1) (fun r_3 G_2 => tbI (V_X11_hasSign (nI 60) G_2) (fun r_5 G_4 => tif (r_5 = 0) (tbI (V_X11_hasSign (nI 61) G_4) (fun r_7 G_6 => tif (r_7 = 0) (some (none, G_6))
  (V_X11_test_30 d x1 r_3 G_6)))
  (V_X11_test_30 d x1 r_3 G_4)))) := (tgo 32 rfl sk_X11_test rfl).trans rfl
set_option maxRecDepth 20000 in
theorem e_X11_test_30 (d : Nat) (x1 : Int32) (x2 : Int32) (G : tH) : V_X11_test_30 d x1 x2 G = tbV (cond (Nat.blt ((10 * (6 - x1.toInt).toNat) + 6) (d + 7) && true) (V_X11_sums (10 * (6 - x1.toInt).toNat) x1 G) none) (fun G_1 => tif (x2 = 0) (V_X11_test_47 d (nI 8) G_1)
  (V_X11_test_47 d (nI 7) G_1)) := (tgo 32 rfl sk_X11_test rfl).trans rfl
set_option maxRecDepth 20000 in
theorem e_X11_test_47 (d : Nat) (s1 : Int32) (G : tH) : V_X11_test_47 d s1 G = tbV (V_X11_emit s1 (nI 0) G) (fun G_1 => some (none, G_1)) := (tgo 32 rfl sk_X11_test rfl).trans rfl
def st_X11_sums : List (Nat × List Bool) := [(5, [true, true, false]), (23, [true, true, false]), (55, [true, true, false])]
theorem sk_X11_sums : ∀ pc bs, tstop st_X11_sums pc = some bs → ∃ a, k_X11_sums pc = some (aMk bs a) := tstop_ok (List.forall_mem_cons.mpr ⟨⟨_, rfl⟩, List.forall_mem_cons.mpr ⟨⟨_, rfl⟩, List.forall_mem_cons.mpr ⟨⟨_, rfl⟩, fun _ h => absurd h List.not_mem_nil⟩⟩⟩)
set_option maxRecDepth 20000 in
theorem e_X11_sums (d : Nat) (x1 : Int32) (G : tH) : V_X11_sums d x1 G = tbV (cond (Nat.blt ((10 * (6 - x1.toInt).toNat) + 5) (d + 6) && true) (V_X11_products (10 * (6 - x1.toInt).toNat) x1 G) none) (fun G_1 => V_X11_sums_5 d x1 G_1) := (tgo 39 rfl sk_X11_sums rfl).trans rfl
set_option maxRecDepth 20000 in
theorem e_X11_sums_5 (d : Nat) (x1 : Int32) (G : tH) : V_X11_sums_5 d x1 G = tbI (V_X11_isSign (nI 43) G) (fun r_2 G_1 => tif (r_2 = 0) (tbI (V_X11_isSign (nI 45) G_1) (fun r_4 G_3 => tif (r_4 = 0) (some (none, G_3))
  (V_X11_sums_23 d x1 G_3)))
  (V_X11_sums_23 d x1 G_1)) := (tgo 39 rfl sk_X11_sums rfl).trans rfl
set_option maxRecDepth 20000 in
theorem e_X11_sums_23 (d : Nat) (x1 : Int32) (G : tH) : V_X11_sums_23 d x1 G = tbI (V_X11_isSign (nI 43) G) (fun r_2 G_1 => let G_3 := sI G_1 1107 (0) ((gI G_1 1107 (0)) + (nI 1))
  tbV (cond (Nat.blt ((10 * (6 - x1.toInt).toNat) + 5) (d + 6) && true) (V_X11_products (10 * (6 - x1.toInt).toNat) x1 G_3) none) (fun G_4 => tif (r_2 = 0) (V_X11_sums_55 d x1 (nI 5) G_4)
  (V_X11_sums_55 d x1 (nI 4) G_4))) := (tgo 39 rfl sk_X11_sums rfl).trans rfl
set_option maxRecDepth 20000 in
theorem e_X11_sums_55 (d : Nat) (x1 : Int32) (s1 : Int32) (G : tH) : V_X11_sums_55 d x1 s1 G = tbV (V_X11_emit s1 (nI 0) G) (fun G_1 => V_X11_sums_5 d x1 G_1) := (tgo 39 rfl sk_X11_sums rfl).trans rfl
def st_X11_products : List (Nat × List Bool) := [(5, [true, true])]
theorem sk_X11_products : ∀ pc bs, tstop st_X11_products pc = some bs → ∃ a, k_X11_products pc = some (aMk bs a) := tstop_ok (List.forall_mem_cons.mpr ⟨⟨_, rfl⟩, fun _ h => absurd h List.not_mem_nil⟩)
set_option maxRecDepth 20000 in
theorem e_X11_products (d : Nat) (x1 : Int32) (G : tH) : V_X11_products d x1 G = tbV (cond (Nat.blt ((10 * (6 - x1.toInt).toNat) + 4) (d + 5) && true) (V_X11_takePart (10 * (6 - x1.toInt).toNat) x1 G) none) (fun G_1 => V_X11_products_5 d x1 G_1) := (tgo 21 rfl sk_X11_products rfl).trans rfl
set_option maxRecDepth 20000 in
theorem e_X11_products_5 (d : Nat) (x1 : Int32) (G : tH) : V_X11_products_5 d x1 G = tbI (V_X11_hasSign (nI 42) G) (fun r_2 G_1 => tif (r_2 = 0) (some (none, G_1))
  (tbV (cond (Nat.blt ((10 * (6 - x1.toInt).toNat) + 4) (d + 5) && true) (V_X11_takePart (10 * (6 - x1.toInt).toNat) x1 G_1) none) (fun G_3 => tbV (V_X11_emit (nI 6) (nI 0) G_3) (fun G_4 => V_X11_products_5 d x1 G_4)))) := (tgo 21 rfl sk_X11_products rfl).trans rfl
def st_X11_takePart : List (Nat × List Bool) := [(26, [true, true, false, false]), (69, [true, true, true, true]), (79, [true, true, true, true]), (147, [true, false, true, true]), (165, [true, false, false, false])]
theorem sk_X11_takePart : ∀ pc bs, tstop st_X11_takePart pc = some bs → ∃ a, k_X11_takePart pc = some (aMk bs a) := tstop_ok (List.forall_mem_cons.mpr ⟨⟨_, rfl⟩, List.forall_mem_cons.mpr ⟨⟨_, rfl⟩, List.forall_mem_cons.mpr ⟨⟨_, rfl⟩, List.forall_mem_cons.mpr ⟨⟨_, rfl⟩, List.forall_mem_cons.mpr ⟨⟨_, rfl⟩, fun _ h => absurd h List.not_mem_nil⟩⟩⟩⟩⟩)
set_option maxRecDepth 20000 in
theorem e_X11_takePart (d : Nat) (x1 : Int32) (G : tH) : V_X11_takePart d x1 G = tif (0 < (gI G 1108 (0))) (some (none, G))
  (tif (tin (gI G 1107 (0)) 1002) (tif ((gA G 1104 0 (gI G 1107 (0)).toNatClampNeg) = (nI 2)) (V_X11_takePart_26 d x1 (nI 1) G)
  (V_X11_takePart_26 d x1 (nI 0) G)) none) := (tgo 102 rfl sk_X11_takePart rfl).trans rfl
set_option maxRecDepth 20000 in
theorem e_X11_takePart_26 (d : Nat) (x1 : Int32) (s0 : Int32) (G : tH) : V_X11_takePart_26 d x1 s0 G = tbI (V_X11_wordHere (nI 35) (nI 3) G) (fun r_2 G_1 => tif (r_2 < 0) (tif (s0 = 0) (tbI (V_X11_isSign (nI 40) G_1) (fun r_4 G_3 => tif (r_4 = 0) (tbI (V_X11_isWord (nI 32) G_3) (fun r_6 G_5 => tif (r_6 = 0) (tbV (V_X11_wrong (nI 1) G_5) (fun G_7 => V_X11_takePart_79 d x1 s0 r_2 G_7))
  (V_X11_takePart_69 d x1 s0 r_2 G_5)))
  (V_X11_takePart_69 d x1 s0 r_2 G_3)))
  (V_X11_takePart_69 d x1 s0 r_2 G_1))
  (V_X11_takePart_69 d x1 s0 r_2 G_1)) := (tgo 102 rfl sk_X11_takePart rfl).trans rfl
set_option maxRecDepth 20000 in
theorem e_X11_takePart_69 (d : Nat) (x1 : Int32) (x2 : Int32) (x3 : Int32) (G : tH) : V_X11_takePart_69 d x1 x2 x3 G = tif (x1 = (nI 5)) (tbV (V_X11_wrong (nI 5) G) (fun G_1 => V_X11_takePart_79 d x1 x2 x3 G_1))
  (V_X11_takePart_79 d x1 x2 x3 G) := (tgo 102 rfl sk_X11_takePart rfl).trans rfl
set_option maxRecDepth 20000 in
theorem e_X11_takePart_79 (d : Nat) (x1 : Int32) (x2 : Int32) (x3 : Int32) (G : tH) : V_X11_takePart_79 d x1 x2 x3 G = tif (0 < (gI G 1108 (0))) (some (none, G))
  (tbI (V_X11_hasWord (nI 32) G) (fun r_2 G_1 => tif (r_2 = 0) (tbI (V_X11_hasSign (nI 40) G_1) (fun r_4 G_3 => tif (r_4 = 0) (tif (x2 = 0) (V_X11_takePart_147 d x2 x3 (nI 2) G_3)
  (V_X11_takePart_147 d x2 x3 (nI 1) G_3))
  (tbV (cond (Nat.blt ((10 * (6 - (x1 + (nI 1)).toInt).toNat) + 8) (d + 4) && true) (V_X11_all (10 * (6 - (x1 + (nI 1)).toInt).toNat) (x1 + (nI 1)) G_3) none) (fun G_5 => tbV (V_X11_takeSign (nI 41) G_5) (fun G_6 => some (none, G_6))))))
  (tbV (cond (Nat.blt ((10 * (6 - (x1 + (nI 1)).toInt).toNat) + 4) (d + 4) && true) (V_X11_takePart (10 * (6 - (x1 + (nI 1)).toInt).toNat) (x1 + (nI 1)) G_1) none) (fun G_7 => tbV (V_X11_emit (nI 3) (nI 0) G_7) (fun G_8 => some (none, G_8)))))) := (tgo 102 rfl sk_X11_takePart rfl).trans rfl
set_option maxRecDepth 20000 in
theorem e_X11_takePart_147 (d : Nat) (x2 : Int32) (x3 : Int32) (s1 : Int32) (G : tH) : V_X11_takePart_147 d x2 x3 s1 G = tif (x2 = 0) (V_X11_takePart_165 d x3 s1 G)
  (tif (tin (gI G 1107 (0)) 1002) (V_X11_takePart_165 d ((gB G 1106 0 (gI G 1107 (0)).toNatClampNeg).toInt32) s1 G) none) := (tgo 102 rfl sk_X11_takePart rfl).trans rfl
set_option maxRecDepth 20000 in
theorem e_X11_takePart_165 (d : Nat) (s2 : Int32) (s1 : Int32) (G : tH) : V_X11_takePart_165 d s2 s1 G = tbV (V_X11_emit s1 s2 G) (fun G_1 => let G_2 := sI G_1 1107 (0) ((gI G_1 1107 (0)) + (nI 1))
  some (none, G_2)) := (tgo 102 rfl sk_X11_takePart rfl).trans rfl
def st_X11_worthAt : List (Nat × List Bool) := [(4, [true, false, true, true, false]), (33, [true, false, true, true, true])]
theorem sk_X11_worthAt : ∀ pc bs, tstop st_X11_worthAt pc = some bs → ∃ a, k_X11_worthAt pc = some (aMk bs a) := tstop_ok (List.forall_mem_cons.mpr ⟨⟨_, rfl⟩, List.forall_mem_cons.mpr ⟨⟨_, rfl⟩, fun _ h => absurd h List.not_mem_nil⟩⟩)
set_option maxRecDepth 20000 in
theorem e_X11_worthAt (x1 : Int32) (G : tH) : V_X11_worthAt x1 G = V_X11_worthAt_4 (nI 0) x1 G := (tgo 92 rfl sk_X11_worthAt rfl).trans rfl
set_option maxRecDepth 20000 in
theorem e_X11_worthAt_4 (x2 : Int32) (x3 : Int32) (G : tH) : V_X11_worthAt_4 x2 x3 G = tif (tin x3 2200) (tif ((gA G 1111 0 x3.toNatClampNeg) = 0) (tif (tin (nI 0) 1100) (some (some (vI (gA G 1123 0 (nI 0).toNatClampNeg)), G)) none)
  (tif (tin x3 2200) (tif ((gA G 1111 0 x3.toNatClampNeg) = (nI 1)) (V_X11_worthAt_33 x2 x3 (gA G 1111 0 x3.toNatClampNeg) G)
  (tif ((gA G 1111 0 x3.toNatClampNeg) = (nI 2)) (V_X11_worthAt_33 x2 x3 (gA G 1111 0 x3.toNatClampNeg) G)
  (tif ((gA G 1111 0 x3.toNatClampNeg) = (nI 3)) (tif (tin (x2 - (nI 1)) 1100) (tif ((gA G 1123 0 (x2 - (nI 1)).toNatClampNeg) = 0) (tif (tin (x2 - (nI 1)) 1100) (let G_1 := sA G 1123 0 (upd (gA G 1123 0) (x2 - (nI 1)).toNatClampNeg (nI 1))
  V_X11_worthAt_4 x2 (x3 + (nI 1)) G_1) none)
  (tif (tin (x2 - (nI 1)) 1100) (let G_2 := sA G 1123 0 (upd (gA G 1123 0) (x2 - (nI 1)).toNatClampNeg (nI 0))
  V_X11_worthAt_4 x2 (x3 + (nI 1)) G_2) none)) none)
  (tif (tin ((x2 + (-1 : Int32)) - (nI 1)) 1100) (tif (tin (x2 + (-1 : Int32)) 1100) (tbI (V_X11_both (gA G 1111 0 x3.toNatClampNeg) (gA G 1123 0 ((x2 + (-1 : Int32)) - (nI 1)).toNatClampNeg) (gA G 1123 0 (x2 + (-1 : Int32)).toNatClampNeg) G) (fun r_4 G_3 => tif (tin ((x2 + (-1 : Int32)) - (nI 1)) 1100) (let G_5 := sA G_3 1123 0 (upd (gA G_3 1123 0) ((x2 + (-1 : Int32)) - (nI 1)).toNatClampNeg r_4)
  V_X11_worthAt_4 (x2 + (-1 : Int32)) (x3 + (nI 1)) G_5) none)) none) none)))) none)) none := (tgo 92 rfl sk_X11_worthAt rfl).trans rfl
set_option maxRecDepth 20000 in
theorem e_X11_worthAt_33 (x2 : Int32) (x3 : Int32) (x4 : Int32) (G : tH) : V_X11_worthAt_33 x2 x3 x4 G = tif (x4 = (nI 1)) (tif (tin x3 2200) (tif (tin x2 1100) (let G_1 := sA G 1123 0 (upd (gA G 1123 0) x2.toNatClampNeg (gA G 1112 0 x3.toNatClampNeg))
  V_X11_worthAt_4 (x2 + (nI 1)) (x3 + (nI 1)) G_1) none) none)
  (tif (tin x3 2200) (tif (tin (gA G 1112 0 x3.toNatClampNeg) 3) (tif (tin x2 1100) (let G_2 := sA G 1123 0 (upd (gA G 1123 0) x2.toNatClampNeg (gA G 1122 0 (gA G 1112 0 x3.toNatClampNeg).toNatClampNeg))
  V_X11_worthAt_4 (x2 + (nI 1)) (x3 + (nI 1)) G_2) none) none) none) := (tgo 92 rfl sk_X11_worthAt rfl).trans rfl
def st_X11_both : List (Nat × List Bool) := []
theorem sk_X11_both : ∀ pc bs, tstop st_X11_both pc = some bs → ∃ a, k_X11_both pc = some (aMk bs a) := tstop_ok (fun _ h => absurd h List.not_mem_nil)
set_option maxRecDepth 20000 in
theorem e_X11_both (x0 : Int32) (x1 : Int32) (x2 : Int32) (G : tH) : V_X11_both x0 x1 x2 G = tif (x0 = (nI 4)) (some (some (vI (x1 + x2)), G))
  (tif (x0 = (nI 5)) (some (some (vI (x1 - x2)), G))
  (tif (x0 = (nI 6)) (some (some (vI (x1 * x2)), G))
  (tif (x0 = (nI 7)) (tif (x1 < x2) (some (some (vI (nI 1)), G))
  (some (some (vI (nI 0)), G)))
  (tif (x0 = (nI 8)) (tif (x1 = x2) (some (some (vI (nI 1)), G))
  (some (some (vI (nI 0)), G)))
  (tif (x0 = (nI 9)) (tif (x1 = 0) (some (some (vI (nI 0)), G))
  (tif (x2 = 0) (some (some (vI (nI 0)), G))
  (some (some (vI (nI 1)), G))))
  (tif (x1 = 0) (tif (x2 = 0) (some (some (vI (nI 0)), G))
  (some (some (vI (nI 1)), G)))
  (some (some (vI (nI 1)), G)))))))) := (tgo 49 rfl sk_X11_both rfl).trans rfl
def st_X11_copies : List (Nat × List Bool) := [(3, [true, true, true, true, true])]
theorem sk_X11_copies : ∀ pc bs, tstop st_X11_copies pc = some bs → ∃ a, k_X11_copies pc = some (aMk bs a) := tstop_ok (List.forall_mem_cons.mpr ⟨⟨_, rfl⟩, fun _ h => absurd h List.not_mem_nil⟩)
set_option maxRecDepth 20000 in
theorem e_X11_copies (x1 : Int32) (x2 : Int32) (x3 : Int32) (G : tH) : V_X11_copies x1 x2 x3 G = V_X11_copies_3 x1 x2 x3 (nI 0) G := (tgo 25 rfl sk_X11_copies rfl).trans rfl
set_option maxRecDepth 20000 in
theorem e_X11_copies_3 (x1 : Int32) (x2 : Int32) (x3 : Int32) (x4 : Int32) (G : tH) : V_X11_copies_3 x1 x2 x3 x4 G = tif (x4 < x3) (tif (tin (x1 + x4) 1403) (tif (tin (x2 + x4) 1403) (let G_1 := sA G 1124 0 (upd (gA G 1124 0) (x2 + x4).toNatClampNeg (gA G 1124 0 (x1 + x4).toNatClampNeg))
  V_X11_copies_3 x1 x2 x3 (x4 + (nI 1)) G_1) none) none)
  (some (none, G)) := (tgo 25 rfl sk_X11_copies rfl).trans rfl
def st_X11_starts : List (Nat × List Bool) := [(2, [true, true, true]), (34, [true, true, true]), (66, [true, true, true])]
theorem sk_X11_starts : ∀ pc bs, tstop st_X11_starts pc = some bs → ∃ a, k_X11_starts pc = some (aMk bs a) := tstop_ok (List.forall_mem_cons.mpr ⟨⟨_, rfl⟩, List.forall_mem_cons.mpr ⟨⟨_, rfl⟩, List.forall_mem_cons.mpr ⟨⟨_, rfl⟩, fun _ h => absurd h List.not_mem_nil⟩⟩⟩)
set_option maxRecDepth 20000 in
theorem e_X11_starts (x1 : Int32) (G : tH) : V_X11_starts x1 G = V_X11_starts_2 x1 (nI 0) G := (tgo 73 rfl sk_X11_starts rfl).trans rfl
set_option maxRecDepth 20000 in
theorem e_X11_starts_2 (x1 : Int32) (x2 : Int32) (G : tH) : V_X11_starts_2 x1 x2 G = tif (x2 < (nI 56)) (tif (tin (x1 + x2) 1403) (let G_1 := sA G 1124 0 (upd (gA G 1124 0) (x1 + x2).toNatClampNeg (nI 0))
  V_X11_starts_2 x1 (x2 + (nI 1)) G_1) none)
  (tif (tin (x1 + (nI 0)) 1403) (let G_2 := sA G 1124 0 (upd (gA G 1124 0) (x1 + (nI 0)).toNatClampNeg (-1 : Int32))
  V_X11_starts_34 x1 (nI 0) G_2) none) := (tgo 73 rfl sk_X11_starts rfl).trans rfl
set_option maxRecDepth 20000 in
theorem e_X11_starts_34 (x1 : Int32) (x2 : Int32) (G : tH) : V_X11_starts_34 x1 x2 G = tbI (V_X11_towns G) (fun r_2 G_1 => tif (x2 < r_2) (tbI (V_X11_townOf x2 (nI 1) G_1) (fun r_4 G_3 => tif (tin ((x1 + (nI 5)) + x2) 1403) (let G_5 := sA G_3 1124 0 (upd (gA G_3 1124 0) ((x1 + (nI 5)) + x2).toNatClampNeg r_4)
  V_X11_starts_34 x1 (x2 + (nI 1)) G_5) none))
  (V_X11_starts_66 x1 (nI 0) G_1)) := (tgo 73 rfl sk_X11_starts rfl).trans rfl
set_option maxRecDepth 20000 in
theorem e_X11_starts_66 (x1 : Int32) (x2 : Int32) (G : tH) : V_X11_starts_66 x1 x2 G = tbI (V_X11_companies G) (fun r_2 G_1 => tif (x2 < r_2) (tif (tin (((nI 20) + ((nI 2) * x2)) + (nI 1)) 120) (tif (tin ((x1 + (nI 41)) + x2) 1403) (let G_3 := sA G_1 1124 0 (upd (gA G_1 1124 0) ((x1 + (nI 41)) + x2).toNatClampNeg (gA G_1 1110 0 (((nI 20) + ((nI 2) * x2)) + (nI 1)).toNatClampNeg))
  V_X11_starts_66 x1 (x2 + (nI 1)) G_3) none) none)
  (some (none, G_1))) := (tgo 73 rfl sk_X11_starts rfl).trans rfl
def st_X11_begins : List (Nat × List Bool) := [(7, [true, true]), (42, [true, true])]
theorem sk_X11_begins : ∀ pc bs, tstop st_X11_begins pc = some bs → ∃ a, k_X11_begins pc = some (aMk bs a) := tstop_ok (List.forall_mem_cons.mpr ⟨⟨_, rfl⟩, List.forall_mem_cons.mpr ⟨⟨_, rfl⟩, fun _ h => absurd h List.not_mem_nil⟩⟩)
set_option maxRecDepth 20000 in
theorem e_X11_begins (G : tH) : V_X11_begins  G = tbV (V_X11_starts (nI 0) G) (fun G_1 => V_X11_begins_7 (nI 0) G_1) := (tgo 43 rfl sk_X11_begins rfl).trans rfl
set_option maxRecDepth 20000 in
theorem e_X11_begins_7 (x1 : Int32) (G : tH) : V_X11_begins_7 x1 G = tif (x1 < (nI 5)) (tif (tin ((nI 56) + x1) 1403) (let G_1 := sA G 1124 0 (upd (gA G 1124 0) ((nI 56) + x1).toNatClampNeg (-1 : Int32))
  V_X11_begins_7 (x1 + (nI 1)) G_1) none)
  (tif (tin (nI 0) 250) (let G_2 := sA G 1121 0 (upd (gA G 1121 0) (nI 0).toNatClampNeg (nI 0))
  let G_3 := sI G_2 1125 (0) ((nI 0))
  V_X11_begins_42 (nI 0) G_3) none) := (tgo 43 rfl sk_X11_begins rfl).trans rfl
set_option maxRecDepth 20000 in
theorem e_X11_begins_42 (x1 : Int32) (G : tH) : V_X11_begins_42 x1 G = tif (x1 < (nI 4)) (tif (tin x1 4) (let G_1 := sA G 1126 0 (upd (gA G 1126 0) x1.toNatClampNeg (vp_nar .boolean (nI 0)))
  V_X11_begins_42 (x1 + (nI 1)) G_1) none)
  (some (none, G)) := (tgo 43 rfl sk_X11_begins rfl).trans rfl
def st_X11_keeps : List (Nat × List Bool) := [(11, [true, true]), (53, [true, false])]
theorem sk_X11_keeps : ∀ pc bs, tstop st_X11_keeps pc = some bs → ∃ a, k_X11_keeps pc = some (aMk bs a) := tstop_ok (List.forall_mem_cons.mpr ⟨⟨_, rfl⟩, List.forall_mem_cons.mpr ⟨⟨_, rfl⟩, fun _ h => absurd h List.not_mem_nil⟩⟩)
set_option maxRecDepth 20000 in
theorem e_X11_keeps (G : tH) : V_X11_keeps  G = tif ((gI G 1125 (0)) = (nI 16)) (V_X11_keeps_11 (nI 1) G)
  (V_X11_keeps_53 G) := (tgo 54 rfl sk_X11_keeps rfl).trans rfl
set_option maxRecDepth 20000 in
theorem e_X11_keeps_11 (x1 : Int32) (G : tH) : V_X11_keeps_11 x1 G = tif (x1 < (nI 16)) (tbV (V_X11_copies ((nI 61) * ((nI 5) + x1)) ((nI 61) * (((nI 5) + x1) - (nI 1))) (nI 56) G) (fun G_1 => V_X11_keeps_11 (x1 + (nI 1)) G_1))
  (let G_2 := sI G 1125 (0) ((gI G 1125 (0)) - (nI 1))
  V_X11_keeps_53 G_2) := (tgo 54 rfl sk_X11_keeps rfl).trans rfl
set_option maxRecDepth 20000 in
theorem e_X11_keeps_53 (G : tH) : V_X11_keeps_53  G = tbV (V_X11_copies (nI 0) ((nI 61) * ((nI 5) + (gI G 1125 (0)))) (nI 56) G) (fun G_1 => let G_2 := sI G_1 1125 (0) ((gI G_1 1125 (0)) + (nI 1))
  some (none, G_2)) := (tgo 54 rfl sk_X11_keeps rfl).trans rfl
def st_X11_towns : List (Nat × List Bool) := []
theorem sk_X11_towns : ∀ pc bs, tstop st_X11_towns pc = some bs → ∃ a, k_X11_towns pc = some (aMk bs a) := tstop_ok (fun _ h => absurd h List.not_mem_nil)
set_option maxRecDepth 20000 in
theorem e_X11_towns (G : tH) : V_X11_towns  G = tif (tin (nI 0) 120) (some (some (vI (gA G 1110 0 (nI 0).toNatClampNeg)), G)) none := (tgo 10 rfl sk_X11_towns rfl).trans rfl
def st_X11_companies : List (Nat × List Bool) := []
theorem sk_X11_companies : ∀ pc bs, tstop st_X11_companies pc = some bs → ∃ a, k_X11_companies pc = some (aMk bs a) := tstop_ok (fun _ h => absurd h List.not_mem_nil)
set_option maxRecDepth 20000 in
theorem e_X11_companies (G : tH) : V_X11_companies  G = tif (tin (nI 1) 120) (some (some (vI (gA G 1110 0 (nI 1).toNatClampNeg)), G)) none := (tgo 10 rfl sk_X11_companies rfl).trans rfl
def st_X11_harvests : List (Nat × List Bool) := []
theorem sk_X11_harvests : ∀ pc bs, tstop st_X11_harvests pc = some bs → ∃ a, k_X11_harvests pc = some (aMk bs a) := tstop_ok (fun _ h => absurd h List.not_mem_nil)
set_option maxRecDepth 20000 in
theorem e_X11_harvests (G : tH) : V_X11_harvests  G = tif (tin (nI 2) 120) (some (some (vI (gA G 1110 0 (nI 2).toNatClampNeg)), G)) none := (tgo 10 rfl sk_X11_harvests rfl).trans rfl
def st_X11_jurors : List (Nat × List Bool) := []
theorem sk_X11_jurors : ∀ pc bs, tstop st_X11_jurors pc = some bs → ∃ a, k_X11_jurors pc = some (aMk bs a) := tstop_ok (fun _ h => absurd h List.not_mem_nil)
set_option maxRecDepth 20000 in
theorem e_X11_jurors (G : tH) : V_X11_jurors  G = tif (tin (nI 3) 120) (some (some (vI (gA G 1110 0 (nI 3).toNatClampNeg)), G)) none := (tgo 10 rfl sk_X11_jurors rfl).trans rfl
def st_X11_townOf : List (Nat × List Bool) := []
theorem sk_X11_townOf : ∀ pc bs, tstop st_X11_townOf pc = some bs → ∃ a, k_X11_townOf pc = some (aMk bs a) := tstop_ok (fun _ h => absurd h List.not_mem_nil)
set_option maxRecDepth 20000 in
theorem e_X11_townOf (x1 : Int32) (x2 : Int32) (G : tH) : V_X11_townOf x1 x2 G = tif (tin (((nI 8) + ((nI 2) * x1)) + x2) 120) (some (some (vI (gA G 1110 0 (((nI 8) + ((nI 2) * x1)) + x2).toNatClampNeg)), G)) none := (tgo 16 rfl sk_X11_townOf rfl).trans rfl
