/-! the equations: X11b -/
def st_X11_readName : List (Nat × List Bool) := [(62, [true, false, false, true, true])]
theorem sk_X11_readName : ∀ pc bs, tstop st_X11_readName pc = some bs → ∃ a, k_X11_readName pc = some (aMk bs a) := tstop_ok (List.forall_mem_cons.mpr ⟨⟨_, rfl⟩, fun _ h => absurd h List.not_mem_nil⟩)
theorem e_X11_readName (x1 : Int32) (x2 : Int32) (x3 : Int32) (G : tH) : V_X11_readName x1 x2 x3 G = if tin ((60 : Int32) + x1) 120 then (if (gA G 1110 0 ((60 : Int32) + x1).toNatClampNeg) = x2 then tbV (V_X11_wrong (5 : Int32) G) (fun G_1 => some (some (vI (0 : Int32)), G_1))
  else let G_2 := sI G 1107 (0) ((gI G 1107 (0)) + (1 : Int32))
  tbI (V_X11_isName G_2) (fun r_4 G_3 => if r_4 = 0 then tbV (V_X11_wrong (1 : Int32) G_3) (fun G_5 => V_X11_readName_62 x3 (gA G 1110 0 ((60 : Int32) + x1).toNatClampNeg) G_5)
  else tbI (V_X11_find (1 : Int32) G_3) (fun r_7 G_6 => if r_7 < 0 then V_X11_readName_62 x3 (gA G 1110 0 ((60 : Int32) + x1).toNatClampNeg) G_6
  else tbV (V_X11_wrong (3 : Int32) G_6) (fun G_8 => V_X11_readName_62 x3 (gA G 1110 0 ((60 : Int32) + x1).toNatClampNeg) G_8)))) else none := (tgo 77 rfl sk_X11_readName rfl).trans rfl
theorem e_X11_readName_62 (x3 : Int32) (x4 : Int32) (G : tH) : V_X11_readName_62 x3 x4 G = if 0 < (gI G 1108 (0)) then some (some (vI (0 : Int32)), G)
  else if tin (gI G 1107 (0)) 1002 then (if tin (gI G 1119 (0)) 21 then (let G_1 := sB G 1115 0 (vp_updL (gB G 1115 0) (gI G 1119 (0)).toNatClampNeg (gB G 1106 0 (gI G 1107 (0)).toNatClampNeg))
  if tin (gI G_1 1119 (0)) 21 then (let G_2 := sA G_1 1117 0 (upd (gA G_1 1117 0) (gI G_1 1119 (0)).toNatClampNeg (x3 + x4))
  let G_3 := sI G_2 1119 (0) ((gI G_2 1119 (0)) + (1 : Int32))
  let G_4 := sI G_3 1107 (0) ((gI G_3 1107 (0)) + (1 : Int32))
  some (some (vI (1 : Int32)), G_4)) else none) else none) else none := (tgo 77 rfl sk_X11_readName rfl).trans rfl
def st_X11_readOnce : List (Nat × List Bool) := [(37, [true, true]), (94, [false, false])]
theorem sk_X11_readOnce : ∀ pc bs, tstop st_X11_readOnce pc = some bs → ∃ a, k_X11_readOnce pc = some (aMk bs a) := tstop_ok (List.forall_mem_cons.mpr ⟨⟨_, rfl⟩, List.forall_mem_cons.mpr ⟨⟨_, rfl⟩, fun _ h => absurd h List.not_mem_nil⟩⟩)
theorem e_X11_readOnce (G : tH) : V_X11_readOnce  G = tbI (V_X11_wordHere (10 : Int32) (4 : Int32) G) (fun r_2 G_1 => if r_2 < 0 then tbV (V_X11_wrong (1 : Int32) G_1) (fun G_3 => V_X11_readOnce_37 r_2 G_3)
  else if (((gI G_1 1120 (0)) >>> (r_2 &&& 31)) &&& (1 : Int32)) = (1 : Int32) then tbV (V_X11_wrong (3 : Int32) G_1) (fun G_4 => V_X11_readOnce_37 r_2 G_4)
  else V_X11_readOnce_37 r_2 G_1) := (tgo 81 rfl sk_X11_readOnce rfl).trans rfl
theorem e_X11_readOnce_37 (x1 : Int32) (G : tH) : V_X11_readOnce_37 x1 G = if 0 < (gI G 1108 (0)) then some (none, G)
  else let G_1 := sI G 1120 (0) ((gI G 1120 (0)) ||| ((1 : Int32) <<< (x1 &&& 31)))
  let G_2 := sI G_1 1107 (0) ((gI G_1 1107 (0)) + (1 : Int32))
  if x1 < (2 : Int32) then (if x1 = 0 then V_X11_readOnce_94 (100 : Int32) (0 : Int32) ((64 : Int32) + x1) G_2
  else V_X11_readOnce_94 (999 : Int32) (0 : Int32) ((64 : Int32) + x1) G_2)
  else if tin (((66 : Int32) + x1) - (2 : Int32)) 120 then (let G_3 := sA G_2 1110 0 (upd (gA G_2 1110 0) (((66 : Int32) + x1) - (2 : Int32)).toNatClampNeg (gI G_2 1113 (0)))
  tbV (V_X11_all (trank 166 [vR 11 0, vI (0 : Int32)]) (0 : Int32) G_3) (fun G_4 => tbV (V_X11_emit (0 : Int32) (0 : Int32) G_4) (fun G_5 => some (none, G_5)))) else none := (tgo 81 rfl sk_X11_readOnce rfl).trans rfl
theorem e_X11_readOnce_94 (s4 : Int32) (s3 : Int32) (s1 : Int32) (G : tH) : V_X11_readOnce_94 s4 s3 s1 G = tbI (V_X11_takeNumber s3 s4 G) (fun r_2 G_1 => if tin s1 120 then (let G_3 := sA G_1 1110 0 (upd (gA G_1 1110 0) s1.toNatClampNeg r_2)
  some (none, G_3)) else none) := (tgo 81 rfl sk_X11_readOnce rfl).trans rfl
def st_X11_past : List (Nat × List Bool) := [(11, [true, true, false]), (101, [true, true, false]), (110, [true, true, false]), (131, [true, true, true])]
theorem sk_X11_past : ∀ pc bs, tstop st_X11_past pc = some bs → ∃ a, k_X11_past pc = some (aMk bs a) := tstop_ok (List.forall_mem_cons.mpr ⟨⟨_, rfl⟩, List.forall_mem_cons.mpr ⟨⟨_, rfl⟩, List.forall_mem_cons.mpr ⟨⟨_, rfl⟩, List.forall_mem_cons.mpr ⟨⟨_, rfl⟩, fun _ h => absurd h List.not_mem_nil⟩⟩⟩⟩)
theorem e_X11_past (G : tH) : V_X11_past  G = let G_1 := sI G 1100 (0) ((0 : Int32))
  tbV (V_X11_cutAll G_1) (fun G_2 => V_X11_past_11 (0 : Int32) G_2) := (tgo 101 rfl sk_X11_past rfl).trans rfl
theorem e_X11_past_11 (x1 : Int32) (G : tH) : V_X11_past_11 x1 G = if (gI G 1108 (0)) = 0 then (if tin (gI G 1107 (0)) 1002 then (if (gA G 1104 0 (gI G 1107 (0)).toNatClampNeg) = 0 then V_X11_past_110 x1 G
  else tbI (V_X11_wordHere (14 : Int32) (10 : Int32) G) (fun r_2 G_1 => if r_2 < 0 then tbV (V_X11_wrong (1 : Int32) G_1) (fun G_3 => V_X11_past_101 x1 G_3)
  else if x1 = (40 : Int32) then tbV (V_X11_wrong (5 : Int32) G_1) (fun G_4 => V_X11_past_101 x1 G_4)
  else let G_5 := sI G_1 1107 (0) ((gI G_1 1107 (0)) + (1 : Int32))
  if tin ((125 : Int32) + ((3 : Int32) * x1)) 250 then (let G_6 := sA G_5 1121 0 (upd (gA G_5 1121 0) ((125 : Int32) + ((3 : Int32) * x1)).toNatClampNeg r_2)
  tbV (V_X11_readPast r_2 ((126 : Int32) + ((3 : Int32) * x1)) G_6) (fun G_7 => V_X11_past_101 (x1 + (1 : Int32)) G_7)) else none)) else none)
  else V_X11_past_110 x1 G := (tgo 101 rfl sk_X11_past rfl).trans rfl
theorem e_X11_past_101 (x1 : Int32) (G : tH) : V_X11_past_101 x1 G = tbV (V_X11_takeSign (59 : Int32) G) (fun G_1 => V_X11_past_11 x1 G_1) := (tgo 101 rfl sk_X11_past rfl).trans rfl
theorem e_X11_past_110 (x1 : Int32) (G : tH) : V_X11_past_110 x1 G = if 0 < (gI G 1108 (0)) then some (some (vI (gI G 1108 (0))), G)
  else let G_1 := sA G 1121 0 (upd (gA G 1121 0) (0 : Int32).toNatClampNeg x1)
  V_X11_past_131 x1 (0 : Int32) G_1 := (tgo 101 rfl sk_X11_past rfl).trans rfl
theorem e_X11_past_131 (x1 : Int32) (x2 : Int32) (G : tH) : V_X11_past_131 x1 x2 G = if x2 < ((3 : Int32) * x1) then (if tin ((125 : Int32) + x2) 250 then (if tin ((1 : Int32) + x2) 250 then (let G_1 := sA G 1121 0 (upd (gA G 1121 0) ((1 : Int32) + x2).toNatClampNeg (gA G 1121 0 ((125 : Int32) + x2).toNatClampNeg))
  V_X11_past_131 x1 (x2 + (1 : Int32)) G_1) else none) else none)
  else some (some (vI (0 : Int32)), G) := (tgo 101 rfl sk_X11_past rfl).trans rfl
def st_X11_readPast : List (Nat × List Bool) := []
theorem sk_X11_readPast : ∀ pc bs, tstop st_X11_readPast pc = some bs → ∃ a, k_X11_readPast pc = some (aMk bs a) := tstop_ok (fun _ h => absurd h List.not_mem_nil)
theorem e_X11_readPast (x1 : Int32) (x2 : Int32) (G : tH) : V_X11_readPast x1 x2 G = if tin x2 250 then (let G_1 := sA G 1121 0 (upd (gA G 1121 0) x2.toNatClampNeg (0 : Int32))
  if tin (x2 + (1 : Int32)) 250 then (let G_2 := sA G_1 1121 0 (upd (gA G_1 1121 0) (x2 + (1 : Int32)).toNatClampNeg (0 : Int32))
  if x1 = 0 then (tbI (V_X11_takeTold (0 : Int32) (20 : Int32) G_2) (fun r_4 G_3 => if tin x2 250 then (let G_5 := sA G_3 1121 0 (upd (gA G_3 1121 0) x2.toNatClampNeg r_4)
  tbI (V_X11_takeNumber (0 : Int32) (9999 : Int32) G_5) (fun r_7 G_6 => if tin (x2 + (1 : Int32)) 250 then (let G_8 := sA G_6 1121 0 (upd (gA G_6 1121 0) (x2 + (1 : Int32)).toNatClampNeg r_7)
  some (none, G_8)) else none)) else none))
  else if x1 = (2 : Int32) then (tbI (V_X11_takeTold (0 : Int32) (40 : Int32) G_2) (fun r_10 G_9 => if tin x2 250 then (let G_11 := sA G_9 1121 0 (upd (gA G_9 1121 0) x2.toNatClampNeg r_10)
  some (none, G_11)) else none))
  else tbI (V_X11_within x1 (3 : Int32) (5 : Int32) G_2) (fun r_13 G_12 => if r_13 = 0 then (if x1 = (6 : Int32) then (tbI (V_X11_takeTold (0 : Int32) (0 : Int32) G_12) (fun r_15 G_14 => if tin x2 250 then (let G_16 := sA G_14 1121 0 (upd (gA G_14 1121 0) x2.toNatClampNeg r_15)
  some (none, G_16)) else none))
  else if x1 = (7 : Int32) then (tbI (V_X11_takeTold (0 : Int32) (60 : Int32) G_12) (fun r_18 G_17 => if tin x2 250 then (let G_19 := sA G_17 1121 0 (upd (gA G_17 1121 0) x2.toNatClampNeg r_18)
  some (none, G_19)) else none))
  else some (none, G_12))
  else tbI (V_X11_takeTold (0 : Int32) (0 : Int32) G_12) (fun r_21 G_20 => if tin x2 250 then (let G_22 := sA G_20 1121 0 (upd (gA G_20 1121 0) x2.toNatClampNeg r_21)
  tbI (V_X11_takeNumber (1 : Int32) (9999 : Int32) G_22) (fun r_24 G_23 => if tin (x2 + (1 : Int32)) 250 then (let G_25 := sA G_23 1121 0 (upd (gA G_23 1121 0) (x2 + (1 : Int32)).toNatClampNeg r_24)
  some (none, G_25)) else none)) else none))) else none) else none := (tgo 98 rfl sk_X11_readPast rfl).trans rfl
def st_X11_emit : List (Nat × List Bool) := []
theorem sk_X11_emit : ∀ pc bs, tstop st_X11_emit pc = some bs → ∃ a, k_X11_emit pc = some (aMk bs a) := tstop_ok (fun _ h => absurd h List.not_mem_nil)
theorem e_X11_emit (x1 : Int32) (x2 : Int32) (G : tH) : V_X11_emit x1 x2 G = if tin ((1100 : Int32) + (gI G 1113 (0))) 2200 then (let G_1 := sA G 1111 0 (upd (gA G 1111 0) ((1100 : Int32) + (gI G 1113 (0))).toNatClampNeg x1)
  if tin ((1100 : Int32) + (gI G_1 1113 (0))) 2200 then (let G_2 := sA G_1 1112 0 (upd (gA G_1 1112 0) ((1100 : Int32) + (gI G_1 1113 (0))).toNatClampNeg x2)
  let G_3 := sI G_2 1113 (0) ((gI G_2 1113 (0)) + (1 : Int32))
  some (none, G_3)) else none) else none := (tgo 28 rfl sk_X11_emit rfl).trans rfl
def st_X11_all : List (Nat × List Bool) := [(5, [true, true, false]), (23, [true, true, false]), (57, [true, true, false])]
theorem sk_X11_all : ∀ pc bs, tstop st_X11_all pc = some bs → ∃ a, k_X11_all pc = some (aMk bs a) := tstop_ok (List.forall_mem_cons.mpr ⟨⟨_, rfl⟩, List.forall_mem_cons.mpr ⟨⟨_, rfl⟩, List.forall_mem_cons.mpr ⟨⟨_, rfl⟩, fun _ h => absurd h List.not_mem_nil⟩⟩⟩)
theorem e_X11_all (d : Nat) (x1 : Int32) (G : tH) : V_X11_all d x1 G = tbV (cond (Nat.blt (trank 167 [vR 11 0, vI x1]) d && true) (V_X11_test (trank 167 [vR 11 0, vI x1]) x1 G) none) (fun G_1 => V_X11_all_5 d x1 G_1) := (tgo 39 rfl sk_X11_all rfl).trans rfl
theorem e_X11_all_5 (d : Nat) (x1 : Int32) (G : tH) : V_X11_all_5 d x1 G = tbI (V_X11_isWord (33 : Int32) G) (fun r_2 G_1 => if r_2 = 0 then (tbI (V_X11_isWord (34 : Int32) G_1) (fun r_4 G_3 => if r_4 = 0 then some (none, G_3)
  else V_X11_all_23 d x1 G_3))
  else V_X11_all_23 d x1 G_1) := (tgo 39 rfl sk_X11_all rfl).trans rfl
theorem e_X11_all_23 (d : Nat) (x1 : Int32) (G : tH) : V_X11_all_23 d x1 G = tbI (V_X11_isWord (33 : Int32) G) (fun r_2 G_1 => let G_3 := sI G_1 1107 (0) ((gI G_1 1107 (0)) + (1 : Int32))
  tbV (cond (Nat.blt (trank 167 [vR 11 0, vI x1]) d && true) (V_X11_test (trank 167 [vR 11 0, vI x1]) x1 G_3) none) (fun G_4 => if r_2 = 0 then V_X11_all_57 d x1 (10 : Int32) G_4
  else V_X11_all_57 d x1 (9 : Int32) G_4)) := (tgo 39 rfl sk_X11_all rfl).trans rfl
theorem e_X11_all_57 (d : Nat) (x1 : Int32) (s1 : Int32) (G : tH) : V_X11_all_57 d x1 s1 G = tbV (V_X11_emit s1 (0 : Int32) G) (fun G_1 => V_X11_all_5 d x1 G_1) := (tgo 39 rfl sk_X11_all rfl).trans rfl
def st_X11_test : List (Nat × List Bool) := [(30, [true, true, true]), (47, [false, false, false])]
theorem sk_X11_test : ∀ pc bs, tstop st_X11_test pc = some bs → ∃ a, k_X11_test pc = some (aMk bs a) := tstop_ok (List.forall_mem_cons.mpr ⟨⟨_, rfl⟩, List.forall_mem_cons.mpr ⟨⟨_, rfl⟩, fun _ h => absurd h List.not_mem_nil⟩⟩)
theorem e_X11_test (d : Nat) (x1 : Int32) (G : tH) : V_X11_test d x1 G = tbV (cond (Nat.blt (trank 168 [vR 11 0, vI x1]) d && true) (V_X11_sums (trank 168 [vR 11 0, vI x1]) x1 G) none) (fun G_1 => tbI (V_X11_isSign (60 : Int32) G_1) (fun r_3 G_2 => tbI (V_X11_hasSign (60 : Int32) G_2) (fun r_5 G_4 => if r_5 = 0 then (tbI (V_X11_hasSign (61 : Int32) G_4) (fun r_7 G_6 => if r_7 = 0 then some (none, G_6)
  else V_X11_test_30 d x1 r_3 G_6))
  else V_X11_test_30 d x1 r_3 G_4))) := (tgo 32 rfl sk_X11_test rfl).trans rfl
theorem e_X11_test_30 (d : Nat) (x1 : Int32) (x2 : Int32) (G : tH) : V_X11_test_30 d x1 x2 G = tbV (cond (Nat.blt (trank 168 [vR 11 0, vI x1]) d && true) (V_X11_sums (trank 168 [vR 11 0, vI x1]) x1 G) none) (fun G_1 => if x2 = 0 then V_X11_test_47 d (8 : Int32) G_1
  else V_X11_test_47 d (7 : Int32) G_1) := (tgo 32 rfl sk_X11_test rfl).trans rfl
theorem e_X11_test_47 (d : Nat) (s1 : Int32) (G : tH) : V_X11_test_47 d s1 G = tbV (V_X11_emit s1 (0 : Int32) G) (fun G_1 => some (none, G_1)) := (tgo 32 rfl sk_X11_test rfl).trans rfl
def st_X11_sums : List (Nat × List Bool) := [(5, [true, true, false]), (23, [true, true, false]), (55, [true, true, false])]
theorem sk_X11_sums : ∀ pc bs, tstop st_X11_sums pc = some bs → ∃ a, k_X11_sums pc = some (aMk bs a) := tstop_ok (List.forall_mem_cons.mpr ⟨⟨_, rfl⟩, List.forall_mem_cons.mpr ⟨⟨_, rfl⟩, List.forall_mem_cons.mpr ⟨⟨_, rfl⟩, fun _ h => absurd h List.not_mem_nil⟩⟩⟩)
theorem e_X11_sums (d : Nat) (x1 : Int32) (G : tH) : V_X11_sums d x1 G = tbV (cond (Nat.blt (trank 169 [vR 11 0, vI x1]) d && true) (V_X11_products (trank 169 [vR 11 0, vI x1]) x1 G) none) (fun G_1 => V_X11_sums_5 d x1 G_1) := (tgo 39 rfl sk_X11_sums rfl).trans rfl
theorem e_X11_sums_5 (d : Nat) (x1 : Int32) (G : tH) : V_X11_sums_5 d x1 G = tbI (V_X11_isSign (43 : Int32) G) (fun r_2 G_1 => if r_2 = 0 then (tbI (V_X11_isSign (45 : Int32) G_1) (fun r_4 G_3 => if r_4 = 0 then some (none, G_3)
  else V_X11_sums_23 d x1 G_3))
  else V_X11_sums_23 d x1 G_1) := (tgo 39 rfl sk_X11_sums rfl).trans rfl
theorem e_X11_sums_23 (d : Nat) (x1 : Int32) (G : tH) : V_X11_sums_23 d x1 G = tbI (V_X11_isSign (43 : Int32) G) (fun r_2 G_1 => let G_3 := sI G_1 1107 (0) ((gI G_1 1107 (0)) + (1 : Int32))
  tbV (cond (Nat.blt (trank 169 [vR 11 0, vI x1]) d && true) (V_X11_products (trank 169 [vR 11 0, vI x1]) x1 G_3) none) (fun G_4 => if r_2 = 0 then V_X11_sums_55 d x1 (5 : Int32) G_4
  else V_X11_sums_55 d x1 (4 : Int32) G_4)) := (tgo 39 rfl sk_X11_sums rfl).trans rfl
theorem e_X11_sums_55 (d : Nat) (x1 : Int32) (s1 : Int32) (G : tH) : V_X11_sums_55 d x1 s1 G = tbV (V_X11_emit s1 (0 : Int32) G) (fun G_1 => V_X11_sums_5 d x1 G_1) := (tgo 39 rfl sk_X11_sums rfl).trans rfl
def st_X11_products : List (Nat × List Bool) := [(5, [true, true])]
theorem sk_X11_products : ∀ pc bs, tstop st_X11_products pc = some bs → ∃ a, k_X11_products pc = some (aMk bs a) := tstop_ok (List.forall_mem_cons.mpr ⟨⟨_, rfl⟩, fun _ h => absurd h List.not_mem_nil⟩)
theorem e_X11_products (d : Nat) (x1 : Int32) (G : tH) : V_X11_products d x1 G = tbV (cond (Nat.blt (trank 170 [vR 11 0, vI x1]) d && true) (V_X11_takePart (trank 170 [vR 11 0, vI x1]) x1 G) none) (fun G_1 => V_X11_products_5 d x1 G_1) := (tgo 21 rfl sk_X11_products rfl).trans rfl
theorem e_X11_products_5 (d : Nat) (x1 : Int32) (G : tH) : V_X11_products_5 d x1 G = tbI (V_X11_hasSign (42 : Int32) G) (fun r_2 G_1 => if r_2 = 0 then some (none, G_1)
  else tbV (cond (Nat.blt (trank 170 [vR 11 0, vI x1]) d && true) (V_X11_takePart (trank 170 [vR 11 0, vI x1]) x1 G_1) none) (fun G_3 => tbV (V_X11_emit (6 : Int32) (0 : Int32) G_3) (fun G_4 => V_X11_products_5 d x1 G_4))) := (tgo 21 rfl sk_X11_products rfl).trans rfl
def st_X11_takePart : List (Nat × List Bool) := [(26, [true, true, false, false]), (69, [true, true, true, true]), (79, [true, true, true, true]), (147, [true, false, true, true]), (165, [true, false, false, false])]
theorem sk_X11_takePart : ∀ pc bs, tstop st_X11_takePart pc = some bs → ∃ a, k_X11_takePart pc = some (aMk bs a) := tstop_ok (List.forall_mem_cons.mpr ⟨⟨_, rfl⟩, List.forall_mem_cons.mpr ⟨⟨_, rfl⟩, List.forall_mem_cons.mpr ⟨⟨_, rfl⟩, List.forall_mem_cons.mpr ⟨⟨_, rfl⟩, List.forall_mem_cons.mpr ⟨⟨_, rfl⟩, fun _ h => absurd h List.not_mem_nil⟩⟩⟩⟩⟩)
theorem e_X11_takePart (d : Nat) (x1 : Int32) (G : tH) : V_X11_takePart d x1 G = if 0 < (gI G 1108 (0)) then some (none, G)
  else if tin (gI G 1107 (0)) 1002 then (if (gA G 1104 0 (gI G 1107 (0)).toNatClampNeg) = (2 : Int32) then V_X11_takePart_26 d x1 (1 : Int32) G
  else V_X11_takePart_26 d x1 (0 : Int32) G) else none := (tgo 102 rfl sk_X11_takePart rfl).trans rfl
theorem e_X11_takePart_26 (d : Nat) (x1 : Int32) (s0 : Int32) (G : tH) : V_X11_takePart_26 d x1 s0 G = tbI (V_X11_wordHere (35 : Int32) (3 : Int32) G) (fun r_2 G_1 => if r_2 < 0 then (if s0 = 0 then (tbI (V_X11_isSign (40 : Int32) G_1) (fun r_4 G_3 => if r_4 = 0 then (tbI (V_X11_isWord (32 : Int32) G_3) (fun r_6 G_5 => if r_6 = 0 then tbV (V_X11_wrong (1 : Int32) G_5) (fun G_7 => V_X11_takePart_79 d x1 s0 r_2 G_7)
  else V_X11_takePart_69 d x1 s0 r_2 G_5))
  else V_X11_takePart_69 d x1 s0 r_2 G_3))
  else V_X11_takePart_69 d x1 s0 r_2 G_1)
  else V_X11_takePart_69 d x1 s0 r_2 G_1) := (tgo 102 rfl sk_X11_takePart rfl).trans rfl
theorem e_X11_takePart_69 (d : Nat) (x1 : Int32) (x2 : Int32) (x3 : Int32) (G : tH) : V_X11_takePart_69 d x1 x2 x3 G = if x1 = (5 : Int32) then tbV (V_X11_wrong (5 : Int32) G) (fun G_1 => V_X11_takePart_79 d x1 x2 x3 G_1)
  else V_X11_takePart_79 d x1 x2 x3 G := (tgo 102 rfl sk_X11_takePart rfl).trans rfl
theorem e_X11_takePart_79 (d : Nat) (x1 : Int32) (x2 : Int32) (x3 : Int32) (G : tH) : V_X11_takePart_79 d x1 x2 x3 G = if 0 < (gI G 1108 (0)) then some (none, G)
  else tbI (V_X11_hasWord (32 : Int32) G) (fun r_2 G_1 => if r_2 = 0 then (tbI (V_X11_hasSign (40 : Int32) G_1) (fun r_4 G_3 => if r_4 = 0 then (if x2 = 0 then V_X11_takePart_147 d x2 x3 (2 : Int32) G_3
  else V_X11_takePart_147 d x2 x3 (1 : Int32) G_3)
  else tbV (cond (Nat.blt (trank 166 [vR 11 0, vI (x1 + (1 : Int32))]) d && true) (V_X11_all (trank 166 [vR 11 0, vI (x1 + (1 : Int32))]) (x1 + (1 : Int32)) G_3) none) (fun G_5 => tbV (V_X11_takeSign (41 : Int32) G_5) (fun G_6 => some (none, G_6)))))
  else tbV (cond (Nat.blt (trank 170 [vR 11 0, vI (x1 + (1 : Int32))]) d && true) (V_X11_takePart (trank 170 [vR 11 0, vI (x1 + (1 : Int32))]) (x1 + (1 : Int32)) G_1) none) (fun G_7 => tbV (V_X11_emit (3 : Int32) (0 : Int32) G_7) (fun G_8 => some (none, G_8)))) := (tgo 102 rfl sk_X11_takePart rfl).trans rfl
theorem e_X11_takePart_147 (d : Nat) (x2 : Int32) (x3 : Int32) (s1 : Int32) (G : tH) : V_X11_takePart_147 d x2 x3 s1 G = if x2 = 0 then V_X11_takePart_165 d x3 s1 G
  else if tin (gI G 1107 (0)) 1002 then V_X11_takePart_165 d ((gB G 1106 0 (gI G 1107 (0)).toNatClampNeg).toInt32) s1 G else none := (tgo 102 rfl sk_X11_takePart rfl).trans rfl
theorem e_X11_takePart_165 (d : Nat) (s2 : Int32) (s1 : Int32) (G : tH) : V_X11_takePart_165 d s2 s1 G = tbV (V_X11_emit s1 s2 G) (fun G_1 => let G_2 := sI G_1 1107 (0) ((gI G_1 1107 (0)) + (1 : Int32))
  some (none, G_2)) := (tgo 102 rfl sk_X11_takePart rfl).trans rfl
def st_X11_worthAt : List (Nat × List Bool) := [(4, [true, false, true, true, false]), (33, [true, false, true, true, true])]
theorem sk_X11_worthAt : ∀ pc bs, tstop st_X11_worthAt pc = some bs → ∃ a, k_X11_worthAt pc = some (aMk bs a) := tstop_ok (List.forall_mem_cons.mpr ⟨⟨_, rfl⟩, List.forall_mem_cons.mpr ⟨⟨_, rfl⟩, fun _ h => absurd h List.not_mem_nil⟩⟩)
theorem e_X11_worthAt (x1 : Int32) (G : tH) : V_X11_worthAt x1 G = V_X11_worthAt_4 (0 : Int32) x1 G := (tgo 92 rfl sk_X11_worthAt rfl).trans rfl
theorem e_X11_worthAt_4 (x2 : Int32) (x3 : Int32) (G : tH) : V_X11_worthAt_4 x2 x3 G = if tin x3 2200 then (if (gA G 1111 0 x3.toNatClampNeg) = 0 then some (some (vI (gA G 1123 0 (0 : Int32).toNatClampNeg)), G)
  else if tin x3 2200 then (if (gA G 1111 0 x3.toNatClampNeg) = (1 : Int32) then V_X11_worthAt_33 x2 x3 (gA G 1111 0 x3.toNatClampNeg) G
  else if (gA G 1111 0 x3.toNatClampNeg) = (2 : Int32) then V_X11_worthAt_33 x2 x3 (gA G 1111 0 x3.toNatClampNeg) G
  else if (gA G 1111 0 x3.toNatClampNeg) = (3 : Int32) then (if tin (x2 - (1 : Int32)) 1100 then (if (gA G 1123 0 (x2 - (1 : Int32)).toNatClampNeg) = 0 then (if tin (x2 - (1 : Int32)) 1100 then (let G_1 := sA G 1123 0 (upd (gA G 1123 0) (x2 - (1 : Int32)).toNatClampNeg (1 : Int32))
  V_X11_worthAt_4 x2 (x3 + (1 : Int32)) G_1) else none)
  else if tin (x2 - (1 : Int32)) 1100 then (let G_2 := sA G 1123 0 (upd (gA G 1123 0) (x2 - (1 : Int32)).toNatClampNeg (0 : Int32))
  V_X11_worthAt_4 x2 (x3 + (1 : Int32)) G_2) else none) else none)
  else if tin ((x2 + (-1 : Int32)) - (1 : Int32)) 1100 then (if tin (x2 + (-1 : Int32)) 1100 then (tbI (V_X11_both (gA G 1111 0 x3.toNatClampNeg) (gA G 1123 0 ((x2 + (-1 : Int32)) - (1 : Int32)).toNatClampNeg) (gA G 1123 0 (x2 + (-1 : Int32)).toNatClampNeg) G) (fun r_4 G_3 => if tin ((x2 + (-1 : Int32)) - (1 : Int32)) 1100 then (let G_5 := sA G_3 1123 0 (upd (gA G_3 1123 0) ((x2 + (-1 : Int32)) - (1 : Int32)).toNatClampNeg r_4)
  V_X11_worthAt_4 (x2 + (-1 : Int32)) (x3 + (1 : Int32)) G_5) else none)) else none) else none) else none) else none := (tgo 92 rfl sk_X11_worthAt rfl).trans rfl
theorem e_X11_worthAt_33 (x2 : Int32) (x3 : Int32) (x4 : Int32) (G : tH) : V_X11_worthAt_33 x2 x3 x4 G = if x4 = (1 : Int32) then (if tin x3 2200 then (if tin x2 1100 then (let G_1 := sA G 1123 0 (upd (gA G 1123 0) x2.toNatClampNeg (gA G 1112 0 x3.toNatClampNeg))
  V_X11_worthAt_4 (x2 + (1 : Int32)) (x3 + (1 : Int32)) G_1) else none) else none)
  else if tin x3 2200 then (if tin (gA G 1112 0 x3.toNatClampNeg) 3 then (if tin x2 1100 then (let G_2 := sA G 1123 0 (upd (gA G 1123 0) x2.toNatClampNeg (gA G 1122 0 (gA G 1112 0 x3.toNatClampNeg).toNatClampNeg))
  V_X11_worthAt_4 (x2 + (1 : Int32)) (x3 + (1 : Int32)) G_2) else none) else none) else none := (tgo 92 rfl sk_X11_worthAt rfl).trans rfl
def st_X11_both : List (Nat × List Bool) := []
theorem sk_X11_both : ∀ pc bs, tstop st_X11_both pc = some bs → ∃ a, k_X11_both pc = some (aMk bs a) := tstop_ok (fun _ h => absurd h List.not_mem_nil)
theorem e_X11_both (x0 : Int32) (x1 : Int32) (x2 : Int32) (G : tH) : V_X11_both x0 x1 x2 G = if x0 = (4 : Int32) then some (some (vI (x1 + x2)), G)
  else if x0 = (5 : Int32) then some (some (vI (x1 - x2)), G)
  else if x0 = (6 : Int32) then some (some (vI (x1 * x2)), G)
  else if x0 = (7 : Int32) then (if x1 < x2 then some (some (vI (1 : Int32)), G)
  else some (some (vI (0 : Int32)), G))
  else if x0 = (8 : Int32) then (if x1 = x2 then some (some (vI (1 : Int32)), G)
  else some (some (vI (0 : Int32)), G))
  else if x0 = (9 : Int32) then (if x1 = 0 then some (some (vI (0 : Int32)), G)
  else if x2 = 0 then some (some (vI (0 : Int32)), G)
  else some (some (vI (1 : Int32)), G))
  else if x1 = 0 then (if x2 = 0 then some (some (vI (0 : Int32)), G)
  else some (some (vI (1 : Int32)), G))
  else some (some (vI (1 : Int32)), G) := (tgo 49 rfl sk_X11_both rfl).trans rfl
def st_X11_copies : List (Nat × List Bool) := [(3, [true, true, true, true, true])]
theorem sk_X11_copies : ∀ pc bs, tstop st_X11_copies pc = some bs → ∃ a, k_X11_copies pc = some (aMk bs a) := tstop_ok (List.forall_mem_cons.mpr ⟨⟨_, rfl⟩, fun _ h => absurd h List.not_mem_nil⟩)
theorem e_X11_copies (x1 : Int32) (x2 : Int32) (x3 : Int32) (G : tH) : V_X11_copies x1 x2 x3 G = V_X11_copies_3 x1 x2 x3 (0 : Int32) G := (tgo 25 rfl sk_X11_copies rfl).trans rfl
theorem e_X11_copies_3 (x1 : Int32) (x2 : Int32) (x3 : Int32) (x4 : Int32) (G : tH) : V_X11_copies_3 x1 x2 x3 x4 G = if x4 < x3 then (if tin (x1 + x4) 1403 then (if tin (x2 + x4) 1403 then (let G_1 := sA G 1124 0 (upd (gA G 1124 0) (x2 + x4).toNatClampNeg (gA G 1124 0 (x1 + x4).toNatClampNeg))
  V_X11_copies_3 x1 x2 x3 (x4 + (1 : Int32)) G_1) else none) else none)
  else some (none, G) := (tgo 25 rfl sk_X11_copies rfl).trans rfl
def st_X11_starts : List (Nat × List Bool) := [(2, [true, true, true]), (34, [true, true, true]), (66, [true, true, true])]
theorem sk_X11_starts : ∀ pc bs, tstop st_X11_starts pc = some bs → ∃ a, k_X11_starts pc = some (aMk bs a) := tstop_ok (List.forall_mem_cons.mpr ⟨⟨_, rfl⟩, List.forall_mem_cons.mpr ⟨⟨_, rfl⟩, List.forall_mem_cons.mpr ⟨⟨_, rfl⟩, fun _ h => absurd h List.not_mem_nil⟩⟩⟩)
theorem e_X11_starts (x1 : Int32) (G : tH) : V_X11_starts x1 G = V_X11_starts_2 x1 (0 : Int32) G := (tgo 73 rfl sk_X11_starts rfl).trans rfl
theorem e_X11_starts_2 (x1 : Int32) (x2 : Int32) (G : tH) : V_X11_starts_2 x1 x2 G = if x2 < (56 : Int32) then (if tin (x1 + x2) 1403 then (let G_1 := sA G 1124 0 (upd (gA G 1124 0) (x1 + x2).toNatClampNeg (0 : Int32))
  V_X11_starts_2 x1 (x2 + (1 : Int32)) G_1) else none)
  else if tin (x1 + (0 : Int32)) 1403 then (let G_2 := sA G 1124 0 (upd (gA G 1124 0) (x1 + (0 : Int32)).toNatClampNeg (-1 : Int32))
  V_X11_starts_34 x1 (0 : Int32) G_2) else none := (tgo 73 rfl sk_X11_starts rfl).trans rfl
theorem e_X11_starts_34 (x1 : Int32) (x2 : Int32) (G : tH) : V_X11_starts_34 x1 x2 G = tbI (V_X11_towns G) (fun r_2 G_1 => if x2 < r_2 then (tbI (V_X11_townOf x2 (1 : Int32) G_1) (fun r_4 G_3 => if tin ((x1 + (5 : Int32)) + x2) 1403 then (let G_5 := sA G_3 1124 0 (upd (gA G_3 1124 0) ((x1 + (5 : Int32)) + x2).toNatClampNeg r_4)
  V_X11_starts_34 x1 (x2 + (1 : Int32)) G_5) else none))
  else V_X11_starts_66 x1 (0 : Int32) G_1) := (tgo 73 rfl sk_X11_starts rfl).trans rfl
theorem e_X11_starts_66 (x1 : Int32) (x2 : Int32) (G : tH) : V_X11_starts_66 x1 x2 G = tbI (V_X11_companies G) (fun r_2 G_1 => if x2 < r_2 then (if tin (((20 : Int32) + ((2 : Int32) * x2)) + (1 : Int32)) 120 then (if tin ((x1 + (41 : Int32)) + x2) 1403 then (let G_3 := sA G_1 1124 0 (upd (gA G_1 1124 0) ((x1 + (41 : Int32)) + x2).toNatClampNeg (gA G_1 1110 0 (((20 : Int32) + ((2 : Int32) * x2)) + (1 : Int32)).toNatClampNeg))
  V_X11_starts_66 x1 (x2 + (1 : Int32)) G_3) else none) else none)
  else some (none, G_1)) := (tgo 73 rfl sk_X11_starts rfl).trans rfl
def st_X11_begins : List (Nat × List Bool) := [(7, [true, true]), (42, [true, true])]
theorem sk_X11_begins : ∀ pc bs, tstop st_X11_begins pc = some bs → ∃ a, k_X11_begins pc = some (aMk bs a) := tstop_ok (List.forall_mem_cons.mpr ⟨⟨_, rfl⟩, List.forall_mem_cons.mpr ⟨⟨_, rfl⟩, fun _ h => absurd h List.not_mem_nil⟩⟩)
theorem e_X11_begins (G : tH) : V_X11_begins  G = tbV (V_X11_starts (0 : Int32) G) (fun G_1 => V_X11_begins_7 (0 : Int32) G_1) := (tgo 43 rfl sk_X11_begins rfl).trans rfl
theorem e_X11_begins_7 (x1 : Int32) (G : tH) : V_X11_begins_7 x1 G = if x1 < (5 : Int32) then (if tin ((56 : Int32) + x1) 1403 then (let G_1 := sA G 1124 0 (upd (gA G 1124 0) ((56 : Int32) + x1).toNatClampNeg (-1 : Int32))
  V_X11_begins_7 (x1 + (1 : Int32)) G_1) else none)
  else let G_2 := sA G 1121 0 (upd (gA G 1121 0) (0 : Int32).toNatClampNeg (0 : Int32))
  let G_3 := sI G_2 1125 (0) ((0 : Int32))
  V_X11_begins_42 (0 : Int32) G_3 := (tgo 43 rfl sk_X11_begins rfl).trans rfl
theorem e_X11_begins_42 (x1 : Int32) (G : tH) : V_X11_begins_42 x1 G = if x1 < (4 : Int32) then (if tin x1 4 then (let G_1 := sA G 1126 0 (upd (gA G 1126 0) x1.toNatClampNeg (vp_nar .boolean (0 : Int32)))
  V_X11_begins_42 (x1 + (1 : Int32)) G_1) else none)
  else some (none, G) := (tgo 43 rfl sk_X11_begins rfl).trans rfl
def st_X11_keeps : List (Nat × List Bool) := [(11, [true, true]), (53, [true, false])]
theorem sk_X11_keeps : ∀ pc bs, tstop st_X11_keeps pc = some bs → ∃ a, k_X11_keeps pc = some (aMk bs a) := tstop_ok (List.forall_mem_cons.mpr ⟨⟨_, rfl⟩, List.forall_mem_cons.mpr ⟨⟨_, rfl⟩, fun _ h => absurd h List.not_mem_nil⟩⟩)
theorem e_X11_keeps (G : tH) : V_X11_keeps  G = if (gI G 1125 (0)) = (16 : Int32) then V_X11_keeps_11 (1 : Int32) G
  else V_X11_keeps_53 G := (tgo 54 rfl sk_X11_keeps rfl).trans rfl
theorem e_X11_keeps_11 (x1 : Int32) (G : tH) : V_X11_keeps_11 x1 G = if x1 < (16 : Int32) then tbV (V_X11_copies ((61 : Int32) * ((5 : Int32) + x1)) ((61 : Int32) * (((5 : Int32) + x1) - (1 : Int32))) (56 : Int32) G) (fun G_1 => V_X11_keeps_11 (x1 + (1 : Int32)) G_1)
  else let G_2 := sI G 1125 (0) ((gI G 1125 (0)) - (1 : Int32))
  V_X11_keeps_53 G_2 := (tgo 54 rfl sk_X11_keeps rfl).trans rfl
theorem e_X11_keeps_53 (G : tH) : V_X11_keeps_53  G = tbV (V_X11_copies (0 : Int32) ((61 : Int32) * ((5 : Int32) + (gI G 1125 (0)))) (56 : Int32) G) (fun G_1 => let G_2 := sI G_1 1125 (0) ((gI G_1 1125 (0)) + (1 : Int32))
  some (none, G_2)) := (tgo 54 rfl sk_X11_keeps rfl).trans rfl
def st_X11_towns : List (Nat × List Bool) := []
theorem sk_X11_towns : ∀ pc bs, tstop st_X11_towns pc = some bs → ∃ a, k_X11_towns pc = some (aMk bs a) := tstop_ok (fun _ h => absurd h List.not_mem_nil)
theorem e_X11_towns (G : tH) : V_X11_towns  G = some (some (vI (gA G 1110 0 (0 : Int32).toNatClampNeg)), G) := (tgo 10 rfl sk_X11_towns rfl).trans rfl
def st_X11_companies : List (Nat × List Bool) := []
theorem sk_X11_companies : ∀ pc bs, tstop st_X11_companies pc = some bs → ∃ a, k_X11_companies pc = some (aMk bs a) := tstop_ok (fun _ h => absurd h List.not_mem_nil)
theorem e_X11_companies (G : tH) : V_X11_companies  G = some (some (vI (gA G 1110 0 (1 : Int32).toNatClampNeg)), G) := (tgo 10 rfl sk_X11_companies rfl).trans rfl
def st_X11_harvests : List (Nat × List Bool) := []
theorem sk_X11_harvests : ∀ pc bs, tstop st_X11_harvests pc = some bs → ∃ a, k_X11_harvests pc = some (aMk bs a) := tstop_ok (fun _ h => absurd h List.not_mem_nil)
theorem e_X11_harvests (G : tH) : V_X11_harvests  G = some (some (vI (gA G 1110 0 (2 : Int32).toNatClampNeg)), G) := (tgo 10 rfl sk_X11_harvests rfl).trans rfl
def st_X11_jurors : List (Nat × List Bool) := []
theorem sk_X11_jurors : ∀ pc bs, tstop st_X11_jurors pc = some bs → ∃ a, k_X11_jurors pc = some (aMk bs a) := tstop_ok (fun _ h => absurd h List.not_mem_nil)
theorem e_X11_jurors (G : tH) : V_X11_jurors  G = some (some (vI (gA G 1110 0 (3 : Int32).toNatClampNeg)), G) := (tgo 10 rfl sk_X11_jurors rfl).trans rfl
def st_X11_townOf : List (Nat × List Bool) := []
theorem sk_X11_townOf : ∀ pc bs, tstop st_X11_townOf pc = some bs → ∃ a, k_X11_townOf pc = some (aMk bs a) := tstop_ok (fun _ h => absurd h List.not_mem_nil)
theorem e_X11_townOf (x1 : Int32) (x2 : Int32) (G : tH) : V_X11_townOf x1 x2 G = if tin (((8 : Int32) + ((2 : Int32) * x1)) + x2) 120 then some (some (vI (gA G 1110 0 (((8 : Int32) + ((2 : Int32) * x1)) + x2).toNatClampNeg)), G) else none := (tgo 16 rfl sk_X11_townOf rfl).trans rfl
