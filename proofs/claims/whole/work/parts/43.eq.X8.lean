/-! the equations: X8 -/
def st_X8_put : List (Nat × List Bool) := [(18, [true, true, false]), (22, [true, true, false]), (23, [true, true, false])]
theorem sk_X8_put : ∀ pc bs, tstop st_X8_put pc = some bs → ∃ a, k_X8_put pc = some (aMk bs a) := tstop_ok (List.forall_mem_cons.mpr ⟨⟨_, rfl⟩, List.forall_mem_cons.mpr ⟨⟨_, rfl⟩, List.forall_mem_cons.mpr ⟨⟨_, rfl⟩, fun _ h => absurd h List.not_mem_nil⟩⟩⟩)
set_option maxRecDepth 20000 in
theorem e_X8_put (x1 : Int32) (G : tH) : V_X8_put x1 G = tif (x1 = (nI 10)) (V_X8_put_18 x1 G)
  (tif (x1 < (nI 32)) (V_X8_put_22 x1 G)
  (tif ((nI 126) < x1) (V_X8_put_22 x1 G)
  (V_X8_put_18 x1 G))) := (tgo 37 rfl sk_X8_put rfl).trans rfl
set_option maxRecDepth 20000 in
theorem e_X8_put_18 (x1 : Int32) (G : tH) : V_X8_put_18 x1 G = V_X8_put_23 x1 (nI 1) G := (tgo 37 rfl sk_X8_put rfl).trans rfl
set_option maxRecDepth 20000 in
theorem e_X8_put_22 (x1 : Int32) (G : tH) : V_X8_put_22 x1 G = V_X8_put_23 x1 (nI 0) G := (tgo 37 rfl sk_X8_put rfl).trans rfl
set_option maxRecDepth 20000 in
theorem e_X8_put_23 (x1 : Int32) (s0 : Int32) (G : tH) : V_X8_put_23 x1 s0 G = tif (s0 = 0) (some (none, G))
  (tif ((gI G 801 (0)) < (nI 1000)) (tif (tin (gI G 801 (0)) 1000) (let G_1 := sA G 800 0 (upd (gA G 800 0) (gI G 801 (0)).toNatClampNeg (vp_nar .char x1))
  let G_2 := sI G_1 801 (0) ((gI G_1 801 (0)) + (nI 1))
  some (none, G_2)) none)
  (some (none, G))) := (tgo 37 rfl sk_X8_put rfl).trans rfl
def st_X8_start : List (Nat × List Bool) := []
theorem sk_X8_start : ∀ pc bs, tstop st_X8_start pc = some bs → ∃ a, k_X8_start pc = some (aMk bs a) := tstop_ok (fun _ h => absurd h List.not_mem_nil)
set_option maxRecDepth 20000 in
theorem e_X8_start (G : tH) : V_X8_start  G = let G_1 := sI G 802 (0) ((nI 0))
  let G_2 := sI G_1 808 (0) ((nI 0))
  tbV (V_X8_advance G_2) (fun G_3 => some (none, G_3)) := (tgo 14 rfl sk_X8_start rfl).trans rfl
def st_X8_empty : List (Nat × List Bool) := []
theorem sk_X8_empty : ∀ pc bs, tstop st_X8_empty pc = some bs → ∃ a, k_X8_empty pc = some (aMk bs a) := tstop_ok (fun _ h => absurd h List.not_mem_nil)
set_option maxRecDepth 20000 in
theorem e_X8_empty (G : tH) : V_X8_empty  G = let G_1 := sI G 801 (0) ((nI 0))
  some (some (vI (gI G_1 808 (0))), G_1) := (tgo 11 rfl sk_X8_empty rfl).trans rfl
def st_X8_advance : List (Nat × List Bool) := [(0, [true]), (52, [true]), (114, [true]), (149, [true])]
theorem sk_X8_advance : ∀ pc bs, tstop st_X8_advance pc = some bs → ∃ a, k_X8_advance pc = some (aMk bs a) := tstop_ok (List.forall_mem_cons.mpr ⟨⟨_, rfl⟩, List.forall_mem_cons.mpr ⟨⟨_, rfl⟩, List.forall_mem_cons.mpr ⟨⟨_, rfl⟩, List.forall_mem_cons.mpr ⟨⟨_, rfl⟩, fun _ h => absurd h List.not_mem_nil⟩⟩⟩⟩)
set_option maxRecDepth 20000 in
theorem e_X8_advance (G : tH) : V_X8_advance  G = V_X8_advance_0 G := tvl_mask tcS (pc := 0) (bs := [true]) rfl
set_option maxRecDepth 20000 in
theorem e_X8_advance_0 (G : tH) : V_X8_advance_0  G = tif ((gI G 802 (0)) < (gI G 801 (0))) (tif (tin (gI G 802 (0)) 1000) (tif ((gA G 800 0 (gI G 802 (0)).toNatClampNeg) = (nI 32)) (let G_1 := sI G 802 (0) ((gI G 802 (0)) + (nI 1))
  V_X8_advance_0 G_1)
  (tif (tin (gI G 802 (0)) 1000) (tif ((gA G 800 0 (gI G 802 (0)).toNatClampNeg) = (nI 10)) (let G_2 := sI G 802 (0) ((gI G 802 (0)) + (nI 1))
  V_X8_advance_0 G_2)
  (V_X8_advance_52 G)) none)) none)
  (V_X8_advance_52 G) := (tgo 102 rfl sk_X8_advance rfl).trans rfl
set_option maxRecDepth 20000 in
theorem e_X8_advance_52 (G : tH) : V_X8_advance_52  G = let G_1 := sI G 803 (0) (gI G 802 (0))
  tif ((gI G_1 802 (0)) < (gI G_1 801 (0))) (tif (tin (gI G_1 802 (0)) 1000) (tif ((gA G_1 800 0 (gI G_1 802 (0)).toNatClampNeg) < (nI 97)) (V_X8_advance_114 G_1)
  (tif (tin (gI G_1 802 (0)) 1000) (tif ((nI 122) < (gA G_1 800 0 (gI G_1 802 (0)).toNatClampNeg)) (V_X8_advance_114 G_1)
  (tbV (V_X8_scanWord G_1) (fun G_2 => some (none, G_2)))) none)) none)
  (let G_3 := sI G_1 804 (0) ((nI 0))
  some (none, G_3)) := (tgo 102 rfl sk_X8_advance rfl).trans rfl
set_option maxRecDepth 20000 in
theorem e_X8_advance_114 (G : tH) : V_X8_advance_114  G = tif (tin (gI G 802 (0)) 1000) (tif ((gA G 800 0 (gI G 802 (0)).toNatClampNeg) < (nI 48)) (V_X8_advance_149 G)
  (tif (tin (gI G 802 (0)) 1000) (tif ((nI 57) < (gA G 800 0 (gI G 802 (0)).toNatClampNeg)) (V_X8_advance_149 G)
  (tbV (V_X8_scanNumber G) (fun G_1 => some (none, G_1)))) none)) none := (tgo 102 rfl sk_X8_advance rfl).trans rfl
set_option maxRecDepth 20000 in
theorem e_X8_advance_149 (G : tH) : V_X8_advance_149  G = tif (tin (gI G 802 (0)) 1000) (tif (vp_nar .char (gA G 800 0 (gI G 802 (0)).toNatClampNeg) = (gA G 800 0 (gI G 802 (0)).toNatClampNeg)) (let G_1 := sI G 807 (0) (gA G 800 0 (gI G 802 (0)).toNatClampNeg)
  tbI (V_J0_indexOf_0f7a4 0 (gI G_1 807 (0)) G_1) (fun r_3 G_2 => tif (r_3 < 0) (let G_4 := sI G_2 804 (0) ((nI 4))
  let G_5 := sI G_4 802 (0) ((gI G_4 802 (0)) + (nI 1))
  some (none, G_5))
  (let G_6 := sI G_2 804 (0) ((nI 3))
  let G_7 := sI G_6 802 (0) ((gI G_6 802 (0)) + (nI 1))
  some (none, G_7)))) none) none := (tgo 102 rfl sk_X8_advance rfl).trans rfl
def st_X8_scanWord : List (Nat × List Bool) := [(5, [true]), (85, [true])]
theorem sk_X8_scanWord : ∀ pc bs, tstop st_X8_scanWord pc = some bs → ∃ a, k_X8_scanWord pc = some (aMk bs a) := tstop_ok (List.forall_mem_cons.mpr ⟨⟨_, rfl⟩, List.forall_mem_cons.mpr ⟨⟨_, rfl⟩, fun _ h => absurd h List.not_mem_nil⟩⟩)
set_option maxRecDepth 20000 in
theorem e_X8_scanWord (G : tH) : V_X8_scanWord  G = let G_1 := sL G 805 (0) ((lN 0))
  V_X8_scanWord_5 G_1 := (tgo 64 rfl sk_X8_scanWord rfl).trans rfl
set_option maxRecDepth 20000 in
theorem e_X8_scanWord_5 (G : tH) : V_X8_scanWord_5  G = tif ((gI G 802 (0)) < (gI G 801 (0))) (tif (tin (gI G 802 (0)) 1000) (tif ((gA G 800 0 (gI G 802 (0)).toNatClampNeg) < (nI 97)) (V_X8_scanWord_85 G)
  (tif (tin (gI G 802 (0)) 1000) (tif ((nI 122) < (gA G 800 0 (gI G 802 (0)).toNatClampNeg)) (V_X8_scanWord_85 G)
  (tif (tin (gI G 802 (0)) 1000) (let G_1 := sL G 805 (0) (((gL G 805 (0)) * (lN 32)) + ((((gA G 800 0 (gI G 802 (0)).toNatClampNeg) - (nI 97)) + (nI 1)).toInt64))
  let G_2 := sI G_1 802 (0) ((gI G_1 802 (0)) + (nI 1))
  V_X8_scanWord_5 G_2) none)) none)) none)
  (V_X8_scanWord_85 G) := (tgo 64 rfl sk_X8_scanWord rfl).trans rfl
set_option maxRecDepth 20000 in
theorem e_X8_scanWord_85 (G : tH) : V_X8_scanWord_85  G = tif ((nI 8) < ((gI G 802 (0)) - (gI G 803 (0)))) (let G_1 := sI G 804 (0) ((nI 4))
  some (none, G_1))
  (let G_2 := sI G 804 (0) ((nI 1))
  some (none, G_2)) := (tgo 64 rfl sk_X8_scanWord rfl).trans rfl
def st_X8_scanNumber : List (Nat × List Bool) := [(5, [true]), (81, [true])]
theorem sk_X8_scanNumber : ∀ pc bs, tstop st_X8_scanNumber pc = some bs → ∃ a, k_X8_scanNumber pc = some (aMk bs a) := tstop_ok (List.forall_mem_cons.mpr ⟨⟨_, rfl⟩, List.forall_mem_cons.mpr ⟨⟨_, rfl⟩, fun _ h => absurd h List.not_mem_nil⟩⟩)
set_option maxRecDepth 20000 in
theorem e_X8_scanNumber (G : tH) : V_X8_scanNumber  G = let G_1 := sI G 806 (0) ((nI 0))
  V_X8_scanNumber_5 G_1 := (tgo 61 rfl sk_X8_scanNumber rfl).trans rfl
set_option maxRecDepth 20000 in
theorem e_X8_scanNumber_5 (G : tH) : V_X8_scanNumber_5  G = tif ((gI G 802 (0)) < (gI G 801 (0))) (tif (tin (gI G 802 (0)) 1000) (tif ((gA G 800 0 (gI G 802 (0)).toNatClampNeg) < (nI 48)) (V_X8_scanNumber_81 G)
  (tif (tin (gI G 802 (0)) 1000) (tif ((nI 57) < (gA G 800 0 (gI G 802 (0)).toNatClampNeg)) (V_X8_scanNumber_81 G)
  (tif (tin (gI G 802 (0)) 1000) (let G_1 := sI G 806 (0) (((gI G 806 (0)) * (nI 10)) + ((gA G 800 0 (gI G 802 (0)).toNatClampNeg) - (nI 48)))
  let G_2 := sI G_1 802 (0) ((gI G_1 802 (0)) + (nI 1))
  V_X8_scanNumber_5 G_2) none)) none)) none)
  (V_X8_scanNumber_81 G) := (tgo 61 rfl sk_X8_scanNumber rfl).trans rfl
set_option maxRecDepth 20000 in
theorem e_X8_scanNumber_81 (G : tH) : V_X8_scanNumber_81  G = tif ((nI 4) < ((gI G 802 (0)) - (gI G 803 (0)))) (let G_1 := sI G 804 (0) ((nI 4))
  some (none, G_1))
  (let G_2 := sI G 804 (0) ((nI 2))
  some (none, G_2)) := (tgo 61 rfl sk_X8_scanNumber rfl).trans rfl
def st_X8_blame : List (Nat × List Bool) := []
theorem sk_X8_blame : ∀ pc bs, tstop st_X8_blame pc = some bs → ∃ a, k_X8_blame pc = some (aMk bs a) := tstop_ok (fun _ h => absurd h List.not_mem_nil)
set_option maxRecDepth 20000 in
theorem e_X8_blame (x1 : Int32) (G : tH) : V_X8_blame x1 G = tif ((gI G 808 (0)) = 0) (let G_1 := sI G 808 (0) (x1 + ((nI 16) * (gI G 803 (0))))
  tif (vp_nar .boolean (nI 0) = (nI 0)) (some (some (vI (nI 0)), G_1)) none)
  (tif (vp_nar .boolean (nI 0) = (nI 0)) (some (some (vI (nI 0)), G)) none) := (tgo 18 rfl sk_X8_blame rfl).trans rfl
def st_X8_wordAmong : List (Nat × List Bool) := [(17, [true, true, true, true, false, true])]
theorem sk_X8_wordAmong : ∀ pc bs, tstop st_X8_wordAmong pc = some bs → ∃ a, k_X8_wordAmong pc = some (aMk bs a) := tstop_ok (List.forall_mem_cons.mpr ⟨⟨_, rfl⟩, fun _ h => absurd h List.not_mem_nil⟩)
set_option maxRecDepth 20000 in
theorem e_X8_wordAmong (o1 : Nat) (G : tH) : V_X8_wordAmong o1 G = tif ((gI G 804 (0)) = (nI 1)) (V_X8_wordAmong_17 o1 (nI 0) (lN 0) (nI 0) G)
  (some (some (vI (-1 : Int32)), G)) := (tgo 61 rfl sk_X8_wordAmong rfl).trans rfl
set_option maxRecDepth 20000 in
theorem e_X8_wordAmong_17 (o1 : Nat) (x2 : Int32) (y3 : Int64) (x5 : Int32) (G : tH) : V_X8_wordAmong_17 o1 x2 y3 x5 G = tbI (V_J0_length_8abf5 o1 G) (fun r_2 G_1 => tif (x5 < r_2) (tbI (V_J0_charAt_5068e o1 x5 G_1) (fun r_4 G_3 => tif (r_4 = (nI 32)) (tif ((lg_cmp y3 (gL G_3 805 (0))) = 0) (some (some (vI x2), G_3))
  (V_X8_wordAmong_17 o1 (x2 + (nI 1)) (lN 0) (x5 + (nI 1)) G_3))
  (tbI (V_J0_charAt_5068e o1 x5 G_3) (fun r_6 G_5 => V_X8_wordAmong_17 o1 x2 ((y3 * (lN 32)) + (((r_6 - (nI 97)) + (nI 1)).toInt64)) (x5 + (nI 1)) G_5))))
  (tif ((lg_cmp y3 (gL G_1 805 (0))) = 0) (some (some (vI x2), G_1))
  (some (some (vI (-1 : Int32)), G_1)))) := (tgo 61 rfl sk_X8_wordAmong rfl).trans rfl
def st_X8_isSign : List (Nat × List Bool) := []
theorem sk_X8_isSign : ∀ pc bs, tstop st_X8_isSign pc = some bs → ∃ a, k_X8_isSign pc = some (aMk bs a) := tstop_ok (fun _ h => absurd h List.not_mem_nil)
set_option maxRecDepth 20000 in
theorem e_X8_isSign (x1 : Int32) (G : tH) : V_X8_isSign x1 G = tif ((gI G 804 (0)) = (nI 3)) (tif ((gI G 807 (0)) = x1) (tif (vp_nar .boolean (nI 1) = (nI 1)) (some (some (vI (nI 1)), G)) none)
  (tif (vp_nar .boolean (nI 0) = (nI 0)) (some (some (vI (nI 0)), G)) none))
  (tif (vp_nar .boolean (nI 0) = (nI 0)) (some (some (vI (nI 0)), G)) none) := (tgo 17 rfl sk_X8_isSign rfl).trans rfl
def st_X8_isName : List (Nat × List Bool) := []
theorem sk_X8_isName : ∀ pc bs, tstop st_X8_isName pc = some bs → ∃ a, k_X8_isName pc = some (aMk bs a) := tstop_ok (fun _ h => absurd h List.not_mem_nil)
set_option maxRecDepth 20000 in
theorem e_X8_isName (G : tH) : V_X8_isName  G = tif ((gI G 804 (0)) = (nI 1)) (tbI (V_X8_wordAmong 1 G) (fun r_2 G_1 => tif (r_2 = (-1 : Int32)) (tbI (V_X8_wordAmong 2 G_1) (fun r_4 G_3 => tif (r_4 = (-1 : Int32)) (tbI (V_X8_wordAmong 3 G_3) (fun r_6 G_5 => tif (r_6 = (-1 : Int32)) (tbI (V_X8_wordAmong 4 G_5) (fun r_8 G_7 => tif (r_8 = (-1 : Int32)) (tbI (V_X8_wordAmong 5 G_7) (fun r_10 G_9 => tif (r_10 = (-1 : Int32)) (tif (vp_nar .boolean (nI 1) = (nI 1)) (some (some (vI (nI 1)), G_9)) none)
  (tif (vp_nar .boolean (nI 0) = (nI 0)) (some (some (vI (nI 0)), G_9)) none)))
  (tif (vp_nar .boolean (nI 0) = (nI 0)) (some (some (vI (nI 0)), G_7)) none)))
  (tif (vp_nar .boolean (nI 0) = (nI 0)) (some (some (vI (nI 0)), G_5)) none)))
  (tif (vp_nar .boolean (nI 0) = (nI 0)) (some (some (vI (nI 0)), G_3)) none)))
  (tif (vp_nar .boolean (nI 0) = (nI 0)) (some (some (vI (nI 0)), G_1)) none)))
  (tif (vp_nar .boolean (nI 0) = (nI 0)) (some (some (vI (nI 0)), G)) none) := (tgo 38 rfl sk_X8_isName rfl).trans rfl
def st_X8_readAmong : List (Nat × List Bool) := []
theorem sk_X8_readAmong : ∀ pc bs, tstop st_X8_readAmong pc = some bs → ∃ a, k_X8_readAmong pc = some (aMk bs a) := tstop_ok (fun _ h => absurd h List.not_mem_nil)
set_option maxRecDepth 20000 in
theorem e_X8_readAmong (o1 : Nat) (G : tH) : V_X8_readAmong o1 G = tbI (V_X8_wordAmong o1 G) (fun r_2 G_1 => tif (r_2 = (-1 : Int32)) (tbI (V_X8_blame (nI 1) G_1) (fun r_4 G_3 => some (some (vI r_2), G_3)))
  (tbV (V_X8_advance G_1) (fun G_5 => some (some (vI r_2), G_5)))) := (tgo 21 rfl sk_X8_readAmong rfl).trans rfl
def st_X8_readSign : List (Nat × List Bool) := []
theorem sk_X8_readSign : ∀ pc bs, tstop st_X8_readSign pc = some bs → ∃ a, k_X8_readSign pc = some (aMk bs a) := tstop_ok (fun _ h => absurd h List.not_mem_nil)
set_option maxRecDepth 20000 in
theorem e_X8_readSign (x1 : Int32) (G : tH) : V_X8_readSign x1 G = tbI (V_X8_isSign x1 G) (fun r_2 G_1 => tif (r_2 = 0) (tbI (V_X8_blame (nI 1) G_1) (fun r_4 G_3 => tif (vp_nar .boolean r_4 = r_4) (some (some (vI r_4), G_3)) none))
  (tbV (V_X8_advance G_1) (fun G_5 => tif (vp_nar .boolean (nI 1) = (nI 1)) (some (some (vI (nI 1)), G_5)) none))) := (tgo 17 rfl sk_X8_readSign rfl).trans rfl
def st_X8_readNumber : List (Nat × List Bool) := [(32, [true, false, false, false])]
theorem sk_X8_readNumber : ∀ pc bs, tstop st_X8_readNumber pc = some bs → ∃ a, k_X8_readNumber pc = some (aMk bs a) := tstop_ok (List.forall_mem_cons.mpr ⟨⟨_, rfl⟩, fun _ h => absurd h List.not_mem_nil⟩)
set_option maxRecDepth 20000 in
theorem e_X8_readNumber (x1 : Int32) (x2 : Int32) (G : tH) : V_X8_readNumber x1 x2 G = tif ((gI G 804 (0)) = (nI 2)) (tif ((gI G 806 (0)) < x1) (V_X8_readNumber_32 G)
  (tif (x2 < (gI G 806 (0))) (V_X8_readNumber_32 G)
  (tbV (V_X8_advance G) (fun G_1 => some (some (vI (gI G 806 (0))), G_1)))))
  (tbI (V_X8_blame (nI 1) G) (fun r_3 G_2 => some (some (vI (-1 : Int32)), G_2))) := (tgo 36 rfl sk_X8_readNumber rfl).trans rfl
set_option maxRecDepth 20000 in
theorem e_X8_readNumber_32 (G : tH) : V_X8_readNumber_32  G = tbI (V_X8_blame (nI 4) G) (fun r_2 G_1 => some (some (vI (-1 : Int32)), G_1)) := (tgo 36 rfl sk_X8_readNumber rfl).trans rfl
def st_X8_readNumberBehind : List (Nat × List Bool) := []
theorem sk_X8_readNumberBehind : ∀ pc bs, tstop st_X8_readNumberBehind pc = some bs → ∃ a, k_X8_readNumberBehind pc = some (aMk bs a) := tstop_ok (fun _ h => absurd h List.not_mem_nil)
set_option maxRecDepth 20000 in
theorem e_X8_readNumberBehind (o1 : Nat) (x2 : Int32) (x3 : Int32) (G : tH) : V_X8_readNumberBehind o1 x2 x3 G = tbI (V_X8_readAmong o1 G) (fun r_2 G_1 => tif (r_2 = (-1 : Int32)) (some (some (vI (-1 : Int32)), G_1))
  (tbI (V_X8_readNumber x2 x3 G_1) (fun r_4 G_3 => some (some (vI r_4), G_3)))) := (tgo 17 rfl sk_X8_readNumberBehind rfl).trans rfl
def st_X8_readKnown : List (Nat × List Bool) := []
theorem sk_X8_readKnown : ∀ pc bs, tstop st_X8_readKnown pc = some bs → ∃ a, k_X8_readKnown pc = some (aMk bs a) := tstop_ok (fun _ h => absurd h List.not_mem_nil)
set_option maxRecDepth 20000 in
theorem e_X8_readKnown (o1 : Nat) (G : tH) : V_X8_readKnown o1 G = tbI (V_X8_isName G) (fun r_2 G_1 => tif (r_2 = 0) (tbI (V_X8_blame (nI 1) G_1) (fun r_4 G_3 => some (some (vI (-1 : Int32)), G_3)))
  (tbI (V_X6_find o1 (gL G_1 805 (0)) G_1) (fun r_6 G_5 => tif (r_6 = (-1 : Int32)) (tbI (V_X8_blame (nI 2) G_5) (fun r_8 G_7 => some (some (vI r_6), G_7)))
  (tbV (V_X8_advance G_5) (fun G_9 => some (some (vI r_6), G_9)))))) := (tgo 31 rfl sk_X8_readKnown rfl).trans rfl
