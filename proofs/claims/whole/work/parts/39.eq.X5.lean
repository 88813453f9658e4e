/-! the equations: X5 -/
def st_X5_clear : List (Nat × List Bool) := []
theorem sk_X5_clear : ∀ pc bs, tstop st_X5_clear pc = some bs → ∃ a, k_X5_clear pc = some (aMk bs a) := tstop_ok (fun _ h => absurd h List.not_mem_nil)
set_option maxRecDepth 20000 in
theorem e_X5_clear (o0 : Nat) (G : tH) : V_X5_clear o0 G = let G_1 := sI G 601 (4 * (o0) + 0) ((nI 0))
  let G_2 := sI G_1 601 (4 * (o0) + 1) ((nI 0))
  let G_3 := sI G_2 601 (4 * (o0) + 2) ((nI 0))
  let G_4 := sI G_3 601 (4 * (o0) + 3) ((nI 0))
  let G_5 := sI G_4 512 (o0) ((nI 10))
  let G_6 := sI G_5 513 (o0) ((nI 0))
  tbV (V_X2_beNumber (2 * (o0) + 0) (nI 20) G_6) (fun G_7 => tbV (V_X2_beDebt (2 * (o0) + 1) G_7) (fun G_8 => let G_9 := sI G_8 516 (o0) ((nI 0))
  some (none, G_9))) := (tgo 38 rfl sk_X5_clear rfl).trans rfl
def st_X5_tellFrom : List (Nat × List Bool) := [(6, [true, true, true])]
theorem sk_X5_tellFrom : ∀ pc bs, tstop st_X5_tellFrom pc = some bs → ∃ a, k_X5_tellFrom pc = some (aMk bs a) := tstop_ok (List.forall_mem_cons.mpr ⟨⟨_, rfl⟩, fun _ h => absurd h List.not_mem_nil⟩)
set_option maxRecDepth 20000 in
theorem e_X5_tellFrom (o0 : Nat) (G : tH) : V_X5_tellFrom o0 G = tbV (V_X5_clear o0 G) (fun G_1 => V_X5_tellFrom_6 o0 (nI 0) G_1) := (tgo 29 rfl sk_X5_tellFrom rfl).trans rfl
set_option maxRecDepth 20000 in
theorem e_X5_tellFrom_6 (o0 : Nat) (x2 : Int32) (G : tH) : V_X5_tellFrom_6 o0 x2 G = tif (x2 < (nI 1000)) (tif ((gI G 804 (0)) = 0) (tif (vp_nar .boolean (nI 1) = (nI 1)) (some (some (vI (nI 1)), G)) none)
  (tbI (V_X5_readStatement o0 G) (fun r_2 G_1 => tif (r_2 = 0) (tif (vp_nar .boolean (nI 0) = (nI 0)) (some (some (vI (nI 0)), G_1)) none)
  (tbI (V_X8_readSign (nI 59) G_1) (fun r_4 G_3 => tif (r_4 = 0) (tif (vp_nar .boolean (nI 0) = (nI 0)) (some (some (vI (nI 0)), G_3)) none)
  (V_X5_tellFrom_6 o0 (x2 + (nI 1)) G_3))))))
  (tif (vp_nar .boolean (nI 1) = (nI 1)) (some (some (vI (nI 1)), G)) none) := (tgo 29 rfl sk_X5_tellFrom rfl).trans rfl
def st_X5_readStatement : List (Nat × List Bool) := []
theorem sk_X5_readStatement : ∀ pc bs, tstop st_X5_readStatement pc = some bs → ∃ a, k_X5_readStatement pc = some (aMk bs a) := tstop_ok (fun _ h => absurd h List.not_mem_nil)
set_option maxRecDepth 20000 in
theorem e_X5_readStatement (o0 : Nat) (G : tH) : V_X5_readStatement o0 G = tbI (V_X8_wordAmong 1 G) (fun r_2 G_1 => tbI (V_X5_mayBegin o0 r_2 G_1) (fun r_4 G_3 => tif (r_4 = 0) (tif (vp_nar .boolean (nI 0) = (nI 0)) (some (some (vI (nI 0)), G_3)) none)
  (tbV (V_X8_advance G_3) (fun G_5 => tif (r_2 = (nI 0)) (tbI (V_X5_readTown o0 G_5) (fun r_7 G_6 => tif (vp_nar .boolean r_7 = r_7) (some (some (vI r_7), G_6)) none))
  (tif (r_2 = (nI 1)) (tbI (V_X5_readCompany o0 G_5) (fun r_9 G_8 => tif (vp_nar .boolean r_9 = r_9) (some (some (vI r_9), G_8)) none))
  (tif (r_2 = (nI 2)) (tbI (V_X5_readHarvest o0 G_5) (fun r_11 G_10 => tif (vp_nar .boolean r_11 = r_11) (some (some (vI r_11), G_10)) none))
  (tif (r_2 = (nI 3)) (tbI (V_X5_readJuror o0 G_5) (fun r_13 G_12 => tif (vp_nar .boolean r_13 = r_13) (some (some (vI r_13), G_12)) none))
  (tif (r_2 = (nI 4)) (tbI (V_X8_readNumber (nI 0) (nI 100) G_5) (fun r_15 G_14 => let G_16 := sI G_14 512 (o0) (r_15)
  tif ((gI G_16 512 (o0)) = (-1 : Int32)) (tif (vp_nar .boolean (nI 0) = (nI 0)) (some (some (vI (nI 0)), G_16)) none)
  (tif (vp_nar .boolean (nI 1) = (nI 1)) (some (some (vI (nI 1)), G_16)) none)))
  (tif (r_2 = (nI 5)) (tbI (V_X8_readNumber (nI 0) (nI 999) G_5) (fun r_18 G_17 => let G_19 := sI G_17 513 (o0) (r_18)
  tif ((gI G_19 513 (o0)) = (-1 : Int32)) (tif (vp_nar .boolean (nI 0) = (nI 0)) (some (some (vI (nI 0)), G_19)) none)
  (tif (vp_nar .boolean (nI 1) = (nI 1)) (some (some (vI (nI 1)), G_19)) none)))
  (tif (r_2 = (nI 6)) (tbI (V_X2_tellFrom (2 * (o0) + 0) G_5) (fun r_21 G_20 => tif (vp_nar .boolean r_21 = r_21) (some (some (vI r_21), G_20)) none))
  (tbI (V_X2_tellFrom (2 * (o0) + 1) G_5) (fun r_23 G_22 => tif (vp_nar .boolean r_23 = r_23) (some (some (vI r_23), G_22)) none)))))))))))) := (tgo 74 rfl sk_X5_readStatement rfl).trans rfl
def st_X5_mayBegin : List (Nat × List Bool) := []
theorem sk_X5_mayBegin : ∀ pc bs, tstop st_X5_mayBegin pc = some bs → ∃ a, k_X5_mayBegin pc = some (aMk bs a) := tstop_ok (fun _ h => absurd h List.not_mem_nil)
set_option maxRecDepth 20000 in
theorem e_X5_mayBegin (o0 : Nat) (x2 : Int32) (G : tH) : V_X5_mayBegin o0 x2 G = tif (x2 = (-1 : Int32)) (tbI (V_X8_blame (nI 1) G) (fun r_2 G_1 => tif (vp_nar .boolean r_2 = r_2) (some (some (vI r_2), G_1)) none))
  (tbI (V_X5_hasNoRoomFor o0 x2 G) (fun r_4 G_3 => tif (r_4 = 0) (tif ((((gI G_3 516 (o0)) >>> (x2 &&& 31)) &&& (nI 1)) = 0) (tif (x2 < (nI 4)) (tif (vp_nar .boolean (nI 1) = (nI 1)) (some (some (vI (nI 1)), G_3)) none)
  (let G_5 := sI G_3 516 (o0) ((gI G_3 516 (o0)) ||| ((nI 1) <<< (x2 &&& 31)))
  tif (vp_nar .boolean (nI 1) = (nI 1)) (some (some (vI (nI 1)), G_5)) none))
  (tbI (V_X8_blame (nI 3) G_3) (fun r_7 G_6 => tif (vp_nar .boolean r_7 = r_7) (some (some (vI r_7), G_6)) none)))
  (tbI (V_X8_blame (nI 5) G_3) (fun r_9 G_8 => tif (vp_nar .boolean r_9 = r_9) (some (some (vI r_9), G_8)) none)))) := (tgo 44 rfl sk_X5_mayBegin rfl).trans rfl
def st_X5_hasNoRoomFor : List (Nat × List Bool) := []
theorem sk_X5_hasNoRoomFor : ∀ pc bs, tstop st_X5_hasNoRoomFor pc = some bs → ∃ a, k_X5_hasNoRoomFor pc = some (aMk bs a) := tstop_ok (fun _ h => absurd h List.not_mem_nil)
set_option maxRecDepth 20000 in
theorem e_X5_hasNoRoomFor (o0 : Nat) (x1 : Int32) (G : tH) : V_X5_hasNoRoomFor o0 x1 G = tif (x1 = (nI 0)) (tbI (V_X6_isFull (4 * (o0) + 0) G) (fun r_2 G_1 => tif (vp_nar .boolean r_2 = r_2) (some (some (vI r_2), G_1)) none))
  (tif (x1 = (nI 1)) (tbI (V_X6_isFull (4 * (o0) + 1) G) (fun r_4 G_3 => tif (vp_nar .boolean r_4 = r_4) (some (some (vI r_4), G_3)) none))
  (tif (x1 = (nI 2)) (tbI (V_X6_isFull (4 * (o0) + 2) G) (fun r_6 G_5 => tif (vp_nar .boolean r_6 = r_6) (some (some (vI r_6), G_5)) none))
  (tif (x1 = (nI 3)) (tbI (V_X6_isFull (4 * (o0) + 3) G) (fun r_8 G_7 => tif (vp_nar .boolean r_8 = r_8) (some (some (vI r_8), G_7)) none))
  (tif (vp_nar .boolean (nI 0) = (nI 0)) (some (some (vI (nI 0)), G)) none)))) := (tgo 25 rfl sk_X5_hasNoRoomFor rfl).trans rfl
def st_X5_readNew : List (Nat × List Bool) := [(68, [false, true, false, false, false])]
theorem sk_X5_readNew : ∀ pc bs, tstop st_X5_readNew pc = some bs → ∃ a, k_X5_readNew pc = some (aMk bs a) := tstop_ok (List.forall_mem_cons.mpr ⟨⟨_, rfl⟩, fun _ h => absurd h List.not_mem_nil⟩)
set_option maxRecDepth 20000 in
theorem e_X5_readNew (o0 : Nat) (o2 : Nat) (G : tH) : V_X5_readNew o0 o2 G = tbI (V_X8_isName G) (fun r_2 G_1 => tif (r_2 = 0) (tbI (V_X8_blame (nI 1) G_1) (fun r_4 G_3 => some (some (vI (-1 : Int32)), G_3)))
  (tbI (V_X6_find (4 * (o0) + 0) (gL G_1 805 (0)) G_1) (fun r_6 G_5 => tif (r_6 = (-1 : Int32)) (tbI (V_X6_find (4 * (o0) + 1) (gL G_1 805 (0)) G_5) (fun r_8 G_7 => tif (r_8 = (-1 : Int32)) (tbI (V_X6_find (4 * (o0) + 2) (gL G_1 805 (0)) G_7) (fun r_10 G_9 => tif (r_10 = (-1 : Int32)) (tbI (V_X6_find (4 * (o0) + 3) (gL G_1 805 (0)) G_9) (fun r_12 G_11 => tif (r_12 = (-1 : Int32)) (tbV (V_X8_advance G_11) (fun G_13 => tbI (V_X6_enter o2 (gL G_1 805 (0)) G_13) (fun r_15 G_14 => some (some (vI r_15), G_14))))
  (V_X5_readNew_68 G_11)))
  (V_X5_readNew_68 G_9)))
  (V_X5_readNew_68 G_7)))
  (V_X5_readNew_68 G_5)))) := (tgo 53 rfl sk_X5_readNew rfl).trans rfl
set_option maxRecDepth 20000 in
theorem e_X5_readNew_68 (G : tH) : V_X5_readNew_68  G = tbI (V_X8_blame (nI 3) G) (fun r_2 G_1 => some (some (vI (-1 : Int32)), G_1)) := (tgo 53 rfl sk_X5_readNew rfl).trans rfl
def st_X5_readTown : List (Nat × List Bool) := []
theorem sk_X5_readTown : ∀ pc bs, tstop st_X5_readTown pc = some bs → ∃ a, k_X5_readTown pc = some (aMk bs a) := tstop_ok (fun _ h => absurd h List.not_mem_nil)
set_option maxRecDepth 20000 in
theorem e_X5_readTown (o0 : Nat) (G : tH) : V_X5_readTown o0 G = tbI (V_X5_readNew o0 (4 * (o0) + 0) G) (fun r_2 G_1 => tif (r_2 = (-1 : Int32)) (tif (vp_nar .boolean (nI 0) = (nI 0)) (some (some (vI (nI 0)), G_1)) none)
  (tbI (V_X8_readAmong 3 G_1) (fun r_4 G_3 => tif (tin r_2 6) (let G_5 := sA G_3 504 o0 (upd (gA G_3 504 o0) r_2.toNatClampNeg r_4)
  tif (tin r_2 6) (tif ((gA G_5 504 o0 r_2.toNatClampNeg) = (-1 : Int32)) (tif (vp_nar .boolean (nI 0) = (nI 0)) (some (some (vI (nI 0)), G_5)) none)
  (tbI (V_X8_readNumberBehind 6 (nI 0) (nI 999) G_5) (fun r_7 G_6 => tif (tin r_2 6) (let G_8 := sA G_6 505 o0 (upd (gA G_6 505 o0) r_2.toNatClampNeg r_7)
  tif (tin r_2 6) (tif ((gA G_8 505 o0 r_2.toNatClampNeg) = (-1 : Int32)) (tif (vp_nar .boolean (nI 0) = (nI 0)) (some (some (vI (nI 0)), G_8)) none)
  (tif (vp_nar .boolean (nI 1) = (nI 1)) (some (some (vI (nI 1)), G_8)) none)) none) none))) none) none))) := (tgo 50 rfl sk_X5_readTown rfl).trans rfl
def st_X5_readCompany : List (Nat × List Bool) := []
theorem sk_X5_readCompany : ∀ pc bs, tstop st_X5_readCompany pc = some bs → ∃ a, k_X5_readCompany pc = some (aMk bs a) := tstop_ok (fun _ h => absurd h List.not_mem_nil)
set_option maxRecDepth 20000 in
theorem e_X5_readCompany (o0 : Nat) (G : tH) : V_X5_readCompany o0 G = tbI (V_X5_readNew o0 (4 * (o0) + 1) G) (fun r_2 G_1 => tif (r_2 = (-1 : Int32)) (tif (vp_nar .boolean (nI 0) = (nI 0)) (some (some (vI (nI 0)), G_1)) none)
  (tbI (V_X8_readAmong 4 G_1) (fun r_4 G_3 => tif (tin r_2 5) (let G_5 := sA G_3 506 o0 (upd (gA G_3 506 o0) r_2.toNatClampNeg r_4)
  tif (tin r_2 5) (tif ((gA G_5 506 o0 r_2.toNatClampNeg) = (-1 : Int32)) (tif (vp_nar .boolean (nI 0) = (nI 0)) (some (some (vI (nI 0)), G_5)) none)
  (tbI (V_X8_readNumberBehind 7 (nI 0) (nI 9999) G_5) (fun r_7 G_6 => tif (tin r_2 5) (let G_8 := sA G_6 507 o0 (upd (gA G_6 507 o0) r_2.toNatClampNeg r_7)
  tif (tin r_2 5) (tif ((gA G_8 507 o0 r_2.toNatClampNeg) = (-1 : Int32)) (tif (vp_nar .boolean (nI 0) = (nI 0)) (some (some (vI (nI 0)), G_8)) none)
  (tif (vp_nar .boolean (nI 1) = (nI 1)) (some (some (vI (nI 1)), G_8)) none)) none) none))) none) none))) := (tgo 50 rfl sk_X5_readCompany rfl).trans rfl
def st_X5_readHarvest : List (Nat × List Bool) := []
theorem sk_X5_readHarvest : ∀ pc bs, tstop st_X5_readHarvest pc = some bs → ∃ a, k_X5_readHarvest pc = some (aMk bs a) := tstop_ok (fun _ h => absurd h List.not_mem_nil)
set_option maxRecDepth 20000 in
theorem e_X5_readHarvest (o0 : Nat) (G : tH) : V_X5_readHarvest o0 G = tbI (V_X5_readNew o0 (4 * (o0) + 2) G) (fun r_2 G_1 => tif (r_2 = (-1 : Int32)) (tif (vp_nar .boolean (nI 0) = (nI 0)) (some (some (vI (nI 0)), G_1)) none)
  (tbI (V_X8_readNumberBehind 8 (nI 0) (nI 300) G_1) (fun r_4 G_3 => tif (tin r_2 5) (let G_5 := sA G_3 508 o0 (upd (gA G_3 508 o0) r_2.toNatClampNeg r_4)
  tif (tin r_2 5) (tif ((gA G_5 508 o0 r_2.toNatClampNeg) = (-1 : Int32)) (tif (vp_nar .boolean (nI 0) = (nI 0)) (some (some (vI (nI 0)), G_5)) none)
  (tbI (V_X8_readNumberBehind 9 (nI 1) (nI 9) G_5) (fun r_7 G_6 => tif (tin r_2 5) (let G_8 := sA G_6 509 o0 (upd (gA G_6 509 o0) r_2.toNatClampNeg r_7)
  tif (tin r_2 5) (tif ((gA G_8 509 o0 r_2.toNatClampNeg) = (-1 : Int32)) (tif (vp_nar .boolean (nI 0) = (nI 0)) (some (some (vI (nI 0)), G_8)) none)
  (tif (vp_nar .boolean (nI 1) = (nI 1)) (some (some (vI (nI 1)), G_8)) none)) none) none))) none) none))) := (tgo 52 rfl sk_X5_readHarvest rfl).trans rfl
def st_X5_readJuror : List (Nat × List Bool) := []
theorem sk_X5_readJuror : ∀ pc bs, tstop st_X5_readJuror pc = some bs → ∃ a, k_X5_readJuror pc = some (aMk bs a) := tstop_ok (fun _ h => absurd h List.not_mem_nil)
set_option maxRecDepth 20000 in
theorem e_X5_readJuror (o0 : Nat) (G : tH) : V_X5_readJuror o0 G = tbI (V_X5_readNew o0 (4 * (o0) + 3) G) (fun r_2 G_1 => tif (r_2 = (-1 : Int32)) (tif (vp_nar .boolean (nI 0) = (nI 0)) (some (some (vI (nI 0)), G_1)) none)
  (tbI (V_X8_readAmong 10 G_1) (fun r_4 G_3 => tif (r_4 = (-1 : Int32)) (tif (vp_nar .boolean (nI 0) = (nI 0)) (some (some (vI (nI 0)), G_3)) none)
  (tbI (V_X8_readKnown (4 * (o0) + 1) G_3) (fun r_6 G_5 => tif (tin r_2 5) (let G_7 := sA G_5 510 o0 (upd (gA G_5 510 o0) r_2.toNatClampNeg r_6)
  tif (tin r_2 5) (tif ((gA G_7 510 o0 r_2.toNatClampNeg) = (-1 : Int32)) (tif (vp_nar .boolean (nI 0) = (nI 0)) (some (some (vI (nI 0)), G_7)) none)
  (tbI (V_X8_readNumberBehind 11 (nI 0) (nI 999) G_7) (fun r_9 G_8 => tif (tin r_2 5) (let G_10 := sA G_8 511 o0 (upd (gA G_8 511 o0) r_2.toNatClampNeg r_9)
  tif (tin r_2 5) (tif ((gA G_10 511 o0 r_2.toNatClampNeg) = (-1 : Int32)) (tif (vp_nar .boolean (nI 0) = (nI 0)) (some (some (vI (nI 0)), G_10)) none)
  (tif (vp_nar .boolean (nI 1) = (nI 1)) (some (some (vI (nI 1)), G_10)) none)) none) none))) none) none))))) := (tgo 56 rfl sk_X5_readJuror rfl).trans rfl
def st_X5_allHarvests : List (Nat × List Bool) := []
theorem sk_X5_allHarvests : ∀ pc bs, tstop st_X5_allHarvests pc = some bs → ∃ a, k_X5_allHarvests pc = some (aMk bs a) := tstop_ok (fun _ h => absurd h List.not_mem_nil)
set_option maxRecDepth 20000 in
theorem e_X5_allHarvests (o0 : Nat) (G : tH) : V_X5_allHarvests o0 G = some (some (vI (((nI 1) <<< ((gI G 601 (4 * (o0) + 2)) &&& 31)) - (nI 1))), G) := (tgo 13 rfl sk_X5_allHarvests rfl).trans rfl
def st_X5_priceOf : List (Nat × List Bool) := [(4, [true, true, true, true])]
theorem sk_X5_priceOf : ∀ pc bs, tstop st_X5_priceOf pc = some bs → ∃ a, k_X5_priceOf pc = some (aMk bs a) := tstop_ok (List.forall_mem_cons.mpr ⟨⟨_, rfl⟩, fun _ h => absurd h List.not_mem_nil⟩)
set_option maxRecDepth 20000 in
theorem e_X5_priceOf (o0 : Nat) (x1 : Int32) (G : tH) : V_X5_priceOf o0 x1 G = V_X5_priceOf_4 o0 x1 (nI 0) (nI 0) G := (tgo 31 rfl sk_X5_priceOf rfl).trans rfl
set_option maxRecDepth 20000 in
theorem e_X5_priceOf_4 (o0 : Nat) (x1 : Int32) (x2 : Int32) (x3 : Int32) (G : tH) : V_X5_priceOf_4 o0 x1 x2 x3 G = tif (x3 < (gI G 601 (4 * (o0) + 3))) (tif (((x1 >>> (x3 &&& 31)) &&& (nI 1)) = 0) (V_X5_priceOf_4 o0 x1 x2 (x3 + (nI 1)) G)
  (tif (tin x3 5) (V_X5_priceOf_4 o0 x1 (x2 + (gA G 511 o0 x3.toNatClampNeg)) (x3 + (nI 1)) G) none))
  (some (some (vI x2), G)) := (tgo 31 rfl sk_X5_priceOf rfl).trans rfl
def st_X5_meansWith : List (Nat × List Bool) := []
theorem sk_X5_meansWith : ∀ pc bs, tstop st_X5_meansWith pc = some bs → ∃ a, k_X5_meansWith pc = some (aMk bs a) := tstop_ok (fun _ h => absurd h List.not_mem_nil)
set_option maxRecDepth 20000 in
theorem e_X5_meansWith (o0 : Nat) (x1 : Int32) (x2 : Int32) (G : tH) : V_X5_meansWith o0 x1 x2 G = tif ((nI 2) = 0) none (some (some (vI (if (x1 + (x2 / (nI 2))) < (nI 9999) then (x1 + (x2 / (nI 2))) else (nI 9999))), G)) := (tgo 13 rfl sk_X5_meansWith rfl).trans rfl
def st_X5_cropOf : List (Nat × List Bool) := []
theorem sk_X5_cropOf : ∀ pc bs, tstop st_X5_cropOf pc = some bs → ∃ a, k_X5_cropOf pc = some (aMk bs a) := tstop_ok (fun _ h => absurd h List.not_mem_nil)
set_option maxRecDepth 20000 in
theorem e_X5_cropOf (o0 : Nat) (x1 : Int32) (x2 : Int32) (x3 : Int32) (G : tH) : V_X5_cropOf o0 x1 x2 x3 G = tif (tin x1 6) (tif ((gA G 504 o0 x1.toNatClampNeg) = (nI 3)) (tif (tin x3 5) (tif ((nI 100) = 0) none (some (some (vI (if (((x2 * (gA G 508 o0 x3.toNatClampNeg)) / (nI 100)) + (nI 10)) < (nI 9999) then (((x2 * (gA G 508 o0 x3.toNatClampNeg)) / (nI 100)) + (nI 10)) else (nI 9999))), G))) none)
  (tif (tin x3 5) (tif ((nI 100) = 0) none (some (some (vI (if (((x2 * (gA G 508 o0 x3.toNatClampNeg)) / (nI 100)) + (nI 0)) < (nI 9999) then (((x2 * (gA G 508 o0 x3.toNatClampNeg)) / (nI 100)) + (nI 0)) else (nI 9999))), G))) none)) none := (tgo 28 rfl sk_X5_cropOf rfl).trans rfl
def st_X5_titheOf : List (Nat × List Bool) := []
theorem sk_X5_titheOf : ∀ pc bs, tstop st_X5_titheOf pc = some bs → ∃ a, k_X5_titheOf pc = some (aMk bs a) := tstop_ok (fun _ h => absurd h List.not_mem_nil)
set_option maxRecDepth 20000 in
theorem e_X5_titheOf (o0 : Nat) (x1 : Int32) (G : tH) : V_X5_titheOf o0 x1 G = tif ((nI 100) = 0) none (some (some (vI ((x1 * (gI G 512 (o0))) / (nI 100))), G)) := (tgo 12 rfl sk_X5_titheOf rfl).trans rfl
def st_X5_meansBehind : List (Nat × List Bool) := []
theorem sk_X5_meansBehind : ∀ pc bs, tstop st_X5_meansBehind pc = some bs → ∃ a, k_X5_meansBehind pc = some (aMk bs a) := tstop_ok (fun _ h => absurd h List.not_mem_nil)
set_option maxRecDepth 20000 in
theorem e_X5_meansBehind (o0 : Nat) (x1 : Int32) (x2 : Int32) (x3 : Int32) (G : tH) : V_X5_meansBehind o0 x1 x2 x3 G = tif ((nI 2) = 0) none (tif (tin x1 6) (tif ((gA G 504 o0 x1.toNatClampNeg) = (nI 2)) (some (some (vI (if (nI 0) < (x2 - x3) then (x2 - x3) else (nI 0))), G))
  (tif (tin x1 6) (tif ((gA G 504 o0 x1.toNatClampNeg) = (nI 1)) (tif ((nI 4) = 0) none (some (some (vI (if (nI 0) < (x2 - (x3 / (nI 4))) then (x2 - (x3 / (nI 4))) else (nI 0))), G)))
  (some (some (vI (if (nI 0) < (x2 - (x3 / (nI 2))) then (x2 - (x3 / (nI 2))) else (nI 0))), G))) none)) none) := (tgo 34 rfl sk_X5_meansBehind rfl).trans rfl
