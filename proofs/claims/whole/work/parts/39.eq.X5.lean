/-! the equations: X5 -/
def st_X5_clear : List (Nat × List Bool) := []
theorem sk_X5_clear : ∀ pc bs, tstop st_X5_clear pc = some bs → ∃ a, k_X5_clear pc = some (aMk bs a) := tstop_ok (fun _ h => absurd h List.not_mem_nil)
theorem e_X5_clear (o0 : Nat) (G : tH) : V_X5_clear o0 G = let G_1 := sI G 601 (4 * (o0) + 0) ((0 : Int32))
  let G_2 := sI G_1 601 (4 * (o0) + 1) ((0 : Int32))
  let G_3 := sI G_2 601 (4 * (o0) + 2) ((0 : Int32))
  let G_4 := sI G_3 601 (4 * (o0) + 3) ((0 : Int32))
  let G_5 := sI G_4 512 (o0) ((10 : Int32))
  let G_6 := sI G_5 513 (o0) ((0 : Int32))
  tbV (V_X2_beNumber (2 * (o0) + 0) (20 : Int32) G_6) (fun G_7 => tbV (V_X2_beDebt (2 * (o0) + 1) G_7) (fun G_8 => let G_9 := sI G_8 516 (o0) ((0 : Int32))
  some (none, G_9))) := (tgo 38 rfl sk_X5_clear rfl).trans rfl
def st_X5_tellFrom : List (Nat × List Bool) := [(6, [true, true, true])]
theorem sk_X5_tellFrom : ∀ pc bs, tstop st_X5_tellFrom pc = some bs → ∃ a, k_X5_tellFrom pc = some (aMk bs a) := tstop_ok (List.forall_mem_cons.mpr ⟨⟨_, rfl⟩, fun _ h => absurd h List.not_mem_nil⟩)
theorem e_X5_tellFrom (o0 : Nat) (G : tH) : V_X5_tellFrom o0 G = tbV (V_X5_clear o0 G) (fun G_1 => V_X5_tellFrom_6 o0 (0 : Int32) G_1) := (tgo 29 rfl sk_X5_tellFrom rfl).trans rfl
theorem e_X5_tellFrom_6 (o0 : Nat) (x2 : Int32) (G : tH) : V_X5_tellFrom_6 o0 x2 G = if x2 < (1000 : Int32) then (if (gI G 804 (0)) = 0 then some (some (vI (1 : Int32)), G)
  else tbI (V_X5_readStatement o0 G) (fun r_2 G_1 => if r_2 = 0 then some (some (vI (0 : Int32)), G_1)
  else tbI (V_X8_readSign (59 : Int32) G_1) (fun r_4 G_3 => if r_4 = 0 then some (some (vI (0 : Int32)), G_3)
  else V_X5_tellFrom_6 o0 (x2 + (1 : Int32)) G_3)))
  else some (some (vI (1 : Int32)), G) := (tgo 29 rfl sk_X5_tellFrom rfl).trans rfl
def st_X5_readStatement : List (Nat × List Bool) := []
theorem sk_X5_readStatement : ∀ pc bs, tstop st_X5_readStatement pc = some bs → ∃ a, k_X5_readStatement pc = some (aMk bs a) := tstop_ok (fun _ h => absurd h List.not_mem_nil)
theorem e_X5_readStatement (o0 : Nat) (G : tH) : V_X5_readStatement o0 G = tbI (V_X8_wordAmong 1 G) (fun r_2 G_1 => tbI (V_X5_mayBegin o0 r_2 G_1) (fun r_4 G_3 => if r_4 = 0 then some (some (vI (0 : Int32)), G_3)
  else tbV (V_X8_advance G_3) (fun G_5 => if r_2 = (0 : Int32) then tbI (V_X5_readTown o0 G_5) (fun r_7 G_6 => if vp_nar .boolean r_7 = r_7 then some (some (vI r_7), G_6) else none)
  else if r_2 = (1 : Int32) then tbI (V_X5_readCompany o0 G_5) (fun r_9 G_8 => if vp_nar .boolean r_9 = r_9 then some (some (vI r_9), G_8) else none)
  else if r_2 = (2 : Int32) then tbI (V_X5_readHarvest o0 G_5) (fun r_11 G_10 => if vp_nar .boolean r_11 = r_11 then some (some (vI r_11), G_10) else none)
  else if r_2 = (3 : Int32) then tbI (V_X5_readJuror o0 G_5) (fun r_13 G_12 => if vp_nar .boolean r_13 = r_13 then some (some (vI r_13), G_12) else none)
  else if r_2 = (4 : Int32) then (tbI (V_X8_readNumber (0 : Int32) (100 : Int32) G_5) (fun r_15 G_14 => let G_16 := sI G_14 512 (o0) (r_15)
  if (gI G_16 512 (o0)) = (-1 : Int32) then some (some (vI (0 : Int32)), G_16)
  else some (some (vI (1 : Int32)), G_16)))
  else if r_2 = (5 : Int32) then (tbI (V_X8_readNumber (0 : Int32) (999 : Int32) G_5) (fun r_18 G_17 => let G_19 := sI G_17 513 (o0) (r_18)
  if (gI G_19 513 (o0)) = (-1 : Int32) then some (some (vI (0 : Int32)), G_19)
  else some (some (vI (1 : Int32)), G_19)))
  else if r_2 = (6 : Int32) then tbI (V_X2_tellFrom (2 * (o0) + 0) G_5) (fun r_21 G_20 => if vp_nar .boolean r_21 = r_21 then some (some (vI r_21), G_20) else none)
  else tbI (V_X2_tellFrom (2 * (o0) + 1) G_5) (fun r_23 G_22 => if vp_nar .boolean r_23 = r_23 then some (some (vI r_23), G_22) else none)))) := (tgo 74 rfl sk_X5_readStatement rfl).trans rfl
def st_X5_mayBegin : List (Nat × List Bool) := []
theorem sk_X5_mayBegin : ∀ pc bs, tstop st_X5_mayBegin pc = some bs → ∃ a, k_X5_mayBegin pc = some (aMk bs a) := tstop_ok (fun _ h => absurd h List.not_mem_nil)
theorem e_X5_mayBegin (o0 : Nat) (x2 : Int32) (G : tH) : V_X5_mayBegin o0 x2 G = if x2 = (-1 : Int32) then tbI (V_X8_blame (1 : Int32) G) (fun r_2 G_1 => if vp_nar .boolean r_2 = r_2 then some (some (vI r_2), G_1) else none)
  else tbI (V_X5_hasNoRoomFor o0 x2 G) (fun r_4 G_3 => if r_4 = 0 then (if (((gI G_3 516 (o0)) >>> (x2 &&& 31)) &&& (1 : Int32)) = 0 then (if x2 < (4 : Int32) then some (some (vI (1 : Int32)), G_3)
  else let G_5 := sI G_3 516 (o0) ((gI G_3 516 (o0)) ||| ((1 : Int32) <<< (x2 &&& 31)))
  some (some (vI (1 : Int32)), G_5))
  else tbI (V_X8_blame (3 : Int32) G_3) (fun r_7 G_6 => if vp_nar .boolean r_7 = r_7 then some (some (vI r_7), G_6) else none))
  else tbI (V_X8_blame (5 : Int32) G_3) (fun r_9 G_8 => if vp_nar .boolean r_9 = r_9 then some (some (vI r_9), G_8) else none)) := (tgo 44 rfl sk_X5_mayBegin rfl).trans rfl
def st_X5_hasNoRoomFor : List (Nat × List Bool) := []
theorem sk_X5_hasNoRoomFor : ∀ pc bs, tstop st_X5_hasNoRoomFor pc = some bs → ∃ a, k_X5_hasNoRoomFor pc = some (aMk bs a) := tstop_ok (fun _ h => absurd h List.not_mem_nil)
theorem e_X5_hasNoRoomFor (o0 : Nat) (x1 : Int32) (G : tH) : V_X5_hasNoRoomFor o0 x1 G = if x1 = (0 : Int32) then tbI (V_X6_isFull (4 * (o0) + 0) G) (fun r_2 G_1 => if vp_nar .boolean r_2 = r_2 then some (some (vI r_2), G_1) else none)
  else if x1 = (1 : Int32) then tbI (V_X6_isFull (4 * (o0) + 1) G) (fun r_4 G_3 => if vp_nar .boolean r_4 = r_4 then some (some (vI r_4), G_3) else none)
  else if x1 = (2 : Int32) then tbI (V_X6_isFull (4 * (o0) + 2) G) (fun r_6 G_5 => if vp_nar .boolean r_6 = r_6 then some (some (vI r_6), G_5) else none)
  else if x1 = (3 : Int32) then tbI (V_X6_isFull (4 * (o0) + 3) G) (fun r_8 G_7 => if vp_nar .boolean r_8 = r_8 then some (some (vI r_8), G_7) else none)
  else some (some (vI (0 : Int32)), G) := (tgo 25 rfl sk_X5_hasNoRoomFor rfl).trans rfl
def st_X5_readNew : List (Nat × List Bool) := [(68, [false, true, false, false, false])]
theorem sk_X5_readNew : ∀ pc bs, tstop st_X5_readNew pc = some bs → ∃ a, k_X5_readNew pc = some (aMk bs a) := tstop_ok (List.forall_mem_cons.mpr ⟨⟨_, rfl⟩, fun _ h => absurd h List.not_mem_nil⟩)
theorem e_X5_readNew (o0 : Nat) (o2 : Nat) (G : tH) : V_X5_readNew o0 o2 G = tbI (V_X8_isName G) (fun r_2 G_1 => if r_2 = 0 then tbI (V_X8_blame (1 : Int32) G_1) (fun r_4 G_3 => some (some (vI (-1 : Int32)), G_3))
  else tbI (V_X6_find (4 * (o0) + 0) (gL G_1 805 (0)) G_1) (fun r_6 G_5 => if r_6 = (-1 : Int32) then (tbI (V_X6_find (4 * (o0) + 1) (gL G_1 805 (0)) G_5) (fun r_8 G_7 => if r_8 = (-1 : Int32) then (tbI (V_X6_find (4 * (o0) + 2) (gL G_1 805 (0)) G_7) (fun r_10 G_9 => if r_10 = (-1 : Int32) then (tbI (V_X6_find (4 * (o0) + 3) (gL G_1 805 (0)) G_9) (fun r_12 G_11 => if r_12 = (-1 : Int32) then tbV (V_X8_advance G_11) (fun G_13 => tbI (V_X6_enter o2 (gL G_1 805 (0)) G_13) (fun r_15 G_14 => some (some (vI r_15), G_14)))
  else V_X5_readNew_68 G_11))
  else V_X5_readNew_68 G_9))
  else V_X5_readNew_68 G_7))
  else V_X5_readNew_68 G_5)) := (tgo 53 rfl sk_X5_readNew rfl).trans rfl
theorem e_X5_readNew_68 (G : tH) : V_X5_readNew_68  G = tbI (V_X8_blame (3 : Int32) G) (fun r_2 G_1 => some (some (vI (-1 : Int32)), G_1)) := (tgo 53 rfl sk_X5_readNew rfl).trans rfl
def st_X5_readTown : List (Nat × List Bool) := []
theorem sk_X5_readTown : ∀ pc bs, tstop st_X5_readTown pc = some bs → ∃ a, k_X5_readTown pc = some (aMk bs a) := tstop_ok (fun _ h => absurd h List.not_mem_nil)
theorem e_X5_readTown (o0 : Nat) (G : tH) : V_X5_readTown o0 G = tbI (V_X5_readNew o0 (4 * (o0) + 0) G) (fun r_2 G_1 => if r_2 = (-1 : Int32) then some (some (vI (0 : Int32)), G_1)
  else tbI (V_X8_readAmong 3 G_1) (fun r_4 G_3 => if tin r_2 6 then (let G_5 := sA G_3 504 o0 (upd (gA G_3 504 o0) r_2.toNatClampNeg r_4)
  if tin r_2 6 then (if (gA G_5 504 o0 r_2.toNatClampNeg) = (-1 : Int32) then some (some (vI (0 : Int32)), G_5)
  else tbI (V_X8_readNumberBehind 6 (0 : Int32) (999 : Int32) G_5) (fun r_7 G_6 => if tin r_2 6 then (let G_8 := sA G_6 505 o0 (upd (gA G_6 505 o0) r_2.toNatClampNeg r_7)
  if tin r_2 6 then (if (gA G_8 505 o0 r_2.toNatClampNeg) = (-1 : Int32) then some (some (vI (0 : Int32)), G_8)
  else some (some (vI (1 : Int32)), G_8)) else none) else none)) else none) else none)) := (tgo 50 rfl sk_X5_readTown rfl).trans rfl
def st_X5_readCompany : List (Nat × List Bool) := []
theorem sk_X5_readCompany : ∀ pc bs, tstop st_X5_readCompany pc = some bs → ∃ a, k_X5_readCompany pc = some (aMk bs a) := tstop_ok (fun _ h => absurd h List.not_mem_nil)
theorem e_X5_readCompany (o0 : Nat) (G : tH) : V_X5_readCompany o0 G = tbI (V_X5_readNew o0 (4 * (o0) + 1) G) (fun r_2 G_1 => if r_2 = (-1 : Int32) then some (some (vI (0 : Int32)), G_1)
  else tbI (V_X8_readAmong 4 G_1) (fun r_4 G_3 => if tin r_2 5 then (let G_5 := sA G_3 506 o0 (upd (gA G_3 506 o0) r_2.toNatClampNeg r_4)
  if tin r_2 5 then (if (gA G_5 506 o0 r_2.toNatClampNeg) = (-1 : Int32) then some (some (vI (0 : Int32)), G_5)
  else tbI (V_X8_readNumberBehind 7 (0 : Int32) (9999 : Int32) G_5) (fun r_7 G_6 => if tin r_2 5 then (let G_8 := sA G_6 507 o0 (upd (gA G_6 507 o0) r_2.toNatClampNeg r_7)
  if tin r_2 5 then (if (gA G_8 507 o0 r_2.toNatClampNeg) = (-1 : Int32) then some (some (vI (0 : Int32)), G_8)
  else some (some (vI (1 : Int32)), G_8)) else none) else none)) else none) else none)) := (tgo 50 rfl sk_X5_readCompany rfl).trans rfl
def st_X5_readHarvest : List (Nat × List Bool) := []
theorem sk_X5_readHarvest : ∀ pc bs, tstop st_X5_readHarvest pc = some bs → ∃ a, k_X5_readHarvest pc = some (aMk bs a) := tstop_ok (fun _ h => absurd h List.not_mem_nil)
theorem e_X5_readHarvest (o0 : Nat) (G : tH) : V_X5_readHarvest o0 G = tbI (V_X5_readNew o0 (4 * (o0) + 2) G) (fun r_2 G_1 => if r_2 = (-1 : Int32) then some (some (vI (0 : Int32)), G_1)
  else tbI (V_X8_readNumberBehind 8 (0 : Int32) (300 : Int32) G_1) (fun r_4 G_3 => if tin r_2 5 then (let G_5 := sA G_3 508 o0 (upd (gA G_3 508 o0) r_2.toNatClampNeg r_4)
  if tin r_2 5 then (if (gA G_5 508 o0 r_2.toNatClampNeg) = (-1 : Int32) then some (some (vI (0 : Int32)), G_5)
  else tbI (V_X8_readNumberBehind 9 (1 : Int32) (9 : Int32) G_5) (fun r_7 G_6 => if tin r_2 5 then (let G_8 := sA G_6 509 o0 (upd (gA G_6 509 o0) r_2.toNatClampNeg r_7)
  if tin r_2 5 then (if (gA G_8 509 o0 r_2.toNatClampNeg) = (-1 : Int32) then some (some (vI (0 : Int32)), G_8)
  else some (some (vI (1 : Int32)), G_8)) else none) else none)) else none) else none)) := (tgo 52 rfl sk_X5_readHarvest rfl).trans rfl
def st_X5_readJuror : List (Nat × List Bool) := []
theorem sk_X5_readJuror : ∀ pc bs, tstop st_X5_readJuror pc = some bs → ∃ a, k_X5_readJuror pc = some (aMk bs a) := tstop_ok (fun _ h => absurd h List.not_mem_nil)
theorem e_X5_readJuror (o0 : Nat) (G : tH) : V_X5_readJuror o0 G = tbI (V_X5_readNew o0 (4 * (o0) + 3) G) (fun r_2 G_1 => if r_2 = (-1 : Int32) then some (some (vI (0 : Int32)), G_1)
  else tbI (V_X8_readAmong 10 G_1) (fun r_4 G_3 => if r_4 = (-1 : Int32) then some (some (vI (0 : Int32)), G_3)
  else tbI (V_X8_readKnown (4 * (o0) + 1) G_3) (fun r_6 G_5 => if tin r_2 5 then (let G_7 := sA G_5 510 o0 (upd (gA G_5 510 o0) r_2.toNatClampNeg r_6)
  if tin r_2 5 then (if (gA G_7 510 o0 r_2.toNatClampNeg) = (-1 : Int32) then some (some (vI (0 : Int32)), G_7)
  else tbI (V_X8_readNumberBehind 11 (0 : Int32) (999 : Int32) G_7) (fun r_9 G_8 => if tin r_2 5 then (let G_10 := sA G_8 511 o0 (upd (gA G_8 511 o0) r_2.toNatClampNeg r_9)
  if tin r_2 5 then (if (gA G_10 511 o0 r_2.toNatClampNeg) = (-1 : Int32) then some (some (vI (0 : Int32)), G_10)
  else some (some (vI (1 : Int32)), G_10)) else none) else none)) else none) else none))) := (tgo 56 rfl sk_X5_readJuror rfl).trans rfl
def st_X5_allHarvests : List (Nat × List Bool) := []
theorem sk_X5_allHarvests : ∀ pc bs, tstop st_X5_allHarvests pc = some bs → ∃ a, k_X5_allHarvests pc = some (aMk bs a) := tstop_ok (fun _ h => absurd h List.not_mem_nil)
theorem e_X5_allHarvests (o0 : Nat) (G : tH) : V_X5_allHarvests o0 G = some (some (vI (((1 : Int32) <<< ((gI G 601 (4 * (o0) + 2)) &&& 31)) - (1 : Int32))), G) := (tgo 13 rfl sk_X5_allHarvests rfl).trans rfl
def st_X5_priceOf : List (Nat × List Bool) := [(4, [true, true, true, true])]
theorem sk_X5_priceOf : ∀ pc bs, tstop st_X5_priceOf pc = some bs → ∃ a, k_X5_priceOf pc = some (aMk bs a) := tstop_ok (List.forall_mem_cons.mpr ⟨⟨_, rfl⟩, fun _ h => absurd h List.not_mem_nil⟩)
theorem e_X5_priceOf (o0 : Nat) (x1 : Int32) (G : tH) : V_X5_priceOf o0 x1 G = V_X5_priceOf_4 o0 x1 (0 : Int32) (0 : Int32) G := (tgo 31 rfl sk_X5_priceOf rfl).trans rfl
theorem e_X5_priceOf_4 (o0 : Nat) (x1 : Int32) (x2 : Int32) (x3 : Int32) (G : tH) : V_X5_priceOf_4 o0 x1 x2 x3 G = if x3 < (gI G 601 (4 * (o0) + 3)) then (if ((x1 >>> (x3 &&& 31)) &&& (1 : Int32)) = 0 then V_X5_priceOf_4 o0 x1 x2 (x3 + (1 : Int32)) G
  else if tin x3 5 then V_X5_priceOf_4 o0 x1 (x2 + (gA G 511 o0 x3.toNatClampNeg)) (x3 + (1 : Int32)) G else none)
  else some (some (vI x2), G) := (tgo 31 rfl sk_X5_priceOf rfl).trans rfl
def st_X5_meansWith : List (Nat × List Bool) := []
theorem sk_X5_meansWith : ∀ pc bs, tstop st_X5_meansWith pc = some bs → ∃ a, k_X5_meansWith pc = some (aMk bs a) := tstop_ok (fun _ h => absurd h List.not_mem_nil)
theorem e_X5_meansWith (o0 : Nat) (x1 : Int32) (x2 : Int32) (G : tH) : V_X5_meansWith o0 x1 x2 G = some (some (vI (if (x1 + (x2 / (2 : Int32))) < (9999 : Int32) then (x1 + (x2 / (2 : Int32))) else (9999 : Int32))), G) := (tgo 13 rfl sk_X5_meansWith rfl).trans rfl
def st_X5_cropOf : List (Nat × List Bool) := []
theorem sk_X5_cropOf : ∀ pc bs, tstop st_X5_cropOf pc = some bs → ∃ a, k_X5_cropOf pc = some (aMk bs a) := tstop_ok (fun _ h => absurd h List.not_mem_nil)
theorem e_X5_cropOf (o0 : Nat) (x1 : Int32) (x2 : Int32) (x3 : Int32) (G : tH) : V_X5_cropOf o0 x1 x2 x3 G = if tin x1 6 then (if (gA G 504 o0 x1.toNatClampNeg) = (3 : Int32) then (if tin x3 5 then some (some (vI (if (((x2 * (gA G 508 o0 x3.toNatClampNeg)) / (100 : Int32)) + (10 : Int32)) < (9999 : Int32) then (((x2 * (gA G 508 o0 x3.toNatClampNeg)) / (100 : Int32)) + (10 : Int32)) else (9999 : Int32))), G) else none)
  else if tin x3 5 then some (some (vI (if (((x2 * (gA G 508 o0 x3.toNatClampNeg)) / (100 : Int32)) + (0 : Int32)) < (9999 : Int32) then (((x2 * (gA G 508 o0 x3.toNatClampNeg)) / (100 : Int32)) + (0 : Int32)) else (9999 : Int32))), G) else none) else none := (tgo 28 rfl sk_X5_cropOf rfl).trans rfl
def st_X5_titheOf : List (Nat × List Bool) := []
theorem sk_X5_titheOf : ∀ pc bs, tstop st_X5_titheOf pc = some bs → ∃ a, k_X5_titheOf pc = some (aMk bs a) := tstop_ok (fun _ h => absurd h List.not_mem_nil)
theorem e_X5_titheOf (o0 : Nat) (x1 : Int32) (G : tH) : V_X5_titheOf o0 x1 G = some (some (vI ((x1 * (gI G 512 (o0))) / (100 : Int32))), G) := (tgo 12 rfl sk_X5_titheOf rfl).trans rfl
def st_X5_meansBehind : List (Nat × List Bool) := []
theorem sk_X5_meansBehind : ∀ pc bs, tstop st_X5_meansBehind pc = some bs → ∃ a, k_X5_meansBehind pc = some (aMk bs a) := tstop_ok (fun _ h => absurd h List.not_mem_nil)
theorem e_X5_meansBehind (o0 : Nat) (x1 : Int32) (x2 : Int32) (x3 : Int32) (G : tH) : V_X5_meansBehind o0 x1 x2 x3 G = if tin x1 6 then (if (gA G 504 o0 x1.toNatClampNeg) = (2 : Int32) then some (some (vI (if (0 : Int32) < (x2 - x3) then (x2 - x3) else (0 : Int32))), G)
  else if tin x1 6 then (if (gA G 504 o0 x1.toNatClampNeg) = (1 : Int32) then some (some (vI (if (0 : Int32) < (x2 - (x3 / (4 : Int32))) then (x2 - (x3 / (4 : Int32))) else (0 : Int32))), G)
  else some (some (vI (if (0 : Int32) < (x2 - (x3 / (2 : Int32))) then (x2 - (x3 / (2 : Int32))) else (0 : Int32))), G)) else none) else none := (tgo 34 rfl sk_X5_meansBehind rfl).trans rfl
