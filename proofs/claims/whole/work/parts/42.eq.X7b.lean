/-! the equations: X7b -/
def st_X7_sueHolder : List (Nat × List Bool) := [(69, [true, true, false])]
theorem sk_X7_sueHolder : ∀ pc bs, tstop st_X7_sueHolder pc = some bs → ∃ a, k_X7_sueHolder pc = some (aMk bs a) := tstop_ok (List.forall_mem_cons.mpr ⟨⟨_, rfl⟩, fun _ h => absurd h List.not_mem_nil⟩)
theorem e_X7_sueHolder (o0 : Nat) (G : tH) : V_X7_sueHolder o0 G = tbI (V_X7_isHeld o0 G) (fun r_2 G_1 => if r_2 = 0 then some (some (vI (-1 : Int32)), G_1)
  else tbI (V_X7_friends o0 G_1) (fun r_4 G_3 => tbI (V_X7_isEnough o0 r_4 G_3) (fun r_6 G_5 => if r_6 = 0 then (if tin (gI G_5 710 (o0)) 5 then (let z_7 : Int32 := if ((2 : Int32) * (gI G_5 713 (o0))) < (gA G_5 706 o0 (gI G_5 710 (o0)).toNatClampNeg) then ((2 : Int32) * (gI G_5 713 (o0))) else (gA G_5 706 o0 (gI G_5 710 (o0)).toNatClampNeg)
  if tin (gI G_5 710 (o0)) 5 then (if tin (gI G_5 710 (o0)) 5 then (let G_8 := sA G_5 706 o0 (upd (gA G_5 706 o0) (gI G_5 710 (o0)).toNatClampNeg ((gA G_5 706 o0 (gI G_5 710 (o0)).toNatClampNeg) - z_7))
  let G_9 := sI G_8 714 (o0) ((gI G_8 714 (o0)) + z_7)
  let G_10 := sI G_9 710 (o0) ((-1 : Int32))
  V_X7_sueHolder_69 o0 r_6 G_10) else none) else none) else none)
  else V_X7_sueHolder_69 o0 r_6 G_5))) := (tgo 58 rfl sk_X7_sueHolder rfl).trans rfl
theorem e_X7_sueHolder_69 (o0 : Nat) (x1 : Int32) (G : tH) : V_X7_sueHolder_69 o0 x1 G = let G_1 := sI G 713 (o0) ((0 : Int32))
  let G_2 := sI G_1 709 (o0) ((0 : Int32))
  if x1 = 0 then some (some (vI (0 : Int32)), G_2)
  else some (some (vI (1 : Int32)), G_2) := (tgo 58 rfl sk_X7_sueHolder rfl).trans rfl
def st_X7_closeLease : List (Nat × List Bool) := []
theorem sk_X7_closeLease : ∀ pc bs, tstop st_X7_closeLease pc = some bs → ∃ a, k_X7_closeLease pc = some (aMk bs a) := tstop_ok (fun _ h => absurd h List.not_mem_nil)
theorem e_X7_closeLease (o0 : Nat) (G : tH) : V_X7_closeLease o0 G = tbI (V_X7_isHeld o0 G) (fun r_2 G_1 => if r_2 = 0 then some (some (vI (0 : Int32)), G_1)
  else if (gI G_1 711 (o0)) < (5 : Int32) then some (some (vI (0 : Int32)), G_1)
  else let G_3 := sI G_1 710 (o0) ((-1 : Int32))
  some (some (vI (1 : Int32)), G_3)) := (tgo 19 rfl sk_X7_closeLease rfl).trans rfl
def st_X7_cheapestJurors : List (Nat × List Bool) := [(9, [true, true, true, true])]
theorem sk_X7_cheapestJurors : ∀ pc bs, tstop st_X7_cheapestJurors pc = some bs → ∃ a, k_X7_cheapestJurors pc = some (aMk bs a) := tstop_ok (List.forall_mem_cons.mpr ⟨⟨_, rfl⟩, fun _ h => absurd h List.not_mem_nil⟩)
theorem e_X7_cheapestJurors (o0 : Nat) (G : tH) : V_X7_cheapestJurors o0 G = tbI (V_X7_friends o0 G) (fun r_2 G_1 => V_X7_cheapestJurors_9 o0 r_2 (-1 : Int32) (0 : Int32) G_1) := (tgo 48 rfl sk_X7_cheapestJurors rfl).trans rfl
theorem e_X7_cheapestJurors_9 (o0 : Nat) (x1 : Int32) (x2 : Int32) (x3 : Int32) (G : tH) : V_X7_cheapestJurors_9 o0 x1 x2 x3 G = if x3 < ((1 : Int32) <<< ((gI G 601 (4 * (gR G 700 (o0)) + 3)) &&& 31)) then (if (x3 &&& x1) = 0 then (tbI (V_X7_isEnough o0 (x3 ||| x1) G) (fun r_2 G_1 => if r_2 = 0 then V_X7_cheapestJurors_9 o0 x1 x2 (x3 + (1 : Int32)) G_1
  else if x2 = (-1 : Int32) then V_X7_cheapestJurors_9 o0 x1 x3 (x3 + (1 : Int32)) G_1
  else tbI (V_X5_priceOf (gR G_1 700 (o0)) x3 G_1) (fun r_4 G_3 => tbI (V_X5_priceOf (gR G_3 700 (o0)) x2 G_3) (fun r_6 G_5 => if r_4 < r_6 then V_X7_cheapestJurors_9 o0 x1 x3 (x3 + (1 : Int32)) G_5
  else V_X7_cheapestJurors_9 o0 x1 x2 (x3 + (1 : Int32)) G_5))))
  else V_X7_cheapestJurors_9 o0 x1 x2 (x3 + (1 : Int32)) G)
  else some (some (vI x2), G) := (tgo 48 rfl sk_X7_cheapestJurors rfl).trans rfl
def st_X7_savedBy : List (Nat × List Bool) := [(20, [true, true, true, true, false, false]), (41, [true, true, true, true, true, true])]
theorem sk_X7_savedBy : ∀ pc bs, tstop st_X7_savedBy pc = some bs → ∃ a, k_X7_savedBy pc = some (aMk bs a) := tstop_ok (List.forall_mem_cons.mpr ⟨⟨_, rfl⟩, List.forall_mem_cons.mpr ⟨⟨_, rfl⟩, fun _ h => absurd h List.not_mem_nil⟩⟩)
theorem e_X7_savedBy (o0 : Nat) (x1 : Int32) (x2 : Int32) (G : tH) : V_X7_savedBy o0 x1 x2 G = tbI (V_X7_topBidder o0 G) (fun r_2 G_1 => if r_2 = (-1 : Int32) then some (some (vI (0 : Int32)), G_1)
  else if r_2 = x1 then V_X7_savedBy_20 o0 x1 x2 r_2 G_1
  else if r_2 = x2 then V_X7_savedBy_20 o0 x1 x2 r_2 G_1
  else some (some (vI (0 : Int32)), G_1)) := (tgo 62 rfl sk_X7_savedBy rfl).trans rfl
theorem e_X7_savedBy_20 (o0 : Nat) (x1 : Int32) (x2 : Int32) (x3 : Int32) (G : tH) : V_X7_savedBy_20 o0 x1 x2 x3 G = if tin x3 5 then (if (gA G 506 (gR G 700 (o0)) x3.toNatClampNeg) = (1 : Int32) then some (some (vI (0 : Int32)), G)
  else V_X7_savedBy_41 o0 x1 x2 x3 (0 : Int32) (0 : Int32) G) else none := (tgo 62 rfl sk_X7_savedBy rfl).trans rfl
theorem e_X7_savedBy_41 (o0 : Nat) (x1 : Int32) (x2 : Int32) (x3 : Int32) (x4 : Int32) (x5 : Int32) (G : tH) : V_X7_savedBy_41 o0 x1 x2 x3 x4 x5 G = if x5 < (gI G 601 (4 * (gR G 700 (o0)) + 1)) then (if x5 = x1 then V_X7_savedBy_41 o0 x1 x2 x3 x4 (x5 + (1 : Int32)) G
  else if x5 = x2 then V_X7_savedBy_41 o0 x1 x2 x3 x4 (x5 + (1 : Int32)) G
  else if tin x5 5 then (let z_1 : Int32 := if x4 < (gA G 707 o0 x5.toNatClampNeg) then (gA G 707 o0 x5.toNatClampNeg) else x4
  V_X7_savedBy_41 o0 x1 x2 x3 z_1 (x5 + (1 : Int32)) G) else none)
  else if tin x3 5 then some (some (vI (if (0 : Int32) < (((gA G 707 o0 x3.toNatClampNeg) - x4) - (1 : Int32)) then (((gA G 707 o0 x3.toNatClampNeg) - x4) - (1 : Int32)) else (0 : Int32))), G) else none := (tgo 62 rfl sk_X7_savedBy rfl).trans rfl
