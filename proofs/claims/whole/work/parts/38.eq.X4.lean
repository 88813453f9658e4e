/-! the equations: X4 -/
def st_X4_tellFrom : List (Nat × List Bool) := [(7, [true, true, true, true])]
theorem sk_X4_tellFrom : ∀ pc bs, tstop st_X4_tellFrom pc = some bs → ∃ a, k_X4_tellFrom pc = some (aMk bs a) := tstop_ok (List.forall_mem_cons.mpr ⟨⟨_, rfl⟩, fun _ h => absurd h List.not_mem_nil⟩)
theorem e_X4_tellFrom (o0 : Nat) (o2 : Nat) (G : tH) : V_X4_tellFrom o0 o2 G = let G_1 := sI G 400 (o0) ((0 : Int32))
  V_X4_tellFrom_7 o0 o2 (0 : Int32) G_1 := (tgo 27 rfl sk_X4_tellFrom rfl).trans rfl
theorem e_X4_tellFrom_7 (o0 : Nat) (o2 : Nat) (x3 : Int32) (G : tH) : V_X4_tellFrom_7 o0 o2 x3 G = if x3 < (1000 : Int32) then (if (gI G 804 (0)) = 0 then some (some (vI (1 : Int32)), G)
  else tbI (V_X4_readLine o0 o2 G) (fun r_2 G_1 => if r_2 = 0 then some (some (vI (0 : Int32)), G_1)
  else V_X4_tellFrom_7 o0 o2 (x3 + (1 : Int32)) G_1))
  else some (some (vI (1 : Int32)), G) := (tgo 27 rfl sk_X4_tellFrom rfl).trans rfl
def st_X4_readLine : List (Nat × List Bool) := []
theorem sk_X4_readLine : ∀ pc bs, tstop st_X4_readLine pc = some bs → ∃ a, k_X4_readLine pc = some (aMk bs a) := tstop_ok (fun _ h => absurd h List.not_mem_nil)
theorem e_X4_readLine (o0 : Nat) (o2 : Nat) (G : tH) : V_X4_readLine o0 o2 G = tbI (V_X8_wordAmong 2 G) (fun r_2 G_1 => if r_2 = (-1 : Int32) then tbI (V_X8_blame (1 : Int32) G_1) (fun r_4 G_3 => if vp_nar .boolean r_4 = r_4 then some (some (vI r_4), G_3) else none)
  else if (gI G_1 400 (o0)) < (40 : Int32) then (tbV (V_X8_advance G_1) (fun G_5 => if tin (gI G_5 400 (o0)) 40 then (let G_6 := sA G_5 401 o0 (upd (gA G_5 401 o0) (gI G_5 400 (o0)).toNatClampNeg r_2)
  tbI (V_X4_readWhom o0 o2 r_2 G_6) (fun r_8 G_7 => if r_8 = 0 then some (some (vI (0 : Int32)), G_7)
  else tbI (V_X4_readAmount o0 r_2 G_7) (fun r_10 G_9 => if r_10 = 0 then some (some (vI (0 : Int32)), G_9)
  else tbI (V_X8_readSign (59 : Int32) G_9) (fun r_12 G_11 => if r_12 = 0 then some (some (vI (0 : Int32)), G_11)
  else let G_13 := sI G_11 400 (o0) ((gI G_11 400 (o0)) + (1 : Int32))
  some (some (vI (1 : Int32)), G_13))))) else none))
  else tbI (V_X8_blame (5 : Int32) G_1) (fun r_15 G_14 => if vp_nar .boolean r_15 = r_15 then some (some (vI r_15), G_14) else none)) := (tgo 57 rfl sk_X4_readLine rfl).trans rfl
def st_X4_readWhom : List (Nat × List Bool) := [(138, [true, false, false, false])]
theorem sk_X4_readWhom : ∀ pc bs, tstop st_X4_readWhom pc = some bs → ∃ a, k_X4_readWhom pc = some (aMk bs a) := tstop_ok (List.forall_mem_cons.mpr ⟨⟨_, rfl⟩, fun _ h => absurd h List.not_mem_nil⟩)
theorem e_X4_readWhom (o0 : Nat) (o2 : Nat) (x3 : Int32) (G : tH) : V_X4_readWhom o0 o2 x3 G = if x3 = (0 : Int32) then (tbI (V_X8_readKnown (4 * (o2) + 1) G) (fun r_2 G_1 => if tin (gI G 400 (o0)) 40 then (let G_3 := sA G_1 402 o0 (upd (gA G_1 402 o0) (gI G 400 (o0)).toNatClampNeg r_2)
  V_X4_readWhom_138 o0 G_3) else none))
  else if x3 = (1 : Int32) then (if tin (gI G 400 (o0)) 40 then (let G_4 := sA G 402 o0 (upd (gA G 402 o0) (gI G 400 (o0)).toNatClampNeg (0 : Int32))
  V_X4_readWhom_138 o0 G_4) else none)
  else if x3 = (2 : Int32) then (tbI (V_X8_readKnown (4 * (o2) + 2) G) (fun r_6 G_5 => if tin (gI G 400 (o0)) 40 then (let G_7 := sA G_5 402 o0 (upd (gA G_5 402 o0) (gI G 400 (o0)).toNatClampNeg r_6)
  V_X4_readWhom_138 o0 G_7) else none))
  else if x3 = (3 : Int32) then (tbI (V_X8_readKnown (4 * (o2) + 0) G) (fun r_9 G_8 => if tin (gI G 400 (o0)) 40 then (let G_10 := sA G_8 402 o0 (upd (gA G_8 402 o0) (gI G 400 (o0)).toNatClampNeg r_9)
  V_X4_readWhom_138 o0 G_10) else none))
  else if x3 = (4 : Int32) then (tbI (V_X8_readKnown (4 * (o2) + 0) G) (fun r_12 G_11 => if tin (gI G 400 (o0)) 40 then (let G_13 := sA G_11 402 o0 (upd (gA G_11 402 o0) (gI G 400 (o0)).toNatClampNeg r_12)
  V_X4_readWhom_138 o0 G_13) else none))
  else if x3 = (5 : Int32) then (tbI (V_X8_readKnown (4 * (o2) + 0) G) (fun r_15 G_14 => if tin (gI G 400 (o0)) 40 then (let G_16 := sA G_14 402 o0 (upd (gA G_14 402 o0) (gI G 400 (o0)).toNatClampNeg r_15)
  V_X4_readWhom_138 o0 G_16) else none))
  else if x3 = (6 : Int32) then (tbI (V_X8_readKnown (4 * (o2) + 0) G) (fun r_18 G_17 => if tin (gI G 400 (o0)) 40 then (let G_19 := sA G_17 402 o0 (upd (gA G_17 402 o0) (gI G 400 (o0)).toNatClampNeg r_18)
  V_X4_readWhom_138 o0 G_19) else none))
  else if x3 = (7 : Int32) then (tbI (V_X8_readKnown (4 * (o2) + 3) G) (fun r_21 G_20 => if tin (gI G 400 (o0)) 40 then (let G_22 := sA G_20 402 o0 (upd (gA G_20 402 o0) (gI G 400 (o0)).toNatClampNeg r_21)
  V_X4_readWhom_138 o0 G_22) else none))
  else if tin (gI G 400 (o0)) 40 then (let G_23 := sA G 402 o0 (upd (gA G 402 o0) (gI G 400 (o0)).toNatClampNeg (0 : Int32))
  V_X4_readWhom_138 o0 G_23) else none := (tgo 64 rfl sk_X4_readWhom rfl).trans rfl
theorem e_X4_readWhom_138 (o0 : Nat) (G : tH) : V_X4_readWhom_138 o0 G = if tin (gI G 400 (o0)) 40 then (if (gA G 402 o0 (gI G 400 (o0)).toNatClampNeg) = (-1 : Int32) then some (some (vI (0 : Int32)), G)
  else some (some (vI (1 : Int32)), G)) else none := (tgo 64 rfl sk_X4_readWhom rfl).trans rfl
def st_X4_readAmount : List (Nat × List Bool) := [(90, [true, false, false])]
theorem sk_X4_readAmount : ∀ pc bs, tstop st_X4_readAmount pc = some bs → ∃ a, k_X4_readAmount pc = some (aMk bs a) := tstop_ok (List.forall_mem_cons.mpr ⟨⟨_, rfl⟩, fun _ h => absurd h List.not_mem_nil⟩)
theorem e_X4_readAmount (o0 : Nat) (x2 : Int32) (G : tH) : V_X4_readAmount o0 x2 G = if x2 = (0 : Int32) then (tbI (V_X8_readNumber (0 : Int32) (9999 : Int32) G) (fun r_2 G_1 => if tin (gI G 400 (o0)) 40 then (let G_3 := sA G_1 403 o0 (upd (gA G_1 403 o0) (gI G 400 (o0)).toNatClampNeg r_2)
  V_X4_readAmount_90 o0 G_3) else none))
  else if x2 = (1 : Int32) then (if tin (gI G 400 (o0)) 40 then (let G_4 := sA G 403 o0 (upd (gA G 403 o0) (gI G 400 (o0)).toNatClampNeg (0 : Int32))
  V_X4_readAmount_90 o0 G_4) else none)
  else if x2 = (2 : Int32) then (if tin (gI G 400 (o0)) 40 then (let G_5 := sA G 403 o0 (upd (gA G 403 o0) (gI G 400 (o0)).toNatClampNeg (0 : Int32))
  V_X4_readAmount_90 o0 G_5) else none)
  else if x2 = (3 : Int32) then (tbI (V_X8_readNumber (1 : Int32) (9999 : Int32) G) (fun r_7 G_6 => if tin (gI G 400 (o0)) 40 then (let G_8 := sA G_6 403 o0 (upd (gA G_6 403 o0) (gI G 400 (o0)).toNatClampNeg r_7)
  V_X4_readAmount_90 o0 G_8) else none))
  else if x2 = (4 : Int32) then (tbI (V_X8_readNumber (1 : Int32) (9999 : Int32) G) (fun r_10 G_9 => if tin (gI G 400 (o0)) 40 then (let G_11 := sA G_9 403 o0 (upd (gA G_9 403 o0) (gI G 400 (o0)).toNatClampNeg r_10)
  V_X4_readAmount_90 o0 G_11) else none))
  else if x2 = (5 : Int32) then (tbI (V_X8_readNumber (1 : Int32) (9999 : Int32) G) (fun r_13 G_12 => if tin (gI G 400 (o0)) 40 then (let G_14 := sA G_12 403 o0 (upd (gA G_12 403 o0) (gI G 400 (o0)).toNatClampNeg r_13)
  V_X4_readAmount_90 o0 G_14) else none))
  else if tin (gI G 400 (o0)) 40 then (let G_15 := sA G 403 o0 (upd (gA G 403 o0) (gI G 400 (o0)).toNatClampNeg (0 : Int32))
  V_X4_readAmount_90 o0 G_15) else none := (tgo 44 rfl sk_X4_readAmount rfl).trans rfl
theorem e_X4_readAmount_90 (o0 : Nat) (G : tH) : V_X4_readAmount_90 o0 G = if tin (gI G 400 (o0)) 40 then (if (gA G 403 o0 (gI G 400 (o0)).toNatClampNeg) = (-1 : Int32) then some (some (vI (0 : Int32)), G)
  else some (some (vI (1 : Int32)), G)) else none := (tgo 44 rfl sk_X4_readAmount rfl).trans rfl
def st_X4_playAll : List (Nat × List Bool) := [(4, [true, true, true, true])]
theorem sk_X4_playAll : ∀ pc bs, tstop st_X4_playAll pc = some bs → ∃ a, k_X4_playAll pc = some (aMk bs a) := tstop_ok (List.forall_mem_cons.mpr ⟨⟨_, rfl⟩, fun _ h => absurd h List.not_mem_nil⟩)
theorem e_X4_playAll (o0 : Nat) (o1 : Nat) (G : tH) : V_X4_playAll o0 o1 G = V_X4_playAll_4 o0 o1 (-1 : Int32) (0 : Int32) G := (tgo 37 rfl sk_X4_playAll rfl).trans rfl
theorem e_X4_playAll_4 (o0 : Nat) (o1 : Nat) (x2 : Int32) (x3 : Int32) (G : tH) : V_X4_playAll_4 o0 o1 x2 x3 G = if x3 < (gI G 400 (o0)) then (if tin x3 40 then (if tin x3 40 then (if tin x3 40 then (tbI (V_X4_play o1 (gA G 401 o0 x3.toNatClampNeg) (gA G 402 o0 x3.toNatClampNeg) (gA G 403 o0 x3.toNatClampNeg) G) (fun r_2 G_1 => if r_2 = 0 then (if x2 = (-1 : Int32) then V_X4_playAll_4 o0 o1 x3 (x3 + (1 : Int32)) G_1
  else V_X4_playAll_4 o0 o1 x2 (x3 + (1 : Int32)) G_1)
  else V_X4_playAll_4 o0 o1 x2 (x3 + (1 : Int32)) G_1)) else none) else none) else none)
  else some (some (vI x2), G) := (tgo 37 rfl sk_X4_playAll rfl).trans rfl
def st_X4_play : List (Nat × List Bool) := []
theorem sk_X4_play : ∀ pc bs, tstop st_X4_play pc = some bs → ∃ a, k_X4_play pc = some (aMk bs a) := tstop_ok (fun _ h => absurd h List.not_mem_nil)
theorem e_X4_play (o0 : Nat) (x1 : Int32) (x2 : Int32) (x3 : Int32) (G : tH) : V_X4_play o0 x1 x2 x3 G = if x1 = (0 : Int32) then tbI (V_X7_placeBid o0 x2 x3 G) (fun r_2 G_1 => if vp_nar .boolean r_2 = r_2 then some (some (vI r_2), G_1) else none)
  else if x1 = (1 : Int32) then (tbI (V_X7_awardTop o0 G) (fun r_4 G_3 => if r_4 = (-2 : Int32) then some (some (vI (0 : Int32)), G_3)
  else some (some (vI (1 : Int32)), G_3)))
  else if x1 = (2 : Int32) then (tbI (V_X7_bringYear o0 x2 G) (fun r_6 G_5 => if r_6 = (-1 : Int32) then some (some (vI (0 : Int32)), G_5)
  else some (some (vI (1 : Int32)), G_5)))
  else if x1 = (3 : Int32) then (tbI (V_X7_takeFrom o0 x2 x3 G) (fun r_8 G_7 => if r_8 = (-1 : Int32) then some (some (vI (0 : Int32)), G_7)
  else some (some (vI (1 : Int32)), G_7)))
  else if x1 = (4 : Int32) then (tbI (V_X7_lendTo o0 x2 x3 G) (fun r_10 G_9 => if r_10 = (-1 : Int32) then some (some (vI (0 : Int32)), G_9)
  else some (some (vI (1 : Int32)), G_9)))
  else if x1 = (5 : Int32) then (tbI (V_X7_callIn o0 x2 x3 G) (fun r_12 G_11 => if r_12 = (-1 : Int32) then some (some (vI (0 : Int32)), G_11)
  else some (some (vI (1 : Int32)), G_11)))
  else if x1 = (6 : Int32) then (tbI (V_X7_spareTown o0 x2 G) (fun r_14 G_13 => if r_14 = (-1 : Int32) then some (some (vI (0 : Int32)), G_13)
  else some (some (vI (1 : Int32)), G_13)))
  else if x1 = (7 : Int32) then tbI (V_X7_bribeJuror o0 x2 G) (fun r_16 G_15 => if vp_nar .boolean r_16 = r_16 then some (some (vI r_16), G_15) else none)
  else if x1 = (8 : Int32) then (tbI (V_X7_sueHolder o0 G) (fun r_18 G_17 => if r_18 = (-1 : Int32) then some (some (vI (0 : Int32)), G_17)
  else some (some (vI (1 : Int32)), G_17)))
  else tbI (V_X7_closeLease o0 G) (fun r_20 G_19 => if vp_nar .boolean r_20 = r_20 then some (some (vI r_20), G_19) else none) := (tgo 83 rfl sk_X4_play rfl).trans rfl
