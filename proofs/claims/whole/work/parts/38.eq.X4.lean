/-! the equations: X4 -/
def st_X4_tellFrom : List (Nat × List Bool) := [(7, [true, true, true, true])]
theorem sk_X4_tellFrom : ∀ pc bs, tstop st_X4_tellFrom pc = some bs → ∃ a, k_X4_tellFrom pc = some (aMk bs a) := tstop_ok (List.forall_mem_cons.mpr ⟨⟨_, rfl⟩, fun _ h => absurd h List.not_mem_nil⟩)
set_option maxRecDepth 20000 in
theorem e_X4_tellFrom (o0 : Nat) (o2 : Nat) (G : tH) : V_X4_tellFrom o0 o2 G = let G_1 := sI G 400 (o0) ((nI 0))
  V_X4_tellFrom_7 o0 o2 (nI 0) G_1 := (tgo 27 rfl sk_X4_tellFrom rfl).trans rfl
set_option maxRecDepth 20000 in
theorem e_X4_tellFrom_7 (o0 : Nat) (o2 : Nat) (x3 : Int32) (G : tH) : V_X4_tellFrom_7 o0 o2 x3 G = tif (x3 < (nI 1000)) (tif ((gI G 804 (0)) = 0) (tif (vp_nar .boolean (nI 1) = (nI 1)) (some (some (vI (nI 1)), G)) none)
  (tbI (V_X4_readLine o0 o2 G) (fun r_2 G_1 => tif (r_2 = 0) (tif (vp_nar .boolean (nI 0) = (nI 0)) (some (some (vI (nI 0)), G_1)) none)
  (V_X4_tellFrom_7 o0 o2 (x3 + (nI 1)) G_1))))
  (tif (vp_nar .boolean (nI 1) = (nI 1)) (some (some (vI (nI 1)), G)) none) := (tgo 27 rfl sk_X4_tellFrom rfl).trans rfl
def st_X4_readLine : List (Nat × List Bool) := []
theorem sk_X4_readLine : ∀ pc bs, tstop st_X4_readLine pc = some bs → ∃ a, k_X4_readLine pc = some (aMk bs a) := tstop_ok (fun _ h => absurd h List.not_mem_nil)
set_option maxRecDepth 20000 in
theorem e_X4_readLine (o0 : Nat) (o2 : Nat) (G : tH) : V_X4_readLine o0 o2 G = tbI (V_X8_wordAmong 2 G) (fun r_2 G_1 => tif (r_2 = (-1 : Int32)) (tbI (V_X8_blame (nI 1) G_1) (fun r_4 G_3 => tif (vp_nar .boolean r_4 = r_4) (some (some (vI r_4), G_3)) none))
  (tif ((gI G_1 400 (o0)) < (nI 40)) (tbV (V_X8_advance G_1) (fun G_5 => tif (tin (gI G_5 400 (o0)) 40) (let G_6 := sA G_5 401 o0 (upd (gA G_5 401 o0) (gI G_5 400 (o0)).toNatClampNeg r_2)
  tbI (V_X4_readWhom o0 o2 r_2 G_6) (fun r_8 G_7 => tif (r_8 = 0) (tif (vp_nar .boolean (nI 0) = (nI 0)) (some (some (vI (nI 0)), G_7)) none)
  (tbI (V_X4_readAmount o0 r_2 G_7) (fun r_10 G_9 => tif (r_10 = 0) (tif (vp_nar .boolean (nI 0) = (nI 0)) (some (some (vI (nI 0)), G_9)) none)
  (tbI (V_X8_readSign (nI 59) G_9) (fun r_12 G_11 => tif (r_12 = 0) (tif (vp_nar .boolean (nI 0) = (nI 0)) (some (some (vI (nI 0)), G_11)) none)
  (let G_13 := sI G_11 400 (o0) ((gI G_11 400 (o0)) + (nI 1))
  tif (vp_nar .boolean (nI 1) = (nI 1)) (some (some (vI (nI 1)), G_13)) none))))))) none))
  (tbI (V_X8_blame (nI 5) G_1) (fun r_15 G_14 => tif (vp_nar .boolean r_15 = r_15) (some (some (vI r_15), G_14)) none)))) := (tgo 57 rfl sk_X4_readLine rfl).trans rfl
def st_X4_readWhom : List (Nat × List Bool) := [(138, [true, false, false, false])]
theorem sk_X4_readWhom : ∀ pc bs, tstop st_X4_readWhom pc = some bs → ∃ a, k_X4_readWhom pc = some (aMk bs a) := tstop_ok (List.forall_mem_cons.mpr ⟨⟨_, rfl⟩, fun _ h => absurd h List.not_mem_nil⟩)
set_option maxRecDepth 20000 in
theorem e_X4_readWhom (o0 : Nat) (o2 : Nat) (x3 : Int32) (G : tH) : V_X4_readWhom o0 o2 x3 G = tif (x3 = (nI 0)) (tbI (V_X8_readKnown (4 * (o2) + 1) G) (fun r_2 G_1 => tif (tin (gI G 400 (o0)) 40) (let G_3 := sA G_1 402 o0 (upd (gA G_1 402 o0) (gI G 400 (o0)).toNatClampNeg r_2)
  V_X4_readWhom_138 o0 G_3) none))
  (tif (x3 = (nI 1)) (tif (tin (gI G 400 (o0)) 40) (let G_4 := sA G 402 o0 (upd (gA G 402 o0) (gI G 400 (o0)).toNatClampNeg (nI 0))
  V_X4_readWhom_138 o0 G_4) none)
  (tif (x3 = (nI 2)) (tbI (V_X8_readKnown (4 * (o2) + 2) G) (fun r_6 G_5 => tif (tin (gI G 400 (o0)) 40) (let G_7 := sA G_5 402 o0 (upd (gA G_5 402 o0) (gI G 400 (o0)).toNatClampNeg r_6)
  V_X4_readWhom_138 o0 G_7) none))
  (tif (x3 = (nI 3)) (tbI (V_X8_readKnown (4 * (o2) + 0) G) (fun r_9 G_8 => tif (tin (gI G 400 (o0)) 40) (let G_10 := sA G_8 402 o0 (upd (gA G_8 402 o0) (gI G 400 (o0)).toNatClampNeg r_9)
  V_X4_readWhom_138 o0 G_10) none))
  (tif (x3 = (nI 4)) (tbI (V_X8_readKnown (4 * (o2) + 0) G) (fun r_12 G_11 => tif (tin (gI G 400 (o0)) 40) (let G_13 := sA G_11 402 o0 (upd (gA G_11 402 o0) (gI G 400 (o0)).toNatClampNeg r_12)
  V_X4_readWhom_138 o0 G_13) none))
  (tif (x3 = (nI 5)) (tbI (V_X8_readKnown (4 * (o2) + 0) G) (fun r_15 G_14 => tif (tin (gI G 400 (o0)) 40) (let G_16 := sA G_14 402 o0 (upd (gA G_14 402 o0) (gI G 400 (o0)).toNatClampNeg r_15)
  V_X4_readWhom_138 o0 G_16) none))
  (tif (x3 = (nI 6)) (tbI (V_X8_readKnown (4 * (o2) + 0) G) (fun r_18 G_17 => tif (tin (gI G 400 (o0)) 40) (let G_19 := sA G_17 402 o0 (upd (gA G_17 402 o0) (gI G 400 (o0)).toNatClampNeg r_18)
  V_X4_readWhom_138 o0 G_19) none))
  (tif (x3 = (nI 7)) (tbI (V_X8_readKnown (4 * (o2) + 3) G) (fun r_21 G_20 => tif (tin (gI G 400 (o0)) 40) (let G_22 := sA G_20 402 o0 (upd (gA G_20 402 o0) (gI G 400 (o0)).toNatClampNeg r_21)
  V_X4_readWhom_138 o0 G_22) none))
  (tif (tin (gI G 400 (o0)) 40) (let G_23 := sA G 402 o0 (upd (gA G 402 o0) (gI G 400 (o0)).toNatClampNeg (nI 0))
  V_X4_readWhom_138 o0 G_23) none)))))))) := (tgo 64 rfl sk_X4_readWhom rfl).trans rfl
set_option maxRecDepth 20000 in
theorem e_X4_readWhom_138 (o0 : Nat) (G : tH) : V_X4_readWhom_138 o0 G = tif (tin (gI G 400 (o0)) 40) (tif ((gA G 402 o0 (gI G 400 (o0)).toNatClampNeg) = (-1 : Int32)) (tif (vp_nar .boolean (nI 0) = (nI 0)) (some (some (vI (nI 0)), G)) none)
  (tif (vp_nar .boolean (nI 1) = (nI 1)) (some (some (vI (nI 1)), G)) none)) none := (tgo 64 rfl sk_X4_readWhom rfl).trans rfl
def st_X4_readAmount : List (Nat × List Bool) := [(90, [true, false, false])]
theorem sk_X4_readAmount : ∀ pc bs, tstop st_X4_readAmount pc = some bs → ∃ a, k_X4_readAmount pc = some (aMk bs a) := tstop_ok (List.forall_mem_cons.mpr ⟨⟨_, rfl⟩, fun _ h => absurd h List.not_mem_nil⟩)
set_option maxRecDepth 20000 in
theorem e_X4_readAmount (o0 : Nat) (x2 : Int32) (G : tH) : V_X4_readAmount o0 x2 G = tif (x2 = (nI 0)) (tbI (V_X8_readNumber (nI 0) (nI 9999) G) (fun r_2 G_1 => tif (tin (gI G 400 (o0)) 40) (let G_3 := sA G_1 403 o0 (upd (gA G_1 403 o0) (gI G 400 (o0)).toNatClampNeg r_2)
  V_X4_readAmount_90 o0 G_3) none))
  (tif (x2 = (nI 1)) (tif (tin (gI G 400 (o0)) 40) (let G_4 := sA G 403 o0 (upd (gA G 403 o0) (gI G 400 (o0)).toNatClampNeg (nI 0))
  V_X4_readAmount_90 o0 G_4) none)
  (tif (x2 = (nI 2)) (tif (tin (gI G 400 (o0)) 40) (let G_5 := sA G 403 o0 (upd (gA G 403 o0) (gI G 400 (o0)).toNatClampNeg (nI 0))
  V_X4_readAmount_90 o0 G_5) none)
  (tif (x2 = (nI 3)) (tbI (V_X8_readNumber (nI 1) (nI 9999) G) (fun r_7 G_6 => tif (tin (gI G 400 (o0)) 40) (let G_8 := sA G_6 403 o0 (upd (gA G_6 403 o0) (gI G 400 (o0)).toNatClampNeg r_7)
  V_X4_readAmount_90 o0 G_8) none))
  (tif (x2 = (nI 4)) (tbI (V_X8_readNumber (nI 1) (nI 9999) G) (fun r_10 G_9 => tif (tin (gI G 400 (o0)) 40) (let G_11 := sA G_9 403 o0 (upd (gA G_9 403 o0) (gI G 400 (o0)).toNatClampNeg r_10)
  V_X4_readAmount_90 o0 G_11) none))
  (tif (x2 = (nI 5)) (tbI (V_X8_readNumber (nI 1) (nI 9999) G) (fun r_13 G_12 => tif (tin (gI G 400 (o0)) 40) (let G_14 := sA G_12 403 o0 (upd (gA G_12 403 o0) (gI G 400 (o0)).toNatClampNeg r_13)
  V_X4_readAmount_90 o0 G_14) none))
  (tif (tin (gI G 400 (o0)) 40) (let G_15 := sA G 403 o0 (upd (gA G 403 o0) (gI G 400 (o0)).toNatClampNeg (nI 0))
  V_X4_readAmount_90 o0 G_15) none)))))) := (tgo 44 rfl sk_X4_readAmount rfl).trans rfl
set_option maxRecDepth 20000 in
theorem e_X4_readAmount_90 (o0 : Nat) (G : tH) : V_X4_readAmount_90 o0 G = tif (tin (gI G 400 (o0)) 40) (tif ((gA G 403 o0 (gI G 400 (o0)).toNatClampNeg) = (-1 : Int32)) (tif (vp_nar .boolean (nI 0) = (nI 0)) (some (some (vI (nI 0)), G)) none)
  (tif (vp_nar .boolean (nI 1) = (nI 1)) (some (some (vI (nI 1)), G)) none)) none := (tgo 44 rfl sk_X4_readAmount rfl).trans rfl
def st_X4_playAll : List (Nat × List Bool) := [(4, [true, true, true, true])]
theorem sk_X4_playAll : ∀ pc bs, tstop st_X4_playAll pc = some bs → ∃ a, k_X4_playAll pc = some (aMk bs a) := tstop_ok (List.forall_mem_cons.mpr ⟨⟨_, rfl⟩, fun _ h => absurd h List.not_mem_nil⟩)
set_option maxRecDepth 20000 in
theorem e_X4_playAll (o0 : Nat) (o1 : Nat) (G : tH) : V_X4_playAll o0 o1 G = V_X4_playAll_4 o0 o1 (-1 : Int32) (nI 0) G := (tgo 37 rfl sk_X4_playAll rfl).trans rfl
set_option maxRecDepth 20000 in
theorem e_X4_playAll_4 (o0 : Nat) (o1 : Nat) (x2 : Int32) (x3 : Int32) (G : tH) : V_X4_playAll_4 o0 o1 x2 x3 G = tif (x3 < (gI G 400 (o0))) (tif (tin x3 40) (tif (tin x3 40) (tif (tin x3 40) (tbI (V_X4_play o1 (gA G 401 o0 x3.toNatClampNeg) (gA G 402 o0 x3.toNatClampNeg) (gA G 403 o0 x3.toNatClampNeg) G) (fun r_2 G_1 => tif (r_2 = 0) (tif (x2 = (-1 : Int32)) (V_X4_playAll_4 o0 o1 x3 (x3 + (nI 1)) G_1)
  (V_X4_playAll_4 o0 o1 x2 (x3 + (nI 1)) G_1))
  (V_X4_playAll_4 o0 o1 x2 (x3 + (nI 1)) G_1))) none) none) none)
  (some (some (vI x2), G)) := (tgo 37 rfl sk_X4_playAll rfl).trans rfl
def st_X4_play : List (Nat × List Bool) := []
theorem sk_X4_play : ∀ pc bs, tstop st_X4_play pc = some bs → ∃ a, k_X4_play pc = some (aMk bs a) := tstop_ok (fun _ h => absurd h List.not_mem_nil)
set_option maxRecDepth 20000 in
theorem e_X4_play (o0 : Nat) (x1 : Int32) (x2 : Int32) (x3 : Int32) (G : tH) : V_X4_play o0 x1 x2 x3 G = tif (x1 = (nI 0)) (tbI (V_X7_placeBid o0 x2 x3 G) (fun r_2 G_1 => tif (vp_nar .boolean r_2 = r_2) (some (some (vI r_2), G_1)) none))
  (tif (x1 = (nI 1)) (tbI (V_X7_awardTop o0 G) (fun r_4 G_3 => tif (r_4 = (-2 : Int32)) (tif (vp_nar .boolean (nI 0) = (nI 0)) (some (some (vI (nI 0)), G_3)) none)
  (tif (vp_nar .boolean (nI 1) = (nI 1)) (some (some (vI (nI 1)), G_3)) none)))
  (tif (x1 = (nI 2)) (tbI (V_X7_bringYear o0 x2 G) (fun r_6 G_5 => tif (r_6 = (-1 : Int32)) (tif (vp_nar .boolean (nI 0) = (nI 0)) (some (some (vI (nI 0)), G_5)) none)
  (tif (vp_nar .boolean (nI 1) = (nI 1)) (some (some (vI (nI 1)), G_5)) none)))
  (tif (x1 = (nI 3)) (tbI (V_X7_takeFrom o0 x2 x3 G) (fun r_8 G_7 => tif (r_8 = (-1 : Int32)) (tif (vp_nar .boolean (nI 0) = (nI 0)) (some (some (vI (nI 0)), G_7)) none)
  (tif (vp_nar .boolean (nI 1) = (nI 1)) (some (some (vI (nI 1)), G_7)) none)))
  (tif (x1 = (nI 4)) (tbI (V_X7_lendTo o0 x2 x3 G) (fun r_10 G_9 => tif (r_10 = (-1 : Int32)) (tif (vp_nar .boolean (nI 0) = (nI 0)) (some (some (vI (nI 0)), G_9)) none)
  (tif (vp_nar .boolean (nI 1) = (nI 1)) (some (some (vI (nI 1)), G_9)) none)))
  (tif (x1 = (nI 5)) (tbI (V_X7_callIn o0 x2 x3 G) (fun r_12 G_11 => tif (r_12 = (-1 : Int32)) (tif (vp_nar .boolean (nI 0) = (nI 0)) (some (some (vI (nI 0)), G_11)) none)
  (tif (vp_nar .boolean (nI 1) = (nI 1)) (some (some (vI (nI 1)), G_11)) none)))
  (tif (x1 = (nI 6)) (tbI (V_X7_spareTown o0 x2 G) (fun r_14 G_13 => tif (r_14 = (-1 : Int32)) (tif (vp_nar .boolean (nI 0) = (nI 0)) (some (some (vI (nI 0)), G_13)) none)
  (tif (vp_nar .boolean (nI 1) = (nI 1)) (some (some (vI (nI 1)), G_13)) none)))
  (tif (x1 = (nI 7)) (tbI (V_X7_bribeJuror o0 x2 G) (fun r_16 G_15 => tif (vp_nar .boolean r_16 = r_16) (some (some (vI r_16), G_15)) none))
  (tif (x1 = (nI 8)) (tbI (V_X7_sueHolder o0 G) (fun r_18 G_17 => tif (r_18 = (-1 : Int32)) (tif (vp_nar .boolean (nI 0) = (nI 0)) (some (some (vI (nI 0)), G_17)) none)
  (tif (vp_nar .boolean (nI 1) = (nI 1)) (some (some (vI (nI 1)), G_17)) none)))
  (tbI (V_X7_closeLease o0 G) (fun r_20 G_19 => tif (vp_nar .boolean r_20 = r_20) (some (some (vI r_20), G_19)) none)))))))))) := (tgo 83 rfl sk_X4_play rfl).trans rfl
