/-! the equations: X2 -/
def st_X2_beNumber : List (Nat × List Bool) := []
theorem sk_X2_beNumber : ∀ pc bs, tstop st_X2_beNumber pc = some bs → ∃ a, k_X2_beNumber pc = some (aMk bs a) := tstop_ok (fun _ h => absurd h List.not_mem_nil)
theorem e_X2_beNumber (o0 : Nat) (x1 : Int32) (G : tH) : V_X2_beNumber o0 x1 G = let G_1 := sI G 201 (o0) ((0 : Int32))
  tbV (V_X2_add o0 x1 G_1) (fun G_2 => some (none, G_2)) := (tgo 12 rfl sk_X2_beNumber rfl).trans rfl
def st_X2_beDebt : List (Nat × List Bool) := []
theorem sk_X2_beDebt : ∀ pc bs, tstop st_X2_beDebt pc = some bs → ∃ a, k_X2_beDebt pc = some (aMk bs a) := tstop_ok (fun _ h => absurd h List.not_mem_nil)
theorem e_X2_beDebt (o0 : Nat) (G : tH) : V_X2_beDebt o0 G = let G_1 := sI G 201 (o0) ((0 : Int32))
  tbV (V_X2_add o0 (-11 : Int32) G_1) (fun G_2 => some (none, G_2)) := (tgo 12 rfl sk_X2_beDebt rfl).trans rfl
def st_X2_tellFrom : List (Nat × List Bool) := []
theorem sk_X2_tellFrom : ∀ pc bs, tstop st_X2_tellFrom pc = some bs → ∃ a, k_X2_tellFrom pc = some (aMk bs a) := tstop_ok (fun _ h => absurd h List.not_mem_nil)
theorem e_X2_tellFrom (o0 : Nat) (G : tH) : V_X2_tellFrom o0 G = let G_1 := sI G 201 (o0) ((0 : Int32))
  tbI (V_X2_readChain (trank 16 [vR 2 o0, vR 8 0, vI (0 : Int32), vI (0 : Int32)]) o0 (0 : Int32) (0 : Int32) G_1) (fun r_3 G_2 => if vp_nar .boolean r_3 = r_3 then some (some (vI r_3), G_2) else none) := (tgo 14 rfl sk_X2_tellFrom rfl).trans rfl
def st_X2_add : List (Nat × List Bool) := []
theorem sk_X2_add : ∀ pc bs, tstop st_X2_add pc = some bs → ∃ a, k_X2_add pc = some (aMk bs a) := tstop_ok (fun _ h => absurd h List.not_mem_nil)
theorem e_X2_add (o0 : Nat) (x1 : Int32) (G : tH) : V_X2_add o0 x1 G = if (gI G 201 (o0)) < (Int32.ofNat 1000) then (if tin (gI G 201 (o0)) 1000 then (let G_1 := sA G 200 o0 (upd (gA G 200 o0) (gI G 201 (o0)).toNatClampNeg x1)
  let G_2 := sI G_1 201 (o0) ((gI G_1 201 (o0)) + (1 : Int32))
  some (none, G_2)) else none)
  else some (none, G) := (tgo 24 rfl sk_X2_add rfl).trans rfl
def st_X2_readChain : List (Nat × List Bool) := [(29, [true, true, true, true, true, false])]
theorem sk_X2_readChain : ∀ pc bs, tstop st_X2_readChain pc = some bs → ∃ a, k_X2_readChain pc = some (aMk bs a) := tstop_ok (List.forall_mem_cons.mpr ⟨⟨_, rfl⟩, fun _ h => absurd h List.not_mem_nil⟩)
theorem e_X2_readChain (d : Nat) (o0 : Nat) (x2 : Int32) (x3 : Int32) (G : tH) : V_X2_readChain d o0 x2 x3 G = if x2 < (4 : Int32) then (tbI (cond (Nat.blt (trank 16 [vR 2 o0, vR 8 0, vI (x2 + (1 : Int32)), vI x3]) d && true) (V_X2_readChain (trank 16 [vR 2 o0, vR 8 0, vI (x2 + (1 : Int32)), vI x3]) o0 (x2 + (1 : Int32)) x3 G) none) (fun r_2 G_1 => if r_2 = 0 then some (some (vI (0 : Int32)), G_1)
  else V_X2_readChain_29 d o0 x2 x3 (0 : Int32) G_1))
  else tbI (cond (Nat.blt (trank 18 [vR 2 o0, vR 8 0, vI x3]) d && true) (V_X2_readPart (trank 18 [vR 2 o0, vR 8 0, vI x3]) o0 x3 G) none) (fun r_4 G_3 => if vp_nar .boolean r_4 = r_4 then some (some (vI r_4), G_3) else none) := (tgo 60 rfl sk_X2_readChain rfl).trans rfl
theorem e_X2_readChain_29 (d : Nat) (o0 : Nat) (x2 : Int32) (x3 : Int32) (x4 : Int32) (G : tH) : V_X2_readChain_29 d o0 x2 x3 x4 G = if x4 < (1000 : Int32) then (tbI (V_X2_operationAt x2 G) (fun r_2 G_1 => if r_2 = 0 then some (some (vI (1 : Int32)), G_1)
  else tbV (V_X8_advance G_1) (fun G_3 => tbI (cond (Nat.blt (trank 16 [vR 2 o0, vR 8 0, vI (x2 + (1 : Int32)), vI x3]) d && true) (V_X2_readChain (trank 16 [vR 2 o0, vR 8 0, vI (x2 + (1 : Int32)), vI x3]) o0 (x2 + (1 : Int32)) x3 G_3) none) (fun r_5 G_4 => if r_5 = 0 then some (some (vI (0 : Int32)), G_4)
  else tbV (V_X2_add o0 r_2 G_4) (fun G_6 => if x2 = (1 : Int32) then some (some (vI (1 : Int32)), G_6)
  else V_X2_readChain_29 d o0 x2 x3 (x4 + (1 : Int32)) G_6)))))
  else some (some (vI (1 : Int32)), G) := (tgo 60 rfl sk_X2_readChain rfl).trans rfl
def st_X2_operationAt : List (Nat × List Bool) := []
theorem sk_X2_operationAt : ∀ pc bs, tstop st_X2_operationAt pc = some bs → ∃ a, k_X2_operationAt pc = some (aMk bs a) := tstop_ok (fun _ h => absurd h List.not_mem_nil)
theorem e_X2_operationAt (x1 : Int32) (G : tH) : V_X2_operationAt x1 G = if x1 = (0 : Int32) then (tbI (V_X8_wordAmong 14 G) (fun r_2 G_1 => if r_2 = (-1 : Int32) then some (some (vI (0 : Int32)), G_1)
  else some (some (vI ((-1 : Int32) - r_2)), G_1)))
  else if x1 = (1 : Int32) then (tbI (V_X8_isSign (60 : Int32) G) (fun r_4 G_3 => if r_4 = 0 then (tbI (V_X8_isSign (61 : Int32) G_3) (fun r_6 G_5 => if r_6 = 0 then some (some (vI (0 : Int32)), G_5)
  else some (some (vI (-4 : Int32)), G_5)))
  else some (some (vI (-3 : Int32)), G_3)))
  else if x1 = (2 : Int32) then (tbI (V_X8_isSign (43 : Int32) G) (fun r_8 G_7 => if r_8 = 0 then (tbI (V_X8_isSign (45 : Int32) G_7) (fun r_10 G_9 => if r_10 = 0 then some (some (vI (0 : Int32)), G_9)
  else some (some (vI (-6 : Int32)), G_9)))
  else some (some (vI (-5 : Int32)), G_7)))
  else if x1 = (3 : Int32) then (tbI (V_X8_isSign (42 : Int32) G) (fun r_12 G_11 => if r_12 = 0 then some (some (vI (0 : Int32)), G_11)
  else some (some (vI (-7 : Int32)), G_11)))
  else some (some (vI (0 : Int32)), G) := (tgo 58 rfl sk_X2_operationAt rfl).trans rfl
def st_X2_readPart : List (Nat × List Bool) := [(20, [true, true, true, true, false, false, false, false]), (45, [true, true, true, true, true, true, false, false]), (73, [true, true, true, true, true, true, true, false]), (113, [true, true, true, false, false, true, true, false])]
theorem sk_X2_readPart : ∀ pc bs, tstop st_X2_readPart pc = some bs → ∃ a, k_X2_readPart pc = some (aMk bs a) := tstop_ok (List.forall_mem_cons.mpr ⟨⟨_, rfl⟩, List.forall_mem_cons.mpr ⟨⟨_, rfl⟩, List.forall_mem_cons.mpr ⟨⟨_, rfl⟩, List.forall_mem_cons.mpr ⟨⟨_, rfl⟩, fun _ h => absurd h List.not_mem_nil⟩⟩⟩⟩)
theorem e_X2_readPart (d : Nat) (o0 : Nat) (x2 : Int32) (G : tH) : V_X2_readPart d o0 x2 G = tbI (V_X8_wordAmong 12 G) (fun r_2 G_1 => if (gI G_1 804 (0)) = (2 : Int32) then V_X2_readPart_20 d o0 x2 r_2 (1 : Int32) G_1
  else V_X2_readPart_20 d o0 x2 r_2 (0 : Int32) G_1) := (tgo 101 rfl sk_X2_readPart rfl).trans rfl
theorem e_X2_readPart_20 (d : Nat) (o0 : Nat) (x2 : Int32) (x3 : Int32) (s0 : Int32) (G : tH) : V_X2_readPart_20 d o0 x2 x3 s0 G = tbI (V_X8_isSign (40 : Int32) G) (fun r_2 G_1 => tbI (V_X8_wordAmong 13 G_1) (fun r_4 G_3 => if r_4 = (-1 : Int32) then V_X2_readPart_45 d o0 x2 x3 s0 r_2 (0 : Int32) G_3
  else V_X2_readPart_45 d o0 x2 x3 s0 r_2 (1 : Int32) G_3)) := (tgo 101 rfl sk_X2_readPart rfl).trans rfl
theorem e_X2_readPart_45 (d : Nat) (o0 : Nat) (x2 : Int32) (x3 : Int32) (x4 : Int32) (x5 : Int32) (s0 : Int32) (G : tH) : V_X2_readPart_45 d o0 x2 x3 x4 x5 s0 G = if x3 = (-1 : Int32) then (if x4 = 0 then (if x5 = 0 then (if s0 = 0 then tbI (V_X8_blame (1 : Int32) G) (fun r_2 G_1 => if vp_nar .boolean r_2 = r_2 then some (some (vI r_2), G_1) else none)
  else V_X2_readPart_73 d o0 x2 x3 x4 x5 s0 G)
  else V_X2_readPart_73 d o0 x2 x3 x4 x5 s0 G)
  else V_X2_readPart_73 d o0 x2 x3 x4 x5 s0 G)
  else V_X2_readPart_73 d o0 x2 x3 x4 x5 s0 G := (tgo 101 rfl sk_X2_readPart rfl).trans rfl
theorem e_X2_readPart_73 (d : Nat) (o0 : Nat) (x2 : Int32) (x3 : Int32) (x4 : Int32) (x5 : Int32) (x6 : Int32) (G : tH) : V_X2_readPart_73 d o0 x2 x3 x4 x5 x6 G = if x2 < (5 : Int32) then (if x4 = 0 then (if x3 = (-1 : Int32) then V_X2_readPart_113 d o0 x2 x5 x6 G
  else tbV (V_X2_add o0 ((-9 : Int32) - x3) G) (fun G_1 => V_X2_readPart_113 d o0 x2 x5 x6 G_1))
  else tbV (V_X2_add o0 (gI G 806 (0)) G) (fun G_2 => V_X2_readPart_113 d o0 x2 x5 x6 G_2))
  else tbI (V_X8_blame (5 : Int32) G) (fun r_4 G_3 => if vp_nar .boolean r_4 = r_4 then some (some (vI r_4), G_3) else none) := (tgo 101 rfl sk_X2_readPart rfl).trans rfl
theorem e_X2_readPart_113 (d : Nat) (o0 : Nat) (x2 : Int32) (x5 : Int32) (x6 : Int32) (G : tH) : V_X2_readPart_113 d o0 x2 x5 x6 G = tbV (V_X8_advance G) (fun G_1 => if x5 = 0 then (if x6 = 0 then some (some (vI (1 : Int32)), G_1)
  else tbI (cond (Nat.blt (trank 18 [vR 2 o0, vR 8 0, vI (x2 + (1 : Int32))]) d && true) (V_X2_readPart (trank 18 [vR 2 o0, vR 8 0, vI (x2 + (1 : Int32))]) o0 (x2 + (1 : Int32)) G_1) none) (fun r_3 G_2 => tbV (V_X2_add o0 (-8 : Int32) G_2) (fun G_4 => if vp_nar .boolean r_3 = r_3 then some (some (vI r_3), G_4) else none)))
  else tbI (cond (Nat.blt (trank 16 [vR 2 o0, vR 8 0, vI (0 : Int32), vI (x2 + (1 : Int32))]) d && true) (V_X2_readChain (trank 16 [vR 2 o0, vR 8 0, vI (0 : Int32), vI (x2 + (1 : Int32))]) o0 (0 : Int32) (x2 + (1 : Int32)) G_1) none) (fun r_6 G_5 => if r_6 = 0 then some (some (vI (0 : Int32)), G_5)
  else tbI (V_X8_readSign (41 : Int32) G_5) (fun r_8 G_7 => if r_8 = 0 then some (some (vI (0 : Int32)), G_7)
  else some (some (vI (1 : Int32)), G_7)))) := (tgo 101 rfl sk_X2_readPart rfl).trans rfl
def st_X2_valueOf : List (Nat × List Bool) := [(6, [true, true, true, true, true, true, false]), (36, [true, true, true, true, true, true, true])]
theorem sk_X2_valueOf : ∀ pc bs, tstop st_X2_valueOf pc = some bs → ∃ a, k_X2_valueOf pc = some (aMk bs a) := tstop_ok (List.forall_mem_cons.mpr ⟨⟨_, rfl⟩, List.forall_mem_cons.mpr ⟨⟨_, rfl⟩, fun _ h => absurd h List.not_mem_nil⟩⟩)
theorem e_X2_valueOf (o0 : Nat) (x1 : Int32) (x2 : Int32) (x3 : Int32) (G : tH) : V_X2_valueOf o0 x1 x2 x3 G = V_X2_valueOf_6 o0 x1 x2 x3 (0 : Int32) (0 : Int32) G := (tgo 97 rfl sk_X2_valueOf rfl).trans rfl
theorem e_X2_valueOf_6 (o0 : Nat) (x1 : Int32) (x2 : Int32) (x3 : Int32) (x4 : Int32) (x5 : Int32) (G : tH) : V_X2_valueOf_6 o0 x1 x2 x3 x4 x5 G = if x5 < (gI G 201 (o0)) then (if tin x5 1000 then (if (gA G 200 o0 x5.toNatClampNeg) < 0 then (if (-9 : Int32) < (gA G 200 o0 x5.toNatClampNeg) then (if (gA G 200 o0 x5.toNatClampNeg) = (-8 : Int32) then (if x4 < (1 : Int32) then V_X2_valueOf_6 o0 x1 x2 x3 x4 (x5 + (1 : Int32)) G
  else if tin (x4 - (1 : Int32)) 28 then (if (gA G 202 o0 (x4 - (1 : Int32)).toNatClampNeg) = 0 then (if tin (x4 - (1 : Int32)) 28 then (let G_1 := sA G 202 o0 (upd (gA G 202 o0) (x4 - (1 : Int32)).toNatClampNeg (1 : Int32))
  V_X2_valueOf_6 o0 x1 x2 x3 x4 (x5 + (1 : Int32)) G_1) else none)
  else if tin (x4 - (1 : Int32)) 28 then (let G_2 := sA G 202 o0 (upd (gA G 202 o0) (x4 - (1 : Int32)).toNatClampNeg (0 : Int32))
  V_X2_valueOf_6 o0 x1 x2 x3 x4 (x5 + (1 : Int32)) G_2) else none) else none)
  else if x4 < (2 : Int32) then V_X2_valueOf_6 o0 x1 x2 x3 x4 (x5 + (1 : Int32)) G
  else if tin ((x4 + (-1 : Int32)) - (1 : Int32)) 28 then (if tin (x4 + (-1 : Int32)) 28 then (tbI (V_X2_join (gA G 200 o0 x5.toNatClampNeg) (gA G 202 o0 ((x4 + (-1 : Int32)) - (1 : Int32)).toNatClampNeg) (gA G 202 o0 (x4 + (-1 : Int32)).toNatClampNeg) G) (fun r_4 G_3 => if tin ((x4 + (-1 : Int32)) - (1 : Int32)) 28 then (let G_5 := sA G_3 202 o0 (upd (gA G_3 202 o0) ((x4 + (-1 : Int32)) - (1 : Int32)).toNatClampNeg r_4)
  V_X2_valueOf_6 o0 x1 x2 x3 (x4 + (-1 : Int32)) (x5 + (1 : Int32)) G_5) else none)) else none) else none)
  else V_X2_valueOf_36 o0 x1 x2 x3 x4 x5 (gA G 200 o0 x5.toNatClampNeg) G)
  else V_X2_valueOf_36 o0 x1 x2 x3 x4 x5 (gA G 200 o0 x5.toNatClampNeg) G) else none)
  else if 0 < x4 then some (some (vI (gA G 202 o0 (0 : Int32).toNatClampNeg)), G)
  else some (some (vI (0 : Int32)), G) := (tgo 97 rfl sk_X2_valueOf rfl).trans rfl
theorem e_X2_valueOf_36 (o0 : Nat) (x1 : Int32) (x2 : Int32) (x3 : Int32) (x4 : Int32) (x5 : Int32) (x6 : Int32) (G : tH) : V_X2_valueOf_36 o0 x1 x2 x3 x4 x5 x6 G = if x4 < (28 : Int32) then (if x6 < 0 then (tbI (V_X2_factOf x6 x1 x2 x3 G) (fun r_2 G_1 => if tin x4 28 then (let G_3 := sA G_1 202 o0 (upd (gA G_1 202 o0) x4.toNatClampNeg r_2)
  V_X2_valueOf_6 o0 x1 x2 x3 (x4 + (1 : Int32)) (x5 + (1 : Int32)) G_3) else none))
  else if tin x4 28 then (let G_4 := sA G 202 o0 (upd (gA G 202 o0) x4.toNatClampNeg x6)
  V_X2_valueOf_6 o0 x1 x2 x3 (x4 + (1 : Int32)) (x5 + (1 : Int32)) G_4) else none)
  else V_X2_valueOf_6 o0 x1 x2 x3 x4 (x5 + (1 : Int32)) G := (tgo 97 rfl sk_X2_valueOf rfl).trans rfl
def st_X2_factOf : List (Nat × List Bool) := []
theorem sk_X2_factOf : ∀ pc bs, tstop st_X2_factOf pc = some bs → ∃ a, k_X2_factOf pc = some (aMk bs a) := tstop_ok (fun _ h => absurd h List.not_mem_nil)
theorem e_X2_factOf (x0 : Int32) (x1 : Int32) (x2 : Int32) (x3 : Int32) (G : tH) : V_X2_factOf x0 x1 x2 x3 G = if x0 = (-10 : Int32) then some (some (vI x2), G)
  else if x0 = (-9 : Int32) then some (some (vI x1), G)
  else some (some (vI x3), G) := (tgo 13 rfl sk_X2_factOf rfl).trans rfl
def st_X2_join : List (Nat × List Bool) := []
theorem sk_X2_join : ∀ pc bs, tstop st_X2_join pc = some bs → ∃ a, k_X2_join pc = some (aMk bs a) := tstop_ok (fun _ h => absurd h List.not_mem_nil)
theorem e_X2_join (x0 : Int32) (x1 : Int32) (x2 : Int32) (G : tH) : V_X2_join x0 x1 x2 G = if x0 = (-6 : Int32) then some (some (vI (x1 - x2)), G)
  else if x0 = (-5 : Int32) then some (some (vI (x1 + x2)), G)
  else if x0 = (-4 : Int32) then (if x1 = x2 then some (some (vI (1 : Int32)), G)
  else some (some (vI (0 : Int32)), G))
  else if x0 = (-3 : Int32) then (if x1 < x2 then some (some (vI (1 : Int32)), G)
  else some (some (vI (0 : Int32)), G))
  else if x0 = (-2 : Int32) then (if x1 = 0 then (if x2 = 0 then some (some (vI (0 : Int32)), G)
  else some (some (vI (1 : Int32)), G))
  else some (some (vI (1 : Int32)), G))
  else if x0 = (-1 : Int32) then (if x1 = 0 then some (some (vI (0 : Int32)), G)
  else if x2 = 0 then some (some (vI (0 : Int32)), G)
  else some (some (vI (1 : Int32)), G))
  else some (some (vI (x1 * x2)), G) := (tgo 49 rfl sk_X2_join rfl).trans rfl
