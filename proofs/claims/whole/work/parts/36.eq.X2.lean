/-! the equations: X2 -/
def st_X2_beNumber : List (Nat × List Bool) := []
theorem sk_X2_beNumber : ∀ pc bs, tstop st_X2_beNumber pc = some bs → ∃ a, k_X2_beNumber pc = some (aMk bs a) := tstop_ok (fun _ h => absurd h List.not_mem_nil)
set_option maxRecDepth 20000 in
theorem e_X2_beNumber (o0 : Nat) (x1 : Int32) (G : tH) : V_X2_beNumber o0 x1 G = let G_1 := sI G 201 (o0) ((nI 0))
  tbV (V_X2_add o0 x1 G_1) (fun G_2 => some (none, G_2)) := (tgo 12 rfl sk_X2_beNumber rfl).trans rfl
def st_X2_beDebt : List (Nat × List Bool) := []
theorem sk_X2_beDebt : ∀ pc bs, tstop st_X2_beDebt pc = some bs → ∃ a, k_X2_beDebt pc = some (aMk bs a) := tstop_ok (fun _ h => absurd h List.not_mem_nil)
set_option maxRecDepth 20000 in
theorem e_X2_beDebt (o0 : Nat) (G : tH) : V_X2_beDebt o0 G = let G_1 := sI G 201 (o0) ((nI 0))
  tbV (V_X2_add o0 (-11 : Int32) G_1) (fun G_2 => some (none, G_2)) := (tgo 12 rfl sk_X2_beDebt rfl).trans rfl
def st_X2_tellFrom : List (Nat × List Bool) := []
theorem sk_X2_tellFrom : ∀ pc bs, tstop st_X2_tellFrom pc = some bs → ∃ a, k_X2_tellFrom pc = some (aMk bs a) := tstop_ok (fun _ h => absurd h List.not_mem_nil)
set_option maxRecDepth 20000 in
theorem e_X2_tellFrom (o0 : Nat) (G : tH) : V_X2_tellFrom o0 G = let G_1 := sI G 201 (o0) ((nI 0))
  tbI (V_X2_readChain (10 * (6 - (nI 0).toInt).toNat + (5 - (nI 0).toInt).toNat) o0 (nI 0) (nI 0) G_1) (fun r_3 G_2 => tif (vp_nar .boolean r_3 = r_3) (some (some (vI r_3), G_2)) none) := (tgo 14 rfl sk_X2_tellFrom rfl).trans rfl
def st_X2_add : List (Nat × List Bool) := []
theorem sk_X2_add : ∀ pc bs, tstop st_X2_add pc = some bs → ∃ a, k_X2_add pc = some (aMk bs a) := tstop_ok (fun _ h => absurd h List.not_mem_nil)
set_option maxRecDepth 20000 in
theorem e_X2_add (o0 : Nat) (x1 : Int32) (G : tH) : V_X2_add o0 x1 G = tif ((gI G 201 (o0)) < (Int32.ofNat 1000)) (tif (tin (gI G 201 (o0)) 1000) (let G_1 := sA G 200 o0 (upd (gA G 200 o0) (gI G 201 (o0)).toNatClampNeg x1)
  let G_2 := sI G_1 201 (o0) ((gI G_1 201 (o0)) + (nI 1))
  some (none, G_2)) none)
  (some (none, G)) := (tgo 24 rfl sk_X2_add rfl).trans rfl
def st_X2_readChain : List (Nat × List Bool) := [(29, [true, true, true, true, true, false])]
theorem sk_X2_readChain : ∀ pc bs, tstop st_X2_readChain pc = some bs → ∃ a, k_X2_readChain pc = some (aMk bs a) := tstop_ok (List.forall_mem_cons.mpr ⟨⟨_, rfl⟩, fun _ h => absurd h List.not_mem_nil⟩)
set_option maxRecDepth 20000 in
theorem e_X2_readChain (d : Nat) (o0 : Nat) (x2 : Int32) (x3 : Int32) (G : tH) : V_X2_readChain d o0 x2 x3 G = tif (x2 < (nI 4)) (tbI (cond (Nat.blt ((10 * (6 - x3.toInt).toNat + (5 - (x2 + (nI 1)).toInt).toNat) + 7) (d + 7) && true) (V_X2_readChain (10 * (6 - x3.toInt).toNat + (5 - (x2 + (nI 1)).toInt).toNat) o0 (x2 + (nI 1)) x3 G) none) (fun r_2 G_1 => tif (r_2 = 0) (tif (vp_nar .boolean (nI 0) = (nI 0)) (some (some (vI (nI 0)), G_1)) none)
  (V_X2_readChain_29 d o0 x2 x3 (nI 0) G_1)))
  (tbI (cond (Nat.blt ((10 * (6 - x3.toInt).toNat) + 7) (d + 7) && true) (V_X2_readPart (10 * (6 - x3.toInt).toNat) o0 x3 G) none) (fun r_4 G_3 => tif (vp_nar .boolean r_4 = r_4) (some (some (vI r_4), G_3)) none)) := (tgo 60 rfl sk_X2_readChain rfl).trans rfl
set_option maxRecDepth 20000 in
theorem e_X2_readChain_29 (d : Nat) (o0 : Nat) (x2 : Int32) (x3 : Int32) (x4 : Int32) (G : tH) : V_X2_readChain_29 d o0 x2 x3 x4 G = tif (x4 < (nI 1000)) (tbI (V_X2_operationAt x2 G) (fun r_2 G_1 => tif (r_2 = 0) (tif (vp_nar .boolean (nI 1) = (nI 1)) (some (some (vI (nI 1)), G_1)) none)
  (tbV (V_X8_advance G_1) (fun G_3 => tbI (cond (Nat.blt ((10 * (6 - x3.toInt).toNat + (5 - (x2 + (nI 1)).toInt).toNat) + 7) (d + 7) && true) (V_X2_readChain (10 * (6 - x3.toInt).toNat + (5 - (x2 + (nI 1)).toInt).toNat) o0 (x2 + (nI 1)) x3 G_3) none) (fun r_5 G_4 => tif (r_5 = 0) (tif (vp_nar .boolean (nI 0) = (nI 0)) (some (some (vI (nI 0)), G_4)) none)
  (tbV (V_X2_add o0 r_2 G_4) (fun G_6 => tif (x2 = (nI 1)) (tif (vp_nar .boolean (nI 1) = (nI 1)) (some (some (vI (nI 1)), G_6)) none)
  (V_X2_readChain_29 d o0 x2 x3 (x4 + (nI 1)) G_6))))))))
  (tif (vp_nar .boolean (nI 1) = (nI 1)) (some (some (vI (nI 1)), G)) none) := (tgo 60 rfl sk_X2_readChain rfl).trans rfl
def st_X2_operationAt : List (Nat × List Bool) := []
theorem sk_X2_operationAt : ∀ pc bs, tstop st_X2_operationAt pc = some bs → ∃ a, k_X2_operationAt pc = some (aMk bs a) := tstop_ok (fun _ h => absurd h List.not_mem_nil)
set_option maxRecDepth 20000 in
theorem e_X2_operationAt (x1 : Int32) (G : tH) : V_X2_operationAt x1 G = tif (x1 = (nI 0)) (tbI (V_X8_wordAmong 14 G) (fun r_2 G_1 => tif (r_2 = (-1 : Int32)) (some (some (vI (nI 0)), G_1))
  (some (some (vI ((-1 : Int32) - r_2)), G_1))))
  (tif (x1 = (nI 1)) (tbI (V_X8_isSign (nI 60) G) (fun r_4 G_3 => tif (r_4 = 0) (tbI (V_X8_isSign (nI 61) G_3) (fun r_6 G_5 => tif (r_6 = 0) (some (some (vI (nI 0)), G_5))
  (some (some (vI (-4 : Int32)), G_5))))
  (some (some (vI (-3 : Int32)), G_3))))
  (tif (x1 = (nI 2)) (tbI (V_X8_isSign (nI 43) G) (fun r_8 G_7 => tif (r_8 = 0) (tbI (V_X8_isSign (nI 45) G_7) (fun r_10 G_9 => tif (r_10 = 0) (some (some (vI (nI 0)), G_9))
  (some (some (vI (-6 : Int32)), G_9))))
  (some (some (vI (-5 : Int32)), G_7))))
  (tif (x1 = (nI 3)) (tbI (V_X8_isSign (nI 42) G) (fun r_12 G_11 => tif (r_12 = 0) (some (some (vI (nI 0)), G_11))
  (some (some (vI (-7 : Int32)), G_11))))
  (some (some (vI (nI 0)), G))))) := (tgo 58 rfl sk_X2_operationAt rfl).trans rfl
def st_X2_readPart : List (Nat × List Bool) := [(20, [true, true, true, true, false, false, false, false]), (45, [true, true, true, true, true, true, false, false]), (73, [true, true, true, true, true, true, true, false]), (113, [true, true, true, false, false, true, true, false])]
theorem sk_X2_readPart : ∀ pc bs, tstop st_X2_readPart pc = some bs → ∃ a, k_X2_readPart pc = some (aMk bs a) := tstop_ok (List.forall_mem_cons.mpr ⟨⟨_, rfl⟩, List.forall_mem_cons.mpr ⟨⟨_, rfl⟩, List.forall_mem_cons.mpr ⟨⟨_, rfl⟩, List.forall_mem_cons.mpr ⟨⟨_, rfl⟩, fun _ h => absurd h List.not_mem_nil⟩⟩⟩⟩)
set_option maxRecDepth 20000 in
theorem e_X2_readPart (d : Nat) (o0 : Nat) (x2 : Int32) (G : tH) : V_X2_readPart d o0 x2 G = tbI (V_X8_wordAmong 12 G) (fun r_2 G_1 => tif ((gI G_1 804 (0)) = (nI 2)) (V_X2_readPart_20 d o0 x2 r_2 (nI 1) G_1)
  (V_X2_readPart_20 d o0 x2 r_2 (nI 0) G_1)) := (tgo 101 rfl sk_X2_readPart rfl).trans rfl
set_option maxRecDepth 20000 in
theorem e_X2_readPart_20 (d : Nat) (o0 : Nat) (x2 : Int32) (x3 : Int32) (s0 : Int32) (G : tH) : V_X2_readPart_20 d o0 x2 x3 s0 G = tbI (V_X8_isSign (nI 40) G) (fun r_2 G_1 => tbI (V_X8_wordAmong 13 G_1) (fun r_4 G_3 => tif (r_4 = (-1 : Int32)) (V_X2_readPart_45 d o0 x2 x3 s0 r_2 (nI 0) G_3)
  (V_X2_readPart_45 d o0 x2 x3 s0 r_2 (nI 1) G_3))) := (tgo 101 rfl sk_X2_readPart rfl).trans rfl
set_option maxRecDepth 20000 in
theorem e_X2_readPart_45 (d : Nat) (o0 : Nat) (x2 : Int32) (x3 : Int32) (x4 : Int32) (x5 : Int32) (s0 : Int32) (G : tH) : V_X2_readPart_45 d o0 x2 x3 x4 x5 s0 G = tif (x3 = (-1 : Int32)) (tif (x4 = 0) (tif (x5 = 0) (tif (s0 = 0) (tbI (V_X8_blame (nI 1) G) (fun r_2 G_1 => tif (vp_nar .boolean r_2 = r_2) (some (some (vI r_2), G_1)) none))
  (V_X2_readPart_73 d o0 x2 x3 x4 x5 s0 G))
  (V_X2_readPart_73 d o0 x2 x3 x4 x5 s0 G))
  (V_X2_readPart_73 d o0 x2 x3 x4 x5 s0 G))
  (V_X2_readPart_73 d o0 x2 x3 x4 x5 s0 G) := (tgo 101 rfl sk_X2_readPart rfl).trans rfl
set_option maxRecDepth 20000 in
theorem e_X2_readPart_73 (d : Nat) (o0 : Nat) (x2 : Int32) (x3 : Int32) (x4 : Int32) (x5 : Int32) (x6 : Int32) (G : tH) : V_X2_readPart_73 d o0 x2 x3 x4 x5 x6 G = tif (x2 < (nI 5)) (tif (x4 = 0) (tif (x3 = (-1 : Int32)) (V_X2_readPart_113 d o0 x2 x5 x6 G)
  (tbV (V_X2_add o0 ((-9 : Int32) - x3) G) (fun G_1 => V_X2_readPart_113 d o0 x2 x5 x6 G_1)))
  (tbV (V_X2_add o0 (gI G 806 (0)) G) (fun G_2 => V_X2_readPart_113 d o0 x2 x5 x6 G_2)))
  (tbI (V_X8_blame (nI 5) G) (fun r_4 G_3 => tif (vp_nar .boolean r_4 = r_4) (some (some (vI r_4), G_3)) none)) := (tgo 101 rfl sk_X2_readPart rfl).trans rfl
set_option maxRecDepth 20000 in
theorem e_X2_readPart_113 (d : Nat) (o0 : Nat) (x2 : Int32) (x5 : Int32) (x6 : Int32) (G : tH) : V_X2_readPart_113 d o0 x2 x5 x6 G = tbV (V_X8_advance G) (fun G_1 => tif (x5 = 0) (tif (x6 = 0) (tif (vp_nar .boolean (nI 1) = (nI 1)) (some (some (vI (nI 1)), G_1)) none)
  (tbI (cond (Nat.blt ((10 * (6 - (x2 + (nI 1)).toInt).toNat) + 7) (d + 7) && true) (V_X2_readPart (10 * (6 - (x2 + (nI 1)).toInt).toNat) o0 (x2 + (nI 1)) G_1) none) (fun r_3 G_2 => tbV (V_X2_add o0 (-8 : Int32) G_2) (fun G_4 => tif (vp_nar .boolean r_3 = r_3) (some (some (vI r_3), G_4)) none))))
  (tbI (cond (Nat.blt ((10 * (6 - (x2 + (nI 1)).toInt).toNat + (5 - (nI 0).toInt).toNat) + 7) (d + 7) && true) (V_X2_readChain (10 * (6 - (x2 + (nI 1)).toInt).toNat + (5 - (nI 0).toInt).toNat) o0 (nI 0) (x2 + (nI 1)) G_1) none) (fun r_6 G_5 => tif (r_6 = 0) (tif (vp_nar .boolean (nI 0) = (nI 0)) (some (some (vI (nI 0)), G_5)) none)
  (tbI (V_X8_readSign (nI 41) G_5) (fun r_8 G_7 => tif (r_8 = 0) (tif (vp_nar .boolean (nI 0) = (nI 0)) (some (some (vI (nI 0)), G_7)) none)
  (tif (vp_nar .boolean (nI 1) = (nI 1)) (some (some (vI (nI 1)), G_7)) none)))))) := (tgo 101 rfl sk_X2_readPart rfl).trans rfl
def st_X2_valueOf : List (Nat × List Bool) := [(6, [true, true, true, true, true, true, false]), (36, [true, true, true, true, true, true, true])]
theorem sk_X2_valueOf : ∀ pc bs, tstop st_X2_valueOf pc = some bs → ∃ a, k_X2_valueOf pc = some (aMk bs a) := tstop_ok (List.forall_mem_cons.mpr ⟨⟨_, rfl⟩, List.forall_mem_cons.mpr ⟨⟨_, rfl⟩, fun _ h => absurd h List.not_mem_nil⟩⟩)
set_option maxRecDepth 20000 in
theorem e_X2_valueOf (o0 : Nat) (x1 : Int32) (x2 : Int32) (x3 : Int32) (G : tH) : V_X2_valueOf o0 x1 x2 x3 G = V_X2_valueOf_6 o0 x1 x2 x3 (nI 0) (nI 0) G := (tgo 97 rfl sk_X2_valueOf rfl).trans rfl
set_option maxRecDepth 20000 in
theorem e_X2_valueOf_6 (o0 : Nat) (x1 : Int32) (x2 : Int32) (x3 : Int32) (x4 : Int32) (x5 : Int32) (G : tH) : V_X2_valueOf_6 o0 x1 x2 x3 x4 x5 G = tif (x5 < (gI G 201 (o0))) (tif (tin x5 1000) (tif ((gA G 200 o0 x5.toNatClampNeg) < 0) (tif ((-9 : Int32) < (gA G 200 o0 x5.toNatClampNeg)) (tif ((gA G 200 o0 x5.toNatClampNeg) = (-8 : Int32)) (tif (x4 < (nI 1)) (V_X2_valueOf_6 o0 x1 x2 x3 x4 (x5 + (nI 1)) G)
  (tif (tin (x4 - (nI 1)) 28) (tif ((gA G 202 o0 (x4 - (nI 1)).toNatClampNeg) = 0) (tif (tin (x4 - (nI 1)) 28) (let G_1 := sA G 202 o0 (upd (gA G 202 o0) (x4 - (nI 1)).toNatClampNeg (nI 1))
  V_X2_valueOf_6 o0 x1 x2 x3 x4 (x5 + (nI 1)) G_1) none)
  (tif (tin (x4 - (nI 1)) 28) (let G_2 := sA G 202 o0 (upd (gA G 202 o0) (x4 - (nI 1)).toNatClampNeg (nI 0))
  V_X2_valueOf_6 o0 x1 x2 x3 x4 (x5 + (nI 1)) G_2) none)) none))
  (tif (x4 < (nI 2)) (V_X2_valueOf_6 o0 x1 x2 x3 x4 (x5 + (nI 1)) G)
  (tif (tin ((x4 + (-1 : Int32)) - (nI 1)) 28) (tif (tin (x4 + (-1 : Int32)) 28) (tbI (V_X2_join (gA G 200 o0 x5.toNatClampNeg) (gA G 202 o0 ((x4 + (-1 : Int32)) - (nI 1)).toNatClampNeg) (gA G 202 o0 (x4 + (-1 : Int32)).toNatClampNeg) G) (fun r_4 G_3 => tif (tin ((x4 + (-1 : Int32)) - (nI 1)) 28) (let G_5 := sA G_3 202 o0 (upd (gA G_3 202 o0) ((x4 + (-1 : Int32)) - (nI 1)).toNatClampNeg r_4)
  V_X2_valueOf_6 o0 x1 x2 x3 (x4 + (-1 : Int32)) (x5 + (nI 1)) G_5) none)) none) none)))
  (V_X2_valueOf_36 o0 x1 x2 x3 x4 x5 (gA G 200 o0 x5.toNatClampNeg) G))
  (V_X2_valueOf_36 o0 x1 x2 x3 x4 x5 (gA G 200 o0 x5.toNatClampNeg) G)) none)
  (tif (0 < x4) (tif (tin (nI 0) 28) (some (some (vI (gA G 202 o0 (nI 0).toNatClampNeg)), G)) none)
  (some (some (vI (nI 0)), G))) := (tgo 97 rfl sk_X2_valueOf rfl).trans rfl
set_option maxRecDepth 20000 in
theorem e_X2_valueOf_36 (o0 : Nat) (x1 : Int32) (x2 : Int32) (x3 : Int32) (x4 : Int32) (x5 : Int32) (x6 : Int32) (G : tH) : V_X2_valueOf_36 o0 x1 x2 x3 x4 x5 x6 G = tif (x4 < (nI 28)) (tif (x6 < 0) (tbI (V_X2_factOf x6 x1 x2 x3 G) (fun r_2 G_1 => tif (tin x4 28) (let G_3 := sA G_1 202 o0 (upd (gA G_1 202 o0) x4.toNatClampNeg r_2)
  V_X2_valueOf_6 o0 x1 x2 x3 (x4 + (nI 1)) (x5 + (nI 1)) G_3) none))
  (tif (tin x4 28) (let G_4 := sA G 202 o0 (upd (gA G 202 o0) x4.toNatClampNeg x6)
  V_X2_valueOf_6 o0 x1 x2 x3 (x4 + (nI 1)) (x5 + (nI 1)) G_4) none))
  (V_X2_valueOf_6 o0 x1 x2 x3 x4 (x5 + (nI 1)) G) := (tgo 97 rfl sk_X2_valueOf rfl).trans rfl
def st_X2_factOf : List (Nat × List Bool) := []
theorem sk_X2_factOf : ∀ pc bs, tstop st_X2_factOf pc = some bs → ∃ a, k_X2_factOf pc = some (aMk bs a) := tstop_ok (fun _ h => absurd h List.not_mem_nil)
set_option maxRecDepth 20000 in
theorem e_X2_factOf (x0 : Int32) (x1 : Int32) (x2 : Int32) (x3 : Int32) (G : tH) : V_X2_factOf x0 x1 x2 x3 G = tif (x0 = (-10 : Int32)) (some (some (vI x2), G))
  (tif (x0 = (-9 : Int32)) (some (some (vI x1), G))
  (some (some (vI x3), G))) := (tgo 13 rfl sk_X2_factOf rfl).trans rfl
def st_X2_join : List (Nat × List Bool) := []
theorem sk_X2_join : ∀ pc bs, tstop st_X2_join pc = some bs → ∃ a, k_X2_join pc = some (aMk bs a) := tstop_ok (fun _ h => absurd h List.not_mem_nil)
set_option maxRecDepth 20000 in
theorem e_X2_join (x0 : Int32) (x1 : Int32) (x2 : Int32) (G : tH) : V_X2_join x0 x1 x2 G = tif (x0 = (-6 : Int32)) (some (some (vI (x1 - x2)), G))
  (tif (x0 = (-5 : Int32)) (some (some (vI (x1 + x2)), G))
  (tif (x0 = (-4 : Int32)) (tif (x1 = x2) (some (some (vI (nI 1)), G))
  (some (some (vI (nI 0)), G)))
  (tif (x0 = (-3 : Int32)) (tif (x1 < x2) (some (some (vI (nI 1)), G))
  (some (some (vI (nI 0)), G)))
  (tif (x0 = (-2 : Int32)) (tif (x1 = 0) (tif (x2 = 0) (some (some (vI (nI 0)), G))
  (some (some (vI (nI 1)), G)))
  (some (some (vI (nI 1)), G)))
  (tif (x0 = (-1 : Int32)) (tif (x1 = 0) (some (some (vI (nI 0)), G))
  (tif (x2 = 0) (some (some (vI (nI 0)), G))
  (some (some (vI (nI 1)), G))))
  (some (some (vI (x1 * x2)), G))))))) := (tgo 49 rfl sk_X2_join rfl).trans rfl
