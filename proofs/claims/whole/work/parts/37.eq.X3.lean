/-! the equations: X3 -/
def st_X3_foresee : List (Nat × List Bool) := [(16, [true, true, true, true, true, false, false, false]), (53, [true, true, true, true, true, true, false, false]), (96, [true, true, true, true, true, true, false, false])]
theorem sk_X3_foresee : ∀ pc bs, tstop st_X3_foresee pc = some bs → ∃ a, k_X3_foresee pc = some (aMk bs a) := tstop_ok (List.forall_mem_cons.mpr ⟨⟨_, rfl⟩, List.forall_mem_cons.mpr ⟨⟨_, rfl⟩, List.forall_mem_cons.mpr ⟨⟨_, rfl⟩, fun _ h => absurd h List.not_mem_nil⟩⟩⟩)
set_option maxRecDepth 20000 in
theorem e_X3_foresee (o1 : Nat) (x2 : Int32) (G : tH) : V_X3_foresee o1 x2 G = tbI (V_X5_allHarvests (gR G 700 (o1)) G) (fun r_2 G_1 => let G_3 := sI G_1 303 (0) (r_2)
  V_X3_foresee_16 o1 x2 (gR G 700 (o1)) (nI 0) G_3) := (tgo 83 rfl sk_X3_foresee rfl).trans rfl
set_option maxRecDepth 20000 in
theorem e_X3_foresee_16 (o1 : Nat) (x2 : Int32) (o3 : Nat) (x4 : Int32) (G : tH) : V_X3_foresee_16 o1 x2 o3 x4 G = tif (x4 < (gI G 601 (4 * (o3) + 2))) (tif (tin x4 5) (tif (tin x4 5) (let G_1 := sA G 301 0 (upd (gA G 301 0) x4.toNatClampNeg (gA G 509 o3 x4.toNatClampNeg))
  tif (tin x4 5) (let G_2 := sA G_1 300 0 (upd (gA G_1 300 0) x4.toNatClampNeg (nI 0))
  V_X3_foresee_53 o1 x2 o3 x4 (nI 0) G_2) none) none) none)
  (some (none, G)) := (tgo 83 rfl sk_X3_foresee rfl).trans rfl
set_option maxRecDepth 20000 in
theorem e_X3_foresee_53 (o1 : Nat) (x2 : Int32) (o3 : Nat) (x4 : Int32) (x5 : Int32) (G : tH) : V_X3_foresee_53 o1 x2 o3 x4 x5 G = tif (x5 < (gI G 601 (4 * (o3) + 0))) (tif (x5 = x2) (tif (tin x5 6) (V_X3_foresee_96 o1 x2 o3 x4 x5 (if ((gA G 701 o1 x5.toNatClampNeg) + (nI 1)) < (nI 9999) then ((gA G 701 o1 x5.toNatClampNeg) + (nI 1)) else (nI 9999)) G) none)
  (tif (tin x5 6) (V_X3_foresee_96 o1 x2 o3 x4 x5 (gA G 701 o1 x5.toNatClampNeg) G) none))
  (V_X3_foresee_16 o1 x2 o3 (x4 + (nI 1)) G) := (tgo 83 rfl sk_X3_foresee rfl).trans rfl
set_option maxRecDepth 20000 in
theorem e_X3_foresee_96 (o1 : Nat) (x2 : Int32) (o3 : Nat) (x4 : Int32) (x5 : Int32) (s0 : Int32) (G : tH) : V_X3_foresee_96 o1 x2 o3 x4 x5 s0 G = tif (tin x5 6) (tbI (V_X5_meansWith o3 s0 (gA G 702 o1 x5.toNatClampNeg) G) (fun r_2 G_1 => tbI (V_X5_cropOf o3 x5 r_2 x4 G_1) (fun r_4 G_3 => tif (tin x4 5) (tbI (V_X5_titheOf o3 r_4 G_3) (fun r_6 G_5 => tif (tin x4 5) (let G_7 := sA G_5 300 0 (upd (gA G_5 300 0) x4.toNatClampNeg ((gA G_3 300 0 x4.toNatClampNeg) + r_6))
  V_X3_foresee_53 o1 x2 o3 x4 (x5 + (nI 1)) G_7) none)) none))) none := (tgo 83 rfl sk_X3_foresee rfl).trans rfl
def st_X3_worthBy : List (Nat × List Bool) := [(7, [true, true, true, true, true])]
theorem sk_X3_worthBy : ∀ pc bs, tstop st_X3_worthBy pc = some bs → ∃ a, k_X3_worthBy pc = some (aMk bs a) := tstop_ok (List.forall_mem_cons.mpr ⟨⟨_, rfl⟩, fun _ h => absurd h List.not_mem_nil⟩)
set_option maxRecDepth 20000 in
theorem e_X3_worthBy (x1 : Int32) (G : tH) : V_X3_worthBy x1 G = V_X3_worthBy_7 x1 (nI 0) (nI 0) (nI 0) G := (tgo 52 rfl sk_X3_worthBy rfl).trans rfl
set_option maxRecDepth 20000 in
theorem e_X3_worthBy_7 (x1 : Int32) (x2 : Int32) (x3 : Int32) (x4 : Int32) (G : tH) : V_X3_worthBy_7 x1 x2 x3 x4 G = tif (x4 < (nI 5)) (tif (((x1 &&& (gI G 303 (0))) &&& ((nI 1) <<< (x4 &&& 31))) = 0) (V_X3_worthBy_7 x1 x2 x3 (x4 + (nI 1)) G)
  (tif (tin x4 5) (tif (tin x4 5) (tif (tin x4 5) (V_X3_worthBy_7 x1 (x2 + ((gA G 301 0 x4.toNatClampNeg) * (gA G 300 0 x4.toNatClampNeg))) (x3 + (gA G 301 0 x4.toNatClampNeg)) (x4 + (nI 1)) G) none) none) none))
  (tif (0 < x3) (tif (x3 = 0) none (some (some (vI (x2 / x3)), G)))
  (some (some (vI (nI 0)), G))) := (tgo 52 rfl sk_X3_worthBy rfl).trans rfl
def st_X3_greatestNews : List (Nat × List Bool) := [(6, [true, true, true, true, false])]
theorem sk_X3_greatestNews : ∀ pc bs, tstop st_X3_greatestNews pc = some bs → ∃ a, k_X3_greatestNews pc = some (aMk bs a) := tstop_ok (List.forall_mem_cons.mpr ⟨⟨_, rfl⟩, fun _ h => absurd h List.not_mem_nil⟩)
set_option maxRecDepth 20000 in
theorem e_X3_greatestNews (G : tH) : V_X3_greatestNews  G = V_X3_greatestNews_6 (-1 : Int32) (-1 : Int32) (nI 0) G := (tgo 48 rfl sk_X3_greatestNews rfl).trans rfl
set_option maxRecDepth 20000 in
theorem e_X3_greatestNews_6 (x1 : Int32) (x2 : Int32) (x3 : Int32) (G : tH) : V_X3_greatestNews_6 x1 x2 x3 G = tif (x3 < (nI 5)) (tif ((gI G 303 (0)) < ((nI 1) <<< (x3 &&& 31))) (some (some (vI x1), G))
  (tbI (V_X3_worthBy ((gI G 303 (0)) &&& (((nI 1) <<< (x3 &&& 31)) ^^^ (-1 : Int32))) G) (fun r_2 G_1 => tbI (V_X3_worthBy (gI G_1 303 (0)) G_1) (fun r_4 G_3 => tif (x2 < (if 0 ≤ (r_2 - r_4) then (r_2 - r_4) else 0 - (r_2 - r_4))) (V_X3_greatestNews_6 x3 (if 0 ≤ (r_2 - r_4) then (r_2 - r_4) else 0 - (r_2 - r_4)) (x3 + (nI 1)) G_3)
  (V_X3_greatestNews_6 x1 x2 (x3 + (nI 1)) G_3)))))
  (some (some (vI x1), G)) := (tgo 48 rfl sk_X3_greatestNews rfl).trans rfl
def st_X3_setsWorth : List (Nat × List Bool) := [(4, [true, true, true, true])]
theorem sk_X3_setsWorth : ∀ pc bs, tstop st_X3_setsWorth pc = some bs → ∃ a, k_X3_setsWorth pc = some (aMk bs a) := tstop_ok (List.forall_mem_cons.mpr ⟨⟨_, rfl⟩, fun _ h => absurd h List.not_mem_nil⟩)
set_option maxRecDepth 20000 in
theorem e_X3_setsWorth (x1 : Int32) (G : tH) : V_X3_setsWorth x1 G = V_X3_setsWorth_4 x1 (nI 0) (nI 1) G := (tgo 31 rfl sk_X3_setsWorth rfl).trans rfl
set_option maxRecDepth 20000 in
theorem e_X3_setsWorth_4 (x1 : Int32) (x2 : Int32) (x3 : Int32) (G : tH) : V_X3_setsWorth_4 x1 x2 x3 G = tif ((gI G 303 (0)) < x3) (some (some (vI x2), G))
  (tif (x3 < (nI 32)) (tbI (V_X3_worthBy x3 G) (fun r_2 G_1 => tif (r_2 = x1) (V_X3_setsWorth_4 x1 (x2 ||| ((nI 1) <<< (x3 &&& 31))) (x3 + (nI 1)) G_1)
  (V_X3_setsWorth_4 x1 x2 (x3 + (nI 1)) G_1)))
  (some (some (vI x2), G))) := (tgo 31 rfl sk_X3_setsWorth rfl).trans rfl
def st_X3_inAll : List (Nat × List Bool) := [(7, [false, true, true, true])]
theorem sk_X3_inAll : ∀ pc bs, tstop st_X3_inAll pc = some bs → ∃ a, k_X3_inAll pc = some (aMk bs a) := tstop_ok (List.forall_mem_cons.mpr ⟨⟨_, rfl⟩, fun _ h => absurd h List.not_mem_nil⟩)
set_option maxRecDepth 20000 in
theorem e_X3_inAll (x1 : Int32) (G : tH) : V_X3_inAll x1 G = V_X3_inAll_7 x1 (gI G 303 (0)) (nI 1) G := (tgo 27 rfl sk_X3_inAll rfl).trans rfl
set_option maxRecDepth 20000 in
theorem e_X3_inAll_7 (x1 : Int32) (x2 : Int32) (x3 : Int32) (G : tH) : V_X3_inAll_7 x1 x2 x3 G = tif (x3 < (nI 32)) (tif ((((x1.toUInt32 >>> (x3.toUInt32 &&& Int32.toUInt32 31)).toInt32) &&& (nI 1)) = 0) (V_X3_inAll_7 x1 x2 (x3 + (nI 1)) G)
  (V_X3_inAll_7 x1 (x2 &&& x3) (x3 + (nI 1)) G))
  (some (some (vI x2), G)) := (tgo 27 rfl sk_X3_inAll rfl).trans rfl
def st_X3_inSome : List (Nat × List Bool) := [(4, [false, true, true, true])]
theorem sk_X3_inSome : ∀ pc bs, tstop st_X3_inSome pc = some bs → ∃ a, k_X3_inSome pc = some (aMk bs a) := tstop_ok (List.forall_mem_cons.mpr ⟨⟨_, rfl⟩, fun _ h => absurd h List.not_mem_nil⟩)
set_option maxRecDepth 20000 in
theorem e_X3_inSome (x1 : Int32) (G : tH) : V_X3_inSome x1 G = V_X3_inSome_4 x1 (nI 0) (nI 1) G := (tgo 26 rfl sk_X3_inSome rfl).trans rfl
set_option maxRecDepth 20000 in
theorem e_X3_inSome_4 (x1 : Int32) (x2 : Int32) (x3 : Int32) (G : tH) : V_X3_inSome_4 x1 x2 x3 G = tif (x3 < (nI 32)) (tif ((((x1.toUInt32 >>> (x3.toUInt32 &&& Int32.toUInt32 31)).toInt32) &&& (nI 1)) = 0) (V_X3_inSome_4 x1 x2 (x3 + (nI 1)) G)
  (V_X3_inSome_4 x1 (x2 ||| x3) (x3 + (nI 1)) G))
  (some (some (vI x2), G)) := (tgo 26 rfl sk_X3_inSome rfl).trans rfl
def st_X3_bestParting : List (Nat × List Bool) := [(24, [true, true, false, true, true, true, true, false])]
theorem sk_X3_bestParting : ∀ pc bs, tstop st_X3_bestParting pc = some bs → ∃ a, k_X3_bestParting pc = some (aMk bs a) := tstop_ok (List.forall_mem_cons.mpr ⟨⟨_, rfl⟩, fun _ h => absurd h List.not_mem_nil⟩)
set_option maxRecDepth 20000 in
theorem e_X3_bestParting (o1 : Nat) (x2 : Int32) (G : tH) : V_X3_bestParting o1 x2 G = tbV (V_X3_foresee o1 (-1 : Int32) G) (fun G_1 => tbI (V_X3_setsWorth x2 G_1) (fun r_3 G_2 => tbI (V_J6_bitCount_0f7a4 r_3 G_2) (fun r_5 G_4 => V_X3_bestParting_24 o1 r_3 r_5 (-1 : Int32) (nI 0) G_4))) := (tgo 45 rfl sk_X3_bestParting rfl).trans rfl
set_option maxRecDepth 20000 in
theorem e_X3_bestParting_24 (o1 : Nat) (x3 : Int32) (x4 : Int32) (x5 : Int32) (x6 : Int32) (G : tH) : V_X3_bestParting_24 o1 x3 x4 x5 x6 G = tif (x6 < (gI G 601 (4 * (gR G 700 (o1)) + 0))) (tbV (V_X3_foresee o1 x6 G) (fun G_1 => tbI (V_X3_mostAlike x3 G_1) (fun r_3 G_2 => tif (r_3 < x4) (V_X3_bestParting_24 o1 x3 r_3 x6 (x6 + (nI 1)) G_2)
  (V_X3_bestParting_24 o1 x3 x4 x5 (x6 + (nI 1)) G_2))))
  (some (some (vI x5), G)) := (tgo 45 rfl sk_X3_bestParting rfl).trans rfl
def st_X3_mostAlike : List (Nat × List Bool) := [(4, [true, true, true, true, false, false]), (39, [true, true, true, true, true, true])]
theorem sk_X3_mostAlike : ∀ pc bs, tstop st_X3_mostAlike pc = some bs → ∃ a, k_X3_mostAlike pc = some (aMk bs a) := tstop_ok (List.forall_mem_cons.mpr ⟨⟨_, rfl⟩, List.forall_mem_cons.mpr ⟨⟨_, rfl⟩, fun _ h => absurd h List.not_mem_nil⟩⟩)
set_option maxRecDepth 20000 in
theorem e_X3_mostAlike (x1 : Int32) (G : tH) : V_X3_mostAlike x1 G = V_X3_mostAlike_4 x1 (nI 0) (nI 1) G := (tgo 60 rfl sk_X3_mostAlike rfl).trans rfl
set_option maxRecDepth 20000 in
theorem e_X3_mostAlike_4 (x1 : Int32) (x2 : Int32) (x3 : Int32) (G : tH) : V_X3_mostAlike_4 x1 x2 x3 G = tif (x3 < (nI 32)) (tif ((((x1.toUInt32 >>> (x3.toUInt32 &&& Int32.toUInt32 31)).toInt32) &&& (nI 1)) = 0) (tif (tin x3 32) (let G_1 := sA G 302 0 (upd (gA G 302 0) x3.toNatClampNeg (-1 : Int32))
  V_X3_mostAlike_39 x1 x2 x3 (nI 0) (nI 1) G_1) none)
  (tbI (V_X3_worthBy x3 G) (fun r_3 G_2 => tif (tin x3 32) (let G_4 := sA G_2 302 0 (upd (gA G_2 302 0) x3.toNatClampNeg r_3)
  V_X3_mostAlike_39 x1 x2 x3 (nI 0) (nI 1) G_4) none)))
  (some (some (vI x2), G)) := (tgo 60 rfl sk_X3_mostAlike rfl).trans rfl
set_option maxRecDepth 20000 in
theorem e_X3_mostAlike_39 (x1 : Int32) (x2 : Int32) (x3 : Int32) (x4 : Int32) (x5 : Int32) (G : tH) : V_X3_mostAlike_39 x1 x2 x3 x4 x5 G = tif (x3 < x5) (V_X3_mostAlike_4 x1 (if x2 < x4 then x4 else x2) (x3 + (nI 1)) G)
  (tif (tin x3 32) (tif ((gA G 302 0 x3.toNatClampNeg) = (-1 : Int32)) (V_X3_mostAlike_39 x1 x2 x3 x4 (x5 + (nI 1)) G)
  (tif (tin x5 32) (tif (tin x3 32) (tif ((gA G 302 0 x5.toNatClampNeg) = (gA G 302 0 x3.toNatClampNeg)) (V_X3_mostAlike_39 x1 x2 x3 (x4 + (nI 1)) (x5 + (nI 1)) G)
  (V_X3_mostAlike_39 x1 x2 x3 x4 (x5 + (nI 1)) G)) none) none)) none) := (tgo 60 rfl sk_X3_mostAlike rfl).trans rfl
