/-! the equations: X0 -/
def st_X0_live : List (Nat × List Bool) := [(14, [true, true, false, true, true]), (32, [true, true, false, true, true])]
theorem sk_X0_live : ∀ pc bs, tstop st_X0_live pc = some bs → ∃ a, k_X0_live pc = some (aMk bs a) := tstop_ok (List.forall_mem_cons.mpr ⟨⟨_, rfl⟩, List.forall_mem_cons.mpr ⟨⟨_, rfl⟩, fun _ h => absurd h List.not_mem_nil⟩⟩)
set_option maxRecDepth 20000 in
theorem e_X0_live (o1 : Nat) (x2 : Int32) (x3 : Int32) (G : tH) : V_X0_live o1 x2 x3 G = let G_1 := sL G 0 (0) (x2.toInt64)
  let G_2 := sI G_1 1 (0) ((nI 0))
  V_X0_live_14 o1 x3 (nI 0) G_2 := (tgo 37 rfl sk_X0_live rfl).trans rfl
set_option maxRecDepth 20000 in
theorem e_X0_live_14 (o1 : Nat) (x3 : Int32) (x4 : Int32) (G : tH) : V_X0_live_14 o1 x3 x4 G = tif (x4 < x3) (tbI (V_X7_isHeld o1 G) (fun r_2 G_1 => tif (r_2 = 0) (tbV (V_X0_auction o1 G_1) (fun G_3 => V_X0_live_32 o1 x3 x4 G_3))
  (V_X0_live_32 o1 x3 x4 G_1)))
  (some (none, G)) := (tgo 37 rfl sk_X0_live rfl).trans rfl
set_option maxRecDepth 20000 in
theorem e_X0_live_32 (o1 : Nat) (x3 : Int32) (x4 : Int32) (G : tH) : V_X0_live_32 o1 x3 x4 G = tbI (V_X7_isHeld o1 G) (fun r_2 G_1 => tif (r_2 = 0) (V_X0_live_14 o1 x3 (x4 + (nI 1)) G_1)
  (tif (0 < (gI G_1 601 (4 * (gR G_1 700 (o1)) + 2))) (tbV (V_X0_liveYear o1 G_1) (fun G_3 => V_X0_live_14 o1 x3 (x4 + (nI 1)) G_3))
  (V_X0_live_14 o1 x3 (x4 + (nI 1)) G_1))) := (tgo 37 rfl sk_X0_live rfl).trans rfl
def st_X0_drawBelow : List (Nat × List Bool) := []
theorem sk_X0_drawBelow : ∀ pc bs, tstop st_X0_drawBelow pc = some bs → ∃ a, k_X0_drawBelow pc = some (aMk bs a) := tstop_ok (fun _ h => absurd h List.not_mem_nil)
set_option maxRecDepth 20000 in
theorem e_X0_drawBelow (x1 : Int32) (G : tH) : V_X0_drawBelow x1 G = tif ((lN 2147483648) = 0) none (let G_1 := sL G 0 (0) ((((gL G 0 (0)) * (lN 1103515245)) + (lN 12345)) - (((gL G 0 (0)) * (lN 1103515245)) + (lN 12345)) / (lN 2147483648) * (lN 2147483648))
  tif (0 < x1) (tif ((lN 65536) = 0) none (tif (x1.toInt64 = 0) none (some (some (vI ((((gL G_1 0 (0)) / (lN 65536)) - ((gL G_1 0 (0)) / (lN 65536)) / x1.toInt64 * x1.toInt64).toInt32)), G_1))))
  (some (some (vI (nI 0)), G_1))) := (tgo 28 rfl sk_X0_drawBelow rfl).trans rfl
def st_X0_auction : List (Nat × List Bool) := [(2, [true, true, true])]
theorem sk_X0_auction : ∀ pc bs, tstop st_X0_auction pc = some bs → ∃ a, k_X0_auction pc = some (aMk bs a) := tstop_ok (List.forall_mem_cons.mpr ⟨⟨_, rfl⟩, fun _ h => absurd h List.not_mem_nil⟩)
set_option maxRecDepth 20000 in
theorem e_X0_auction (o1 : Nat) (G : tH) : V_X0_auction o1 G = V_X0_auction_2 o1 (nI 0) G := (tgo 26 rfl sk_X0_auction rfl).trans rfl
set_option maxRecDepth 20000 in
theorem e_X0_auction_2 (o1 : Nat) (x2 : Int32) (G : tH) : V_X0_auction_2 o1 x2 G = tif (x2 < (gI G 601 (4 * (gR G 700 (o1)) + 1))) (tbI (V_X0_drawBelow (nI 100) G) (fun r_2 G_1 => tbI (V_X7_placeBid o1 x2 r_2 G_1) (fun r_4 G_3 => V_X0_auction_2 o1 (x2 + (nI 1)) G_3)))
  (tbI (V_X7_awardTop o1 G) (fun r_6 G_5 => some (none, G_5))) := (tgo 26 rfl sk_X0_auction rfl).trans rfl
def st_X0_liveYear : List (Nat × List Bool) := [(15, [true, true, true])]
theorem sk_X0_liveYear : ∀ pc bs, tstop st_X0_liveYear pc = some bs → ∃ a, k_X0_liveYear pc = some (aMk bs a) := tstop_ok (List.forall_mem_cons.mpr ⟨⟨_, rfl⟩, fun _ h => absurd h List.not_mem_nil⟩)
set_option maxRecDepth 20000 in
theorem e_X0_liveYear (o1 : Nat) (G : tH) : V_X0_liveYear o1 G = tbI (V_X0_drawHarvest (gR G 700 (o1)) G) (fun r_2 G_1 => tbI (V_X7_bringYear o1 r_2 G_1) (fun r_4 G_3 => V_X0_liveYear_15 o1 (nI 0) G_3)) := (tgo 37 rfl sk_X0_liveYear rfl).trans rfl
set_option maxRecDepth 20000 in
theorem e_X0_liveYear_15 (o1 : Nat) (x2 : Int32) (G : tH) : V_X0_liveYear_15 o1 x2 G = tif (x2 < (gI G 601 (4 * (gR G 700 (o1)) + 0))) (tbV (V_X0_visit o1 x2 G) (fun G_1 => V_X0_liveYear_15 o1 (x2 + (nI 1)) G_1))
  (tif ((gI G 711 (o1)) < (nI 5)) (some (none, G))
  (tbI (V_X7_sueHolder o1 G) (fun r_3 G_2 => tbI (V_X7_closeLease o1 G_2) (fun r_5 G_4 => some (none, G_4))))) := (tgo 37 rfl sk_X0_liveYear rfl).trans rfl
def st_X0_drawHarvest : List (Nat × List Bool) := [(4, [true, true, true, true, false]), (39, [false, true, false, true, true])]
theorem sk_X0_drawHarvest : ∀ pc bs, tstop st_X0_drawHarvest pc = some bs → ∃ a, k_X0_drawHarvest pc = some (aMk bs a) := tstop_ok (List.forall_mem_cons.mpr ⟨⟨_, rfl⟩, List.forall_mem_cons.mpr ⟨⟨_, rfl⟩, fun _ h => absurd h List.not_mem_nil⟩⟩)
set_option maxRecDepth 20000 in
theorem e_X0_drawHarvest (o1 : Nat) (G : tH) : V_X0_drawHarvest o1 G = V_X0_drawHarvest_4 o1 (nI 0) (nI 0) G := (tgo 53 rfl sk_X0_drawHarvest rfl).trans rfl
set_option maxRecDepth 20000 in
theorem e_X0_drawHarvest_4 (o1 : Nat) (x2 : Int32) (x3 : Int32) (G : tH) : V_X0_drawHarvest_4 o1 x2 x3 G = tif (x3 < (gI G 601 (4 * (o1) + 2))) (tif (tin x3 5) (V_X0_drawHarvest_4 o1 (x2 + (gA G 509 o1 x3.toNatClampNeg)) (x3 + (nI 1)) G) none)
  (tbI (V_X0_drawBelow x2 G) (fun r_2 G_1 => V_X0_drawHarvest_39 o1 r_2 (nI 0) G_1)) := (tgo 53 rfl sk_X0_drawHarvest rfl).trans rfl
set_option maxRecDepth 20000 in
theorem e_X0_drawHarvest_39 (o1 : Nat) (x3 : Int32) (x4 : Int32) (G : tH) : V_X0_drawHarvest_39 o1 x3 x4 G = tif (x4 < ((gI G 601 (4 * (o1) + 2)) - (nI 1))) (tif (tin x4 5) (tif (x3 < (gA G 509 o1 x4.toNatClampNeg)) (some (some (vI x4), G))
  (tif (tin x4 5) (V_X0_drawHarvest_39 o1 (x3 - (gA G 509 o1 x4.toNatClampNeg)) (x4 + (nI 1)) G) none)) none)
  (some (some (vI x4), G)) := (tgo 53 rfl sk_X0_drawHarvest rfl).trans rfl
def st_X0_visit : List (Nat × List Bool) := [(46, [true, true, true, false, false, false])]
theorem sk_X0_visit : ∀ pc bs, tstop st_X0_visit pc = some bs → ∃ a, k_X0_visit pc = some (aMk bs a) := tstop_ok (List.forall_mem_cons.mpr ⟨⟨_, rfl⟩, fun _ h => absurd h List.not_mem_nil⟩)
set_option maxRecDepth 20000 in
theorem e_X0_visit (o1 : Nat) (x2 : Int32) (G : tH) : V_X0_visit o1 x2 G = tbI (V_X0_drawBelow (nI 3) G) (fun r_2 G_1 => tif (r_2 = (nI 2)) (tbI (V_X7_spareTown o1 x2 G_1) (fun r_4 G_3 => some (none, G_3)))
  (tif (r_2 = 0) (tif (tin x2 6) (tbI (V_X5_titheOf (gR G_1 700 (o1)) (gA G_1 703 o1 x2.toNatClampNeg) G_1) (fun r_6 G_5 => V_X0_visit_46 o1 x2 r_6 G_5)) none)
  (tif (tin x2 6) (tif ((nI 2) = 0) none (V_X0_visit_46 o1 x2 ((gA G_1 702 o1 x2.toNatClampNeg) / (nI 2)) G_1)) none))) := (tgo 49 rfl sk_X0_visit rfl).trans rfl
set_option maxRecDepth 20000 in
theorem e_X0_visit_46 (o1 : Nat) (x2 : Int32) (s0 : Int32) (G : tH) : V_X0_visit_46 o1 x2 s0 G = tbI (V_X7_takeFrom o1 x2 s0 G) (fun r_2 G_1 => tif (r_2 = (-1 : Int32)) (some (none, G_1))
  (let G_3 := sI G_1 1 (0) ((gI G_1 1 (0)) + r_2)
  some (none, G_3))) := (tgo 49 rfl sk_X0_visit rfl).trans rfl
