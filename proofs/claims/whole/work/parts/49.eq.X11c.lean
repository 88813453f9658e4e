/-! the equations: X11c -/
def st_X11_sortOf : List (Nat × List Bool) := []
theorem sk_X11_sortOf : ∀ pc bs, tstop st_X11_sortOf pc = some bs → ∃ a, k_X11_sortOf pc = some (aMk bs a) := tstop_ok (fun _ h => absurd h List.not_mem_nil)
set_option maxRecDepth 20000 in
theorem e_X11_sortOf (x1 : Int32) (G : tH) : V_X11_sortOf x1 G = tif (tin ((nI 20) + ((nI 2) * x1)) 120) (some (some (vI (gA G 1110 0 ((nI 20) + ((nI 2) * x1)).toNatClampNeg)), G)) none := (tgo 14 rfl sk_X11_sortOf rfl).trans rfl
def st_X11_harvestOf : List (Nat × List Bool) := []
theorem sk_X11_harvestOf : ∀ pc bs, tstop st_X11_harvestOf pc = some bs → ∃ a, k_X11_harvestOf pc = some (aMk bs a) := tstop_ok (fun _ h => absurd h List.not_mem_nil)
set_option maxRecDepth 20000 in
theorem e_X11_harvestOf (x1 : Int32) (x2 : Int32) (G : tH) : V_X11_harvestOf x1 x2 G = tif (tin (((nI 30) + ((nI 2) * x1)) + x2) 120) (some (some (vI (gA G 1110 0 (((nI 30) + ((nI 2) * x1)) + x2).toNatClampNeg)), G)) none := (tgo 16 rfl sk_X11_harvestOf rfl).trans rfl
def st_X11_isTown : List (Nat × List Bool) := []
theorem sk_X11_isTown : ∀ pc bs, tstop st_X11_isTown pc = some bs → ∃ a, k_X11_isTown pc = some (aMk bs a) := tstop_ok (fun _ h => absurd h List.not_mem_nil)
set_option maxRecDepth 20000 in
theorem e_X11_isTown (x1 : Int32) (G : tH) : V_X11_isTown x1 G = tif (x1 < 0) (tif (vp_nar .boolean (nI 0) = (nI 0)) (some (some (vI (nI 0)), G)) none)
  (tbI (V_X11_towns G) (fun r_2 G_1 => tif (x1 < r_2) (tif (vp_nar .boolean (nI 1) = (nI 1)) (some (some (vI (nI 1)), G_1)) none)
  (tif (vp_nar .boolean (nI 0) = (nI 0)) (some (some (vI (nI 0)), G_1)) none))) := (tgo 15 rfl sk_X11_isTown rfl).trans rfl
def st_X11_isCompany : List (Nat × List Bool) := []
theorem sk_X11_isCompany : ∀ pc bs, tstop st_X11_isCompany pc = some bs → ∃ a, k_X11_isCompany pc = some (aMk bs a) := tstop_ok (fun _ h => absurd h List.not_mem_nil)
set_option maxRecDepth 20000 in
theorem e_X11_isCompany (x1 : Int32) (G : tH) : V_X11_isCompany x1 G = tif (x1 < 0) (tif (vp_nar .boolean (nI 0) = (nI 0)) (some (some (vI (nI 0)), G)) none)
  (tbI (V_X11_companies G) (fun r_2 G_1 => tif (x1 < r_2) (tif (vp_nar .boolean (nI 1) = (nI 1)) (some (some (vI (nI 1)), G_1)) none)
  (tif (vp_nar .boolean (nI 0) = (nI 0)) (some (some (vI (nI 0)), G_1)) none))) := (tgo 15 rfl sk_X11_isCompany rfl).trans rfl
def st_X11_isHarvest : List (Nat × List Bool) := []
theorem sk_X11_isHarvest : ∀ pc bs, tstop st_X11_isHarvest pc = some bs → ∃ a, k_X11_isHarvest pc = some (aMk bs a) := tstop_ok (fun _ h => absurd h List.not_mem_nil)
set_option maxRecDepth 20000 in
theorem e_X11_isHarvest (x1 : Int32) (G : tH) : V_X11_isHarvest x1 G = tif (x1 < 0) (tif (vp_nar .boolean (nI 0) = (nI 0)) (some (some (vI (nI 0)), G)) none)
  (tbI (V_X11_harvests G) (fun r_2 G_1 => tif (x1 < r_2) (tif (vp_nar .boolean (nI 1) = (nI 1)) (some (some (vI (nI 1)), G_1)) none)
  (tif (vp_nar .boolean (nI 0) = (nI 0)) (some (some (vI (nI 0)), G_1)) none))) := (tgo 15 rfl sk_X11_isHarvest rfl).trans rfl
def st_X11_isJuror : List (Nat × List Bool) := []
theorem sk_X11_isJuror : ∀ pc bs, tstop st_X11_isJuror pc = some bs → ∃ a, k_X11_isJuror pc = some (aMk bs a) := tstop_ok (fun _ h => absurd h List.not_mem_nil)
set_option maxRecDepth 20000 in
theorem e_X11_isJuror (x1 : Int32) (G : tH) : V_X11_isJuror x1 G = tif (x1 < 0) (tif (vp_nar .boolean (nI 0) = (nI 0)) (some (some (vI (nI 0)), G)) none)
  (tbI (V_X11_jurors G) (fun r_2 G_1 => tif (x1 < r_2) (tif (vp_nar .boolean (nI 1) = (nI 1)) (some (some (vI (nI 1)), G_1)) none)
  (tif (vp_nar .boolean (nI 0) = (nI 0)) (some (some (vI (nI 0)), G_1)) none))) := (tgo 15 rfl sk_X11_isJuror rfl).trans rfl
def st_X11_isHeld : List (Nat × List Bool) := []
theorem sk_X11_isHeld : ∀ pc bs, tstop st_X11_isHeld pc = some bs → ∃ a, k_X11_isHeld pc = some (aMk bs a) := tstop_ok (fun _ h => absurd h List.not_mem_nil)
set_option maxRecDepth 20000 in
theorem e_X11_isHeld (x1 : Int32) (G : tH) : V_X11_isHeld x1 G = tif (tin (x1 + (nI 0)) 1403) (tif ((gA G 1124 0 (x1 + (nI 0)).toNatClampNeg) < 0) (tif (vp_nar .boolean (nI 0) = (nI 0)) (some (some (vI (nI 0)), G)) none)
  (tif (vp_nar .boolean (nI 1) = (nI 1)) (some (some (vI (nI 1)), G)) none)) none := (tgo 16 rfl sk_X11_isHeld rfl).trans rfl
def st_X11_atMost : List (Nat × List Bool) := []
theorem sk_X11_atMost : ∀ pc bs, tstop st_X11_atMost pc = some bs → ∃ a, k_X11_atMost pc = some (aMk bs a) := tstop_ok (fun _ h => absurd h List.not_mem_nil)
set_option maxRecDepth 20000 in
theorem e_X11_atMost (x0 : Int32) (G : tH) : V_X11_atMost x0 G = tif (x0 < 0) (some (some (vI (nI 0)), G))
  (tif ((nI 9999) < x0) (some (some (vI (nI 9999)), G))
  (some (some (vI x0), G))) := (tgo 16 rfl sk_X11_atMost rfl).trans rfl
def st_X11_cropOf : List (Nat × List Bool) := [(27, [false, false, false, false])]
theorem sk_X11_cropOf : ∀ pc bs, tstop st_X11_cropOf pc = some bs → ∃ a, k_X11_cropOf pc = some (aMk bs a) := tstop_ok (List.forall_mem_cons.mpr ⟨⟨_, rfl⟩, fun _ h => absurd h List.not_mem_nil⟩)
set_option maxRecDepth 20000 in
theorem e_X11_cropOf (x1 : Int32) (x2 : Int32) (x3 : Int32) (G : tH) : V_X11_cropOf x1 x2 x3 G = tbI (V_X11_harvestOf x3 (nI 0) G) (fun r_2 G_1 => tif ((nI 100) = 0) none (tbI (V_X11_townOf x1 (nI 0) G_1) (fun r_4 G_3 => tif (r_4 = (nI 3)) (V_X11_cropOf_27 (nI 10) ((x2 * r_2) / (nI 100)) G_3)
  (V_X11_cropOf_27 (nI 0) ((x2 * r_2) / (nI 100)) G_3)))) := (tgo 25 rfl sk_X11_cropOf rfl).trans rfl
set_option maxRecDepth 20000 in
theorem e_X11_cropOf_27 (s1 : Int32) (s0 : Int32) (G : tH) : V_X11_cropOf_27 s1 s0 G = tbI (V_X11_atMost (s0 + s1) G) (fun r_2 G_1 => some (some (vI r_2), G_1)) := (tgo 25 rfl sk_X11_cropOf rfl).trans rfl
def st_X11_titheOf : List (Nat × List Bool) := []
theorem sk_X11_titheOf : ∀ pc bs, tstop st_X11_titheOf pc = some bs → ∃ a, k_X11_titheOf pc = some (aMk bs a) := tstop_ok (fun _ h => absurd h List.not_mem_nil)
set_option maxRecDepth 20000 in
theorem e_X11_titheOf (x1 : Int32) (G : tH) : V_X11_titheOf x1 G = tif (tin (nI 4) 120) (tif ((nI 100) = 0) none (some (some (vI (((gA G 1110 0 (nI 4).toNatClampNeg) * x1) / (nI 100))), G))) none := (tgo 14 rfl sk_X11_titheOf rfl).trans rfl
def st_X11_lostBy : List (Nat × List Bool) := []
theorem sk_X11_lostBy : ∀ pc bs, tstop st_X11_lostBy pc = some bs → ∃ a, k_X11_lostBy pc = some (aMk bs a) := tstop_ok (fun _ h => absurd h List.not_mem_nil)
set_option maxRecDepth 20000 in
theorem e_X11_lostBy (x1 : Int32) (x2 : Int32) (G : tH) : V_X11_lostBy x1 x2 G = tbI (V_X11_townOf x1 (nI 0) G) (fun r_2 G_1 => tif (r_2 = (nI 2)) (some (some (vI x2), G_1))
  (tif (r_2 = (nI 1)) (tif ((nI 4) = 0) none (some (some (vI (x2 / (nI 4))), G_1)))
  (tif ((nI 2) = 0) none (some (some (vI (x2 / (nI 2))), G_1))))) := (tgo 26 rfl sk_X11_lostBy rfl).trans rfl
def st_X11_over : List (Nat × List Bool) := []
theorem sk_X11_over : ∀ pc bs, tstop st_X11_over pc = some bs → ∃ a, k_X11_over pc = some (aMk bs a) := tstop_ok (fun _ h => absurd h List.not_mem_nil)
set_option maxRecDepth 20000 in
theorem e_X11_over (x0 : Int32) (x1 : Int32) (G : tH) : V_X11_over x0 x1 G = tif (x1 < x0) (some (some (vI (x0 - x1)), G))
  (some (some (vI (nI 0)), G)) := (tgo 14 rfl sk_X11_over rfl).trans rfl
def st_X11_mayBid : List (Nat × List Bool) := []
theorem sk_X11_mayBid : ∀ pc bs, tstop st_X11_mayBid pc = some bs → ∃ a, k_X11_mayBid pc = some (aMk bs a) := tstop_ok (fun _ h => absurd h List.not_mem_nil)
set_option maxRecDepth 20000 in
theorem e_X11_mayBid (x1 : Int32) (x2 : Int32) (x3 : Int32) (G : tH) : V_X11_mayBid x1 x2 x3 G = tbI (V_X11_isHeld x1 G) (fun r_2 G_1 => tif (r_2 = 0) (tif (tin ((x1 + (nI 41)) + x2) 1403) (tif ((gA G_1 1124 0 ((x1 + (nI 41)) + x2).toNatClampNeg) < x3) (tif (vp_nar .boolean (nI 0) = (nI 0)) (some (some (vI (nI 0)), G_1)) none)
  (tif (vp_nar .boolean (nI 1) = (nI 1)) (some (some (vI (nI 1)), G_1)) none)) none)
  (tif (vp_nar .boolean (nI 0) = (nI 0)) (some (some (vI (nI 0)), G_1)) none)) := (tgo 23 rfl sk_X11_mayBid rfl).trans rfl
def st_X11_highest : List (Nat × List Bool) := [(4, [true, true, true, true, false]), (55, [true, true, true, true, false]), (59, [true, true, true, true, false]), (60, [true, true, true, true, false])]
theorem sk_X11_highest : ∀ pc bs, tstop st_X11_highest pc = some bs → ∃ a, k_X11_highest pc = some (aMk bs a) := tstop_ok (List.forall_mem_cons.mpr ⟨⟨_, rfl⟩, List.forall_mem_cons.mpr ⟨⟨_, rfl⟩, List.forall_mem_cons.mpr ⟨⟨_, rfl⟩, List.forall_mem_cons.mpr ⟨⟨_, rfl⟩, fun _ h => absurd h List.not_mem_nil⟩⟩⟩⟩)
set_option maxRecDepth 20000 in
theorem e_X11_highest (x1 : Int32) (G : tH) : V_X11_highest x1 G = V_X11_highest_4 x1 (-1 : Int32) (nI 0) G := (tgo 55 rfl sk_X11_highest rfl).trans rfl
set_option maxRecDepth 20000 in
theorem e_X11_highest_4 (x1 : Int32) (x2 : Int32) (x3 : Int32) (G : tH) : V_X11_highest_4 x1 x2 x3 G = tbI (V_X11_companies G) (fun r_2 G_1 => tif (x3 < r_2) (tif (tin ((x1 + (nI 46)) + x3) 1403) (tif (0 < (gA G_1 1124 0 ((x1 + (nI 46)) + x3).toNatClampNeg)) (tif (x2 < 0) (V_X11_highest_55 x1 x2 x3 G_1)
  (tif (tin ((x1 + (nI 46)) + x3) 1403) (tif (tin ((x1 + (nI 46)) + x2) 1403) (tif ((gA G_1 1124 0 ((x1 + (nI 46)) + x2).toNatClampNeg) < (gA G_1 1124 0 ((x1 + (nI 46)) + x3).toNatClampNeg)) (V_X11_highest_55 x1 x2 x3 G_1)
  (V_X11_highest_59 x1 x2 x3 G_1)) none) none))
  (V_X11_highest_59 x1 x2 x3 G_1)) none)
  (some (some (vI x2), G_1))) := (tgo 55 rfl sk_X11_highest rfl).trans rfl
set_option maxRecDepth 20000 in
theorem e_X11_highest_55 (x1 : Int32) (x2 : Int32) (x3 : Int32) (G : tH) : V_X11_highest_55 x1 x2 x3 G = V_X11_highest_60 x1 x2 x3 (nI 1) G := (tgo 55 rfl sk_X11_highest rfl).trans rfl
set_option maxRecDepth 20000 in
theorem e_X11_highest_59 (x1 : Int32) (x2 : Int32) (x3 : Int32) (G : tH) : V_X11_highest_59 x1 x2 x3 G = V_X11_highest_60 x1 x2 x3 (nI 0) G := (tgo 55 rfl sk_X11_highest rfl).trans rfl
set_option maxRecDepth 20000 in
theorem e_X11_highest_60 (x1 : Int32) (x2 : Int32) (x3 : Int32) (s0 : Int32) (G : tH) : V_X11_highest_60 x1 x2 x3 s0 G = tif (s0 = 0) (V_X11_highest_4 x1 x2 (x3 + (nI 1)) G)
  (V_X11_highest_4 x1 x3 (x3 + (nI 1)) G) := (tgo 55 rfl sk_X11_highest rfl).trans rfl
def st_X11_mayAward : List (Nat × List Bool) := []
theorem sk_X11_mayAward : ∀ pc bs, tstop st_X11_mayAward pc = some bs → ∃ a, k_X11_mayAward pc = some (aMk bs a) := tstop_ok (fun _ h => absurd h List.not_mem_nil)
set_option maxRecDepth 20000 in
theorem e_X11_mayAward (x1 : Int32) (G : tH) : V_X11_mayAward x1 G = tbI (V_X11_isHeld x1 G) (fun r_2 G_1 => tif (r_2 = 0) (tbI (V_X11_highest x1 G_1) (fun r_4 G_3 => tif (r_4 < 0) (tif (vp_nar .boolean (nI 0) = (nI 0)) (some (some (vI (nI 0)), G_3)) none)
  (tif (vp_nar .boolean (nI 1) = (nI 1)) (some (some (vI (nI 1)), G_3)) none)))
  (tif (vp_nar .boolean (nI 0) = (nI 0)) (some (some (vI (nI 0)), G_1)) none)) := (tgo 17 rfl sk_X11_mayAward rfl).trans rfl
def st_X11_awards : List (Nat × List Bool) := [(44, [true, true, true, false, false]), (90, [true, true, false, false, false]), (111, [true, true, false, false, true])]
theorem sk_X11_awards : ∀ pc bs, tstop st_X11_awards pc = some bs → ∃ a, k_X11_awards pc = some (aMk bs a) := tstop_ok (List.forall_mem_cons.mpr ⟨⟨_, rfl⟩, List.forall_mem_cons.mpr ⟨⟨_, rfl⟩, List.forall_mem_cons.mpr ⟨⟨_, rfl⟩, fun _ h => absurd h List.not_mem_nil⟩⟩⟩)
set_option maxRecDepth 20000 in
theorem e_X11_awards (x1 : Int32) (G : tH) : V_X11_awards x1 G = tbI (V_X11_highest x1 G) (fun r_2 G_1 => tbI (V_X11_sortOf r_2 G_1) (fun r_4 G_3 => tif (r_4 = (nI 2)) (tif (tin ((x1 + (nI 46)) + r_2) 1403) (tif ((nI 4) = 0) none (V_X11_awards_44 x1 r_2 (((nI 3) * (gA G_3 1124 0 ((x1 + (nI 46)) + r_2).toNatClampNeg)) / (nI 4)) G_3)) none)
  (tif (tin ((x1 + (nI 46)) + r_2) 1403) (V_X11_awards_44 x1 r_2 (gA G_3 1124 0 ((x1 + (nI 46)) + r_2).toNatClampNeg) G_3) none))) := (tgo 116 rfl sk_X11_awards rfl).trans rfl
set_option maxRecDepth 20000 in
theorem e_X11_awards_44 (x1 : Int32) (x2 : Int32) (s0 : Int32) (G : tH) : V_X11_awards_44 x1 x2 s0 G = tbI (V_X11_sortOf x2 G) (fun r_2 G_1 => tif (r_2 = (nI 1)) (V_X11_awards_90 x1 G_1)
  (tif (tin (x1 + (nI 0)) 1403) (let G_3 := sA G_1 1124 0 (upd (gA G_1 1124 0) (x1 + (nI 0)).toNatClampNeg x2)
  tif (tin ((x1 + (nI 41)) + x2) 1403) (tif (tin ((x1 + (nI 41)) + x2) 1403) (let G_4 := sA G_3 1124 0 (upd (gA G_3 1124 0) ((x1 + (nI 41)) + x2).toNatClampNeg ((gA G_3 1124 0 ((x1 + (nI 41)) + x2).toNatClampNeg) - s0))
  tif (tin (x1 + (nI 3)) 1403) (tif (tin (x1 + (nI 3)) 1403) (let G_5 := sA G_4 1124 0 (upd (gA G_4 1124 0) (x1 + (nI 3)).toNatClampNeg ((gA G_4 1124 0 (x1 + (nI 3)).toNatClampNeg) + s0))
  V_X11_awards_90 x1 G_5) none) none) none) none) none)) := (tgo 116 rfl sk_X11_awards rfl).trans rfl
set_option maxRecDepth 20000 in
theorem e_X11_awards_90 (x1 : Int32) (G : tH) : V_X11_awards_90 x1 G = tif (tin (x1 + (nI 1)) 1403) (let G_1 := sA G 1124 0 (upd (gA G 1124 0) (x1 + (nI 1)).toNatClampNeg (nI 0))
  tif (tin (x1 + (nI 2)) 1403) (let G_2 := sA G_1 1124 0 (upd (gA G_1 1124 0) (x1 + (nI 2)).toNatClampNeg (nI 0))
  V_X11_awards_111 x1 (nI 0) G_2) none) none := (tgo 116 rfl sk_X11_awards rfl).trans rfl
set_option maxRecDepth 20000 in
theorem e_X11_awards_111 (x1 : Int32) (x4 : Int32) (G : tH) : V_X11_awards_111 x1 x4 G = tif (x4 < (nI 5)) (tif (tin ((x1 + (nI 46)) + x4) 1403) (let G_1 := sA G 1124 0 (upd (gA G 1124 0) ((x1 + (nI 46)) + x4).toNatClampNeg (nI 0))
  tif (tin ((x1 + (nI 51)) + x4) 1403) (let G_2 := sA G_1 1124 0 (upd (gA G_1 1124 0) ((x1 + (nI 51)) + x4).toNatClampNeg (nI 0))
  V_X11_awards_111 x1 (x4 + (nI 1)) G_2) none) none)
  (tif (tin (x1 + (nI 0)) 1403) (some (some (vI (gA G 1124 0 (x1 + (nI 0)).toNatClampNeg)), G)) none) := (tgo 116 rfl sk_X11_awards rfl).trans rfl
def st_X11_mayYear : List (Nat × List Bool) := []
theorem sk_X11_mayYear : ∀ pc bs, tstop st_X11_mayYear pc = some bs → ∃ a, k_X11_mayYear pc = some (aMk bs a) := tstop_ok (fun _ h => absurd h List.not_mem_nil)
set_option maxRecDepth 20000 in
theorem e_X11_mayYear (x1 : Int32) (G : tH) : V_X11_mayYear x1 G = tbI (V_X11_isHeld x1 G) (fun r_2 G_1 => tif (r_2 = 0) (tif (vp_nar .boolean (nI 0) = (nI 0)) (some (some (vI (nI 0)), G_1)) none)
  (tif (tin (x1 + (nI 1)) 1403) (tif ((gA G_1 1124 0 (x1 + (nI 1)).toNatClampNeg) < (nI 5)) (tif (vp_nar .boolean (nI 1) = (nI 1)) (some (some (vI (nI 1)), G_1)) none)
  (tif (vp_nar .boolean (nI 0) = (nI 0)) (some (some (vI (nI 0)), G_1)) none)) none)) := (tgo 21 rfl sk_X11_mayYear rfl).trans rfl
def st_X11_yearBy : List (Nat × List Bool) := [(5, [true, true, true, true, true, false]), (132, [true, true, true, true, true, true])]
theorem sk_X11_yearBy : ∀ pc bs, tstop st_X11_yearBy pc = some bs → ∃ a, k_X11_yearBy pc = some (aMk bs a) := tstop_ok (List.forall_mem_cons.mpr ⟨⟨_, rfl⟩, List.forall_mem_cons.mpr ⟨⟨_, rfl⟩, fun _ h => absurd h List.not_mem_nil⟩⟩)
set_option maxRecDepth 20000 in
theorem e_X11_yearBy (x1 : Int32) (x2 : Int32) (G : tH) : V_X11_yearBy x1 x2 G = V_X11_yearBy_5 x1 x2 (nI 0) (nI 0) G := (tgo 172 rfl sk_X11_yearBy rfl).trans rfl
set_option maxRecDepth 20000 in
theorem e_X11_yearBy_5 (x1 : Int32) (x2 : Int32) (x3 : Int32) (x4 : Int32) (G : tH) : V_X11_yearBy_5 x1 x2 x3 x4 G = tbI (V_X11_towns G) (fun r_2 G_1 => tif (x4 < r_2) (tif (tin ((x1 + (nI 5)) + x4) 1403) (tif (tin ((x1 + (nI 11)) + x4) 1403) (tif ((nI 2) = 0) none (tbI (V_X11_atMost ((gA G_1 1124 0 ((x1 + (nI 5)) + x4).toNatClampNeg) + ((gA G_1 1124 0 ((x1 + (nI 11)) + x4).toNatClampNeg) / (nI 2))) G_1) (fun r_4 G_3 => tif (tin ((x1 + (nI 5)) + x4) 1403) (let G_5 := sA G_3 1124 0 (upd (gA G_3 1124 0) ((x1 + (nI 5)) + x4).toNatClampNeg r_4)
  tif (tin (nI 0) 3) (let G_6 := sA G_5 1122 0 (upd (gA G_5 1122 0) (nI 0).toNatClampNeg r_4)
  tif (tin (nI 1) 3) (let G_7 := sA G_6 1122 0 (upd (gA G_6 1122 0) (nI 1).toNatClampNeg (nI 0))
  tif (tin ((x1 + (nI 29)) + x4) 1403) (tif (tin (nI 2) 3) (let G_8 := sA G_7 1122 0 (upd (gA G_7 1122 0) (nI 2).toNatClampNeg (gA G_7 1124 0 ((x1 + (nI 29)) + x4).toNatClampNeg))
  tif (tin (nI 7) 120) (tif ((gA G_8 1110 0 (nI 7).toNatClampNeg) < 0) (tif (tin (nI 2) 3) (V_X11_yearBy_132 x1 x2 x3 x4 r_4 (gA G_8 1122 0 (nI 2).toNatClampNeg) ((x1 + (nI 29)) + x4) G_8) none)
  (tif (tin (nI 7) 120) (tbI (V_X11_worthAt (gA G_8 1110 0 (nI 7).toNatClampNeg) G_8) (fun r_10 G_9 => V_X11_yearBy_132 x1 x2 x3 x4 r_4 r_10 ((x1 + (nI 29)) + x4) G_9)) none)) none) none) none) none) none) none))) none) none)
  (tif (tin (x1 + (nI 1)) 1403) (tif (tin (x1 + (nI 1)) 1403) (let G_11 := sA G_1 1124 0 (upd (gA G_1 1124 0) (x1 + (nI 1)).toNatClampNeg ((gA G_1 1124 0 (x1 + (nI 1)).toNatClampNeg) + (nI 1)))
  tif (tin (x1 + (nI 4)) 1403) (tif (tin (x1 + (nI 4)) 1403) (let G_12 := sA G_11 1124 0 (upd (gA G_11 1124 0) (x1 + (nI 4)).toNatClampNeg ((gA G_11 1124 0 (x1 + (nI 4)).toNatClampNeg) + (nI 1)))
  some (some (vI x3), G_12)) none) none) none) none)) := (tgo 172 rfl sk_X11_yearBy rfl).trans rfl
set_option maxRecDepth 20000 in
theorem e_X11_yearBy_132 (x1 : Int32) (x2 : Int32) (x3 : Int32) (x4 : Int32) (x5 : Int32) (s2 : Int32) (s1 : Int32) (G : tH) : V_X11_yearBy_132 x1 x2 x3 x4 x5 s2 s1 G = tbI (V_X11_atMost s2 G) (fun r_2 G_1 => tif (tin s1 1403) (let G_3 := sA G_1 1124 0 (upd (gA G_1 1124 0) s1.toNatClampNeg r_2)
  tbI (V_X11_cropOf x4 x5 x2 G_3) (fun r_5 G_4 => tif (tin ((x1 + (nI 17)) + x4) 1403) (let G_6 := sA G_4 1124 0 (upd (gA G_4 1124 0) ((x1 + (nI 17)) + x4).toNatClampNeg r_5)
  tif (tin ((x1 + (nI 17)) + x4) 1403) (tif (tin ((x1 + (nI 11)) + x4) 1403) (let G_7 := sA G_6 1124 0 (upd (gA G_6 1124 0) ((x1 + (nI 11)) + x4).toNatClampNeg (gA G_6 1124 0 ((x1 + (nI 17)) + x4).toNatClampNeg))
  tif (tin ((x1 + (nI 23)) + x4) 1403) (let G_8 := sA G_7 1124 0 (upd (gA G_7 1124 0) ((x1 + (nI 23)) + x4).toNatClampNeg (nI 0))
  tif (tin ((x1 + (nI 35)) + x4) 1403) (let G_9 := sA G_8 1124 0 (upd (gA G_8 1124 0) ((x1 + (nI 35)) + x4).toNatClampNeg (nI 0))
  tif (tin ((x1 + (nI 17)) + x4) 1403) (V_X11_yearBy_5 x1 x2 (x3 + (gA G_9 1124 0 ((x1 + (nI 17)) + x4).toNatClampNeg)) (x4 + (nI 1)) G_9) none) none) none) none) none) none)) none) := (tgo 172 rfl sk_X11_yearBy rfl).trans rfl
def st_X11_mayTake : List (Nat × List Bool) := []
theorem sk_X11_mayTake : ∀ pc bs, tstop st_X11_mayTake pc = some bs → ∃ a, k_X11_mayTake pc = some (aMk bs a) := tstop_ok (fun _ h => absurd h List.not_mem_nil)
set_option maxRecDepth 20000 in
theorem e_X11_mayTake (x1 : Int32) (x2 : Int32) (x3 : Int32) (G : tH) : V_X11_mayTake x1 x2 x3 G = tbI (V_X11_isHeld x1 G) (fun r_2 G_1 => tif (r_2 = 0) (tif (vp_nar .boolean (nI 0) = (nI 0)) (some (some (vI (nI 0)), G_1)) none)
  (tif (tin ((x1 + (nI 35)) + x2) 1403) (tif ((gA G_1 1124 0 ((x1 + (nI 35)) + x2).toNatClampNeg) = 0) (tif (0 < x3) (tif (tin ((x1 + (nI 11)) + x2) 1403) (tif ((gA G_1 1124 0 ((x1 + (nI 11)) + x2).toNatClampNeg) < x3) (tif (vp_nar .boolean (nI 0) = (nI 0)) (some (some (vI (nI 0)), G_1)) none)
  (tif (vp_nar .boolean (nI 1) = (nI 1)) (some (some (vI (nI 1)), G_1)) none)) none)
  (tif (vp_nar .boolean (nI 0) = (nI 0)) (some (some (vI (nI 0)), G_1)) none))
  (tif (vp_nar .boolean (nI 0) = (nI 0)) (some (some (vI (nI 0)), G_1)) none)) none)) := (tgo 34 rfl sk_X11_mayTake rfl).trans rfl
def st_X11_takes : List (Nat × List Bool) := []
theorem sk_X11_takes : ∀ pc bs, tstop st_X11_takes pc = some bs → ∃ a, k_X11_takes pc = some (aMk bs a) := tstop_ok (fun _ h => absurd h List.not_mem_nil)
set_option maxRecDepth 20000 in
theorem e_X11_takes (x1 : Int32) (x2 : Int32) (x3 : Int32) (G : tH) : V_X11_takes x1 x2 x3 G = tif (tin ((x1 + (nI 17)) + x2) 1403) (tbI (V_X11_titheOf (gA G 1124 0 ((x1 + (nI 17)) + x2).toNatClampNeg) G) (fun r_2 G_1 => tif (tin ((x1 + (nI 23)) + x2) 1403) (tbI (V_X11_over (gA G_1 1124 0 ((x1 + (nI 23)) + x2).toNatClampNeg) r_2 G_1) (fun r_4 G_3 => tif (tin ((x1 + (nI 23)) + x2) 1403) (tif (tin ((x1 + (nI 23)) + x2) 1403) (let G_5 := sA G_3 1124 0 (upd (gA G_3 1124 0) ((x1 + (nI 23)) + x2).toNatClampNeg ((gA G_3 1124 0 ((x1 + (nI 23)) + x2).toNatClampNeg) + x3))
  tif (tin ((x1 + (nI 11)) + x2) 1403) (tif (tin ((x1 + (nI 11)) + x2) 1403) (let G_6 := sA G_5 1124 0 (upd (gA G_5 1124 0) ((x1 + (nI 11)) + x2).toNatClampNeg ((gA G_5 1124 0 ((x1 + (nI 11)) + x2).toNatClampNeg) - x3))
  tif (tin (x1 + (nI 0)) 1403) (tif (tin ((x1 + (nI 41)) + (gA G_6 1124 0 (x1 + (nI 0)).toNatClampNeg)) 1403) (tif (tin ((x1 + (nI 41)) + (gA G_6 1124 0 (x1 + (nI 0)).toNatClampNeg)) 1403) (let G_7 := sA G_6 1124 0 (upd (gA G_6 1124 0) ((x1 + (nI 41)) + (gA G_6 1124 0 (x1 + (nI 0)).toNatClampNeg)).toNatClampNeg ((gA G_6 1124 0 ((x1 + (nI 41)) + (gA G_6 1124 0 (x1 + (nI 0)).toNatClampNeg)).toNatClampNeg) + x3))
  tif (tin ((x1 + (nI 23)) + x2) 1403) (tbI (V_X11_over (gA G_7 1124 0 ((x1 + (nI 23)) + x2).toNatClampNeg) r_2 G_7) (fun r_9 G_8 => tif (tin (x1 + (nI 2)) 1403) (tif (tin (x1 + (nI 2)) 1403) (let G_10 := sA G_8 1124 0 (upd (gA G_8 1124 0) (x1 + (nI 2)).toNatClampNeg ((gA G_8 1124 0 (x1 + (nI 2)).toNatClampNeg) + (r_9 - r_4)))
  tif (tin ((x1 + (nI 5)) + x2) 1403) (tbI (V_X11_lostBy x2 (r_9 - r_4) G_10) (fun r_12 G_11 => tbI (V_X11_atMost ((gA G_10 1124 0 ((x1 + (nI 5)) + x2).toNatClampNeg) - r_12) G_11) (fun r_14 G_13 => tif (tin ((x1 + (nI 5)) + x2) 1403) (let G_15 := sA G_13 1124 0 (upd (gA G_13 1124 0) ((x1 + (nI 5)) + x2).toNatClampNeg r_14)
  some (some (vI (r_9 - r_4)), G_15)) none))) none) none) none)) none) none) none) none) none) none) none) none)) none)) none := (tgo 115 rfl sk_X11_takes rfl).trans rfl
def st_X11_mayLend : List (Nat × List Bool) := []
theorem sk_X11_mayLend : ∀ pc bs, tstop st_X11_mayLend pc = some bs → ∃ a, k_X11_mayLend pc = some (aMk bs a) := tstop_ok (fun _ h => absurd h List.not_mem_nil)
set_option maxRecDepth 20000 in
theorem e_X11_mayLend (x1 : Int32) (x2 : Int32) (G : tH) : V_X11_mayLend x1 x2 G = tbI (V_X11_isHeld x1 G) (fun r_2 G_1 => tif (r_2 = 0) (tif (vp_nar .boolean (nI 0) = (nI 0)) (some (some (vI (nI 0)), G_1)) none)
  (tif (tin (x1 + (nI 0)) 1403) (tif (tin ((x1 + (nI 41)) + (gA G_1 1124 0 (x1 + (nI 0)).toNatClampNeg)) 1403) (tif ((gA G_1 1124 0 ((x1 + (nI 41)) + (gA G_1 1124 0 (x1 + (nI 0)).toNatClampNeg)).toNatClampNeg) < x2) (tif (vp_nar .boolean (nI 0) = (nI 0)) (some (some (vI (nI 0)), G_1)) none)
  (tif (vp_nar .boolean (nI 1) = (nI 1)) (some (some (vI (nI 1)), G_1)) none)) none) none)) := (tgo 28 rfl sk_X11_mayLend rfl).trans rfl
def st_X11_lends : List (Nat × List Bool) := []
theorem sk_X11_lends : ∀ pc bs, tstop st_X11_lends pc = some bs → ∃ a, k_X11_lends pc = some (aMk bs a) := tstop_ok (fun _ h => absurd h List.not_mem_nil)
set_option maxRecDepth 20000 in
theorem e_X11_lends (x1 : Int32) (x2 : Int32) (x3 : Int32) (G : tH) : V_X11_lends x1 x2 x3 G = tif (tin (x1 + (nI 0)) 1403) (tif (tin ((x1 + (nI 41)) + (gA G 1124 0 (x1 + (nI 0)).toNatClampNeg)) 1403) (tif (tin ((x1 + (nI 41)) + (gA G 1124 0 (x1 + (nI 0)).toNatClampNeg)) 1403) (let G_1 := sA G 1124 0 (upd (gA G 1124 0) ((x1 + (nI 41)) + (gA G 1124 0 (x1 + (nI 0)).toNatClampNeg)).toNatClampNeg ((gA G 1124 0 ((x1 + (nI 41)) + (gA G 1124 0 (x1 + (nI 0)).toNatClampNeg)).toNatClampNeg) - x3))
  tif (tin ((x1 + (nI 5)) + x2) 1403) (tbI (V_X11_atMost ((gA G_1 1124 0 ((x1 + (nI 5)) + x2).toNatClampNeg) + x3) G_1) (fun r_3 G_2 => tif (tin ((x1 + (nI 5)) + x2) 1403) (let G_4 := sA G_2 1124 0 (upd (gA G_2 1124 0) ((x1 + (nI 5)) + x2).toNatClampNeg r_3)
  tif (tin ((x1 + (nI 29)) + x2) 1403) (tbI (V_X11_atMost ((gA G_4 1124 0 ((x1 + (nI 29)) + x2).toNatClampNeg) + x3) G_4) (fun r_6 G_5 => tif (tin ((x1 + (nI 29)) + x2) 1403) (let G_7 := sA G_5 1124 0 (upd (gA G_5 1124 0) ((x1 + (nI 29)) + x2).toNatClampNeg r_6)
  tif (tin ((x1 + (nI 29)) + x2) 1403) (some (some (vI (gA G_7 1124 0 ((x1 + (nI 29)) + x2).toNatClampNeg)), G_7)) none) none)) none) none)) none) none) none) none := (tgo 69 rfl sk_X11_lends rfl).trans rfl
def st_X11_mayCall : List (Nat × List Bool) := []
theorem sk_X11_mayCall : ∀ pc bs, tstop st_X11_mayCall pc = some bs → ∃ a, k_X11_mayCall pc = some (aMk bs a) := tstop_ok (fun _ h => absurd h List.not_mem_nil)
set_option maxRecDepth 20000 in
theorem e_X11_mayCall (x1 : Int32) (x2 : Int32) (x3 : Int32) (G : tH) : V_X11_mayCall x1 x2 x3 G = tbI (V_X11_isHeld x1 G) (fun r_2 G_1 => tif (r_2 = 0) (tif (vp_nar .boolean (nI 0) = (nI 0)) (some (some (vI (nI 0)), G_1)) none)
  (tif (tin ((x1 + (nI 29)) + x2) 1403) (tif ((gA G_1 1124 0 ((x1 + (nI 29)) + x2).toNatClampNeg) < x3) (tif (vp_nar .boolean (nI 0) = (nI 0)) (some (some (vI (nI 0)), G_1)) none)
  (tif (tin ((x1 + (nI 5)) + x2) 1403) (tif ((gA G_1 1124 0 ((x1 + (nI 5)) + x2).toNatClampNeg) < x3) (tif (vp_nar .boolean (nI 0) = (nI 0)) (some (some (vI (nI 0)), G_1)) none)
  (tif (vp_nar .boolean (nI 1) = (nI 1)) (some (some (vI (nI 1)), G_1)) none)) none)) none)) := (tgo 33 rfl sk_X11_mayCall rfl).trans rfl
def st_X11_calls : List (Nat × List Bool) := []
theorem sk_X11_calls : ∀ pc bs, tstop st_X11_calls pc = some bs → ∃ a, k_X11_calls pc = some (aMk bs a) := tstop_ok (fun _ h => absurd h List.not_mem_nil)
set_option maxRecDepth 20000 in
theorem e_X11_calls (x1 : Int32) (x2 : Int32) (x3 : Int32) (G : tH) : V_X11_calls x1 x2 x3 G = tif (tin (x1 + (nI 0)) 1403) (tif (tin ((x1 + (nI 41)) + (gA G 1124 0 (x1 + (nI 0)).toNatClampNeg)) 1403) (tif (tin ((x1 + (nI 41)) + (gA G 1124 0 (x1 + (nI 0)).toNatClampNeg)) 1403) (let G_1 := sA G 1124 0 (upd (gA G 1124 0) ((x1 + (nI 41)) + (gA G 1124 0 (x1 + (nI 0)).toNatClampNeg)).toNatClampNeg ((gA G 1124 0 ((x1 + (nI 41)) + (gA G 1124 0 (x1 + (nI 0)).toNatClampNeg)).toNatClampNeg) + x3))
  tif (tin ((x1 + (nI 5)) + x2) 1403) (tif (tin ((x1 + (nI 5)) + x2) 1403) (let G_2 := sA G_1 1124 0 (upd (gA G_1 1124 0) ((x1 + (nI 5)) + x2).toNatClampNeg ((gA G_1 1124 0 ((x1 + (nI 5)) + x2).toNatClampNeg) - x3))
  tif (tin ((x1 + (nI 29)) + x2) 1403) (tif (tin ((x1 + (nI 29)) + x2) 1403) (let G_3 := sA G_2 1124 0 (upd (gA G_2 1124 0) ((x1 + (nI 29)) + x2).toNatClampNeg ((gA G_2 1124 0 ((x1 + (nI 29)) + x2).toNatClampNeg) - x3))
  tif (tin ((x1 + (nI 29)) + x2) 1403) (some (some (vI (gA G_3 1124 0 ((x1 + (nI 29)) + x2).toNatClampNeg)), G_3)) none) none) none) none) none) none) none) none := (tgo 55 rfl sk_X11_calls rfl).trans rfl
def st_X11_maySpare : List (Nat × List Bool) := []
theorem sk_X11_maySpare : ∀ pc bs, tstop st_X11_maySpare pc = some bs → ∃ a, k_X11_maySpare pc = some (aMk bs a) := tstop_ok (fun _ h => absurd h List.not_mem_nil)
set_option maxRecDepth 20000 in
theorem e_X11_maySpare (x1 : Int32) (x2 : Int32) (G : tH) : V_X11_maySpare x1 x2 G = tbI (V_X11_isHeld x1 G) (fun r_2 G_1 => tif (r_2 = 0) (tif (vp_nar .boolean (nI 0) = (nI 0)) (some (some (vI (nI 0)), G_1)) none)
  (tif (tin ((x1 + (nI 35)) + x2) 1403) (tif ((gA G_1 1124 0 ((x1 + (nI 35)) + x2).toNatClampNeg) = 0) (tif (vp_nar .boolean (nI 1) = (nI 1)) (some (some (vI (nI 1)), G_1)) none)
  (tif (vp_nar .boolean (nI 0) = (nI 0)) (some (some (vI (nI 0)), G_1)) none)) none)) := (tgo 22 rfl sk_X11_maySpare rfl).trans rfl
def st_X11_spares : List (Nat × List Bool) := [(76, [true, true, true, false]), (99, [true, true, true, false]), (117, [true, true, true, false]), (138, [true, true, true, false])]
theorem sk_X11_spares : ∀ pc bs, tstop st_X11_spares pc = some bs → ∃ a, k_X11_spares pc = some (aMk bs a) := tstop_ok (List.forall_mem_cons.mpr ⟨⟨_, rfl⟩, List.forall_mem_cons.mpr ⟨⟨_, rfl⟩, List.forall_mem_cons.mpr ⟨⟨_, rfl⟩, List.forall_mem_cons.mpr ⟨⟨_, rfl⟩, fun _ h => absurd h List.not_mem_nil⟩⟩⟩⟩)
set_option maxRecDepth 20000 in
theorem e_X11_spares (x1 : Int32) (x2 : Int32) (G : tH) : V_X11_spares x1 x2 G = tif (tin ((x1 + (nI 5)) + x2) 1403) (tif (tin (nI 0) 3) (let G_1 := sA G 1122 0 (upd (gA G 1122 0) (nI 0).toNatClampNeg (gA G 1124 0 ((x1 + (nI 5)) + x2).toNatClampNeg))
  tif (tin ((x1 + (nI 11)) + x2) 1403) (tif (tin (nI 1) 3) (let G_2 := sA G_1 1122 0 (upd (gA G_1 1122 0) (nI 1).toNatClampNeg (gA G_1 1124 0 ((x1 + (nI 11)) + x2).toNatClampNeg))
  tif (tin ((x1 + (nI 29)) + x2) 1403) (tif (tin (nI 2) 3) (let G_3 := sA G_2 1122 0 (upd (gA G_2 1122 0) (nI 2).toNatClampNeg (gA G_2 1124 0 ((x1 + (nI 29)) + x2).toNatClampNeg))
  tif (tin (nI 6) 120) (tif ((gA G_3 1110 0 (nI 6).toNatClampNeg) < 0) (V_X11_spares_76 x1 x2 (nI 20) G_3)
  (tif (tin (nI 6) 120) (tbI (V_X11_worthAt (gA G_3 1110 0 (nI 6).toNatClampNeg) G_3) (fun r_5 G_4 => V_X11_spares_76 x1 x2 r_5 G_4)) none)) none) none) none) none) none) none) none := (tgo 131 rfl sk_X11_spares rfl).trans rfl
set_option maxRecDepth 20000 in
theorem e_X11_spares_76 (x1 : Int32) (x2 : Int32) (s0 : Int32) (G : tH) : V_X11_spares_76 x1 x2 s0 G = tif (s0 < 0) (V_X11_spares_99 x1 x2 (nI 0) G)
  (tif ((nI 9999) < s0) (V_X11_spares_99 x1 x2 (nI 9999) G)
  (V_X11_spares_99 x1 x2 s0 G)) := (tgo 131 rfl sk_X11_spares rfl).trans rfl
set_option maxRecDepth 20000 in
theorem e_X11_spares_99 (x1 : Int32) (x2 : Int32) (s0 : Int32) (G : tH) : V_X11_spares_99 x1 x2 s0 G = tbI (V_X11_townOf x2 (nI 0) G) (fun r_2 G_1 => tif (r_2 = (nI 1)) (V_X11_spares_117 x1 x2 ((nI 2) * s0) G_1)
  (V_X11_spares_117 x1 x2 s0 G_1)) := (tgo 131 rfl sk_X11_spares rfl).trans rfl
set_option maxRecDepth 20000 in
theorem e_X11_spares_117 (x1 : Int32) (x2 : Int32) (s0 : Int32) (G : tH) : V_X11_spares_117 x1 x2 s0 G = tif (tin (nI 0) 3) (tif ((gA G 1122 0 (nI 0).toNatClampNeg) < s0) (tif (tin (nI 0) 3) (V_X11_spares_138 x1 x2 (gA G 1122 0 (nI 0).toNatClampNeg) G) none)
  (V_X11_spares_138 x1 x2 s0 G)) none := (tgo 131 rfl sk_X11_spares rfl).trans rfl
set_option maxRecDepth 20000 in
theorem e_X11_spares_138 (x1 : Int32) (x2 : Int32) (s0 : Int32) (G : tH) : V_X11_spares_138 x1 x2 s0 G = tif (tin ((x1 + (nI 5)) + x2) 1403) (tif (tin ((x1 + (nI 5)) + x2) 1403) (let G_1 := sA G 1124 0 (upd (gA G 1124 0) ((x1 + (nI 5)) + x2).toNatClampNeg ((gA G 1124 0 ((x1 + (nI 5)) + x2).toNatClampNeg) - s0))
  tif (tin (x1 + (nI 0)) 1403) (tif (tin ((x1 + (nI 41)) + (gA G_1 1124 0 (x1 + (nI 0)).toNatClampNeg)) 1403) (tif (tin ((x1 + (nI 41)) + (gA G_1 1124 0 (x1 + (nI 0)).toNatClampNeg)) 1403) (let G_2 := sA G_1 1124 0 (upd (gA G_1 1124 0) ((x1 + (nI 41)) + (gA G_1 1124 0 (x1 + (nI 0)).toNatClampNeg)).toNatClampNeg ((gA G_1 1124 0 ((x1 + (nI 41)) + (gA G_1 1124 0 (x1 + (nI 0)).toNatClampNeg)).toNatClampNeg) + s0))
  tif (tin ((x1 + (nI 35)) + x2) 1403) (let G_3 := sA G_2 1124 0 (upd (gA G_2 1124 0) ((x1 + (nI 35)) + x2).toNatClampNeg (nI 1))
  some (some (vI s0), G_3)) none) none) none) none) none) none := (tgo 131 rfl sk_X11_spares rfl).trans rfl
