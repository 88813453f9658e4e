/-! the equations: X11c -/
def st_X11_sortOf : List (Nat × List Bool) := []
theorem sk_X11_sortOf : ∀ pc bs, tstop st_X11_sortOf pc = some bs → ∃ a, k_X11_sortOf pc = some (aMk bs a) := tstop_ok (fun _ h => absurd h List.not_mem_nil)
theorem e_X11_sortOf (x1 : Int32) (G : tH) : V_X11_sortOf x1 G = if tin ((20 : Int32) + ((2 : Int32) * x1)) 120 then some (some (vI (gA G 1110 0 ((20 : Int32) + ((2 : Int32) * x1)).toNatClampNeg)), G) else none := (tgo 14 rfl sk_X11_sortOf rfl).trans rfl
def st_X11_harvestOf : List (Nat × List Bool) := []
theorem sk_X11_harvestOf : ∀ pc bs, tstop st_X11_harvestOf pc = some bs → ∃ a, k_X11_harvestOf pc = some (aMk bs a) := tstop_ok (fun _ h => absurd h List.not_mem_nil)
theorem e_X11_harvestOf (x1 : Int32) (x2 : Int32) (G : tH) : V_X11_harvestOf x1 x2 G = if tin (((30 : Int32) + ((2 : Int32) * x1)) + x2) 120 then some (some (vI (gA G 1110 0 (((30 : Int32) + ((2 : Int32) * x1)) + x2).toNatClampNeg)), G) else none := (tgo 16 rfl sk_X11_harvestOf rfl).trans rfl
def st_X11_isTown : List (Nat × List Bool) := []
theorem sk_X11_isTown : ∀ pc bs, tstop st_X11_isTown pc = some bs → ∃ a, k_X11_isTown pc = some (aMk bs a) := tstop_ok (fun _ h => absurd h List.not_mem_nil)
theorem e_X11_isTown (x1 : Int32) (G : tH) : V_X11_isTown x1 G = if x1 < 0 then some (some (vI (0 : Int32)), G)
  else tbI (V_X11_towns G) (fun r_2 G_1 => if x1 < r_2 then some (some (vI (1 : Int32)), G_1)
  else some (some (vI (0 : Int32)), G_1)) := (tgo 15 rfl sk_X11_isTown rfl).trans rfl
def st_X11_isCompany : List (Nat × List Bool) := []
theorem sk_X11_isCompany : ∀ pc bs, tstop st_X11_isCompany pc = some bs → ∃ a, k_X11_isCompany pc = some (aMk bs a) := tstop_ok (fun _ h => absurd h List.not_mem_nil)
theorem e_X11_isCompany (x1 : Int32) (G : tH) : V_X11_isCompany x1 G = if x1 < 0 then some (some (vI (0 : Int32)), G)
  else tbI (V_X11_companies G) (fun r_2 G_1 => if x1 < r_2 then some (some (vI (1 : Int32)), G_1)
  else some (some (vI (0 : Int32)), G_1)) := (tgo 15 rfl sk_X11_isCompany rfl).trans rfl
def st_X11_isHarvest : List (Nat × List Bool) := []
theorem sk_X11_isHarvest : ∀ pc bs, tstop st_X11_isHarvest pc = some bs → ∃ a, k_X11_isHarvest pc = some (aMk bs a) := tstop_ok (fun _ h => absurd h List.not_mem_nil)
theorem e_X11_isHarvest (x1 : Int32) (G : tH) : V_X11_isHarvest x1 G = if x1 < 0 then some (some (vI (0 : Int32)), G)
  else tbI (V_X11_harvests G) (fun r_2 G_1 => if x1 < r_2 then some (some (vI (1 : Int32)), G_1)
  else some (some (vI (0 : Int32)), G_1)) := (tgo 15 rfl sk_X11_isHarvest rfl).trans rfl
def st_X11_isJuror : List (Nat × List Bool) := []
theorem sk_X11_isJuror : ∀ pc bs, tstop st_X11_isJuror pc = some bs → ∃ a, k_X11_isJuror pc = some (aMk bs a) := tstop_ok (fun _ h => absurd h List.not_mem_nil)
theorem e_X11_isJuror (x1 : Int32) (G : tH) : V_X11_isJuror x1 G = if x1 < 0 then some (some (vI (0 : Int32)), G)
  else tbI (V_X11_jurors G) (fun r_2 G_1 => if x1 < r_2 then some (some (vI (1 : Int32)), G_1)
  else some (some (vI (0 : Int32)), G_1)) := (tgo 15 rfl sk_X11_isJuror rfl).trans rfl
def st_X11_isHeld : List (Nat × List Bool) := []
theorem sk_X11_isHeld : ∀ pc bs, tstop st_X11_isHeld pc = some bs → ∃ a, k_X11_isHeld pc = some (aMk bs a) := tstop_ok (fun _ h => absurd h List.not_mem_nil)
theorem e_X11_isHeld (x1 : Int32) (G : tH) : V_X11_isHeld x1 G = if tin (x1 + (0 : Int32)) 1403 then (if (gA G 1124 0 (x1 + (0 : Int32)).toNatClampNeg) < 0 then some (some (vI (0 : Int32)), G)
  else some (some (vI (1 : Int32)), G)) else none := (tgo 16 rfl sk_X11_isHeld rfl).trans rfl
def st_X11_atMost : List (Nat × List Bool) := []
theorem sk_X11_atMost : ∀ pc bs, tstop st_X11_atMost pc = some bs → ∃ a, k_X11_atMost pc = some (aMk bs a) := tstop_ok (fun _ h => absurd h List.not_mem_nil)
theorem e_X11_atMost (x0 : Int32) (G : tH) : V_X11_atMost x0 G = if x0 < 0 then some (some (vI (0 : Int32)), G)
  else if (9999 : Int32) < x0 then some (some (vI (9999 : Int32)), G)
  else some (some (vI x0), G) := (tgo 16 rfl sk_X11_atMost rfl).trans rfl
def st_X11_cropOf : List (Nat × List Bool) := [(27, [false, false, false, false])]
theorem sk_X11_cropOf : ∀ pc bs, tstop st_X11_cropOf pc = some bs → ∃ a, k_X11_cropOf pc = some (aMk bs a) := tstop_ok (List.forall_mem_cons.mpr ⟨⟨_, rfl⟩, fun _ h => absurd h List.not_mem_nil⟩)
theorem e_X11_cropOf (x1 : Int32) (x2 : Int32) (x3 : Int32) (G : tH) : V_X11_cropOf x1 x2 x3 G = tbI (V_X11_harvestOf x3 (0 : Int32) G) (fun r_2 G_1 => tbI (V_X11_townOf x1 (0 : Int32) G_1) (fun r_4 G_3 => if r_4 = (3 : Int32) then V_X11_cropOf_27 (10 : Int32) ((x2 * r_2) / (100 : Int32)) G_3
  else V_X11_cropOf_27 (0 : Int32) ((x2 * r_2) / (100 : Int32)) G_3)) := (tgo 25 rfl sk_X11_cropOf rfl).trans rfl
theorem e_X11_cropOf_27 (s1 : Int32) (s0 : Int32) (G : tH) : V_X11_cropOf_27 s1 s0 G = tbI (V_X11_atMost (s0 + s1) G) (fun r_2 G_1 => some (some (vI r_2), G_1)) := (tgo 25 rfl sk_X11_cropOf rfl).trans rfl
def st_X11_titheOf : List (Nat × List Bool) := []
theorem sk_X11_titheOf : ∀ pc bs, tstop st_X11_titheOf pc = some bs → ∃ a, k_X11_titheOf pc = some (aMk bs a) := tstop_ok (fun _ h => absurd h List.not_mem_nil)
theorem e_X11_titheOf (x1 : Int32) (G : tH) : V_X11_titheOf x1 G = some (some (vI (((gA G 1110 0 (4 : Int32).toNatClampNeg) * x1) / (100 : Int32))), G) := (tgo 14 rfl sk_X11_titheOf rfl).trans rfl
def st_X11_lostBy : List (Nat × List Bool) := []
theorem sk_X11_lostBy : ∀ pc bs, tstop st_X11_lostBy pc = some bs → ∃ a, k_X11_lostBy pc = some (aMk bs a) := tstop_ok (fun _ h => absurd h List.not_mem_nil)
theorem e_X11_lostBy (x1 : Int32) (x2 : Int32) (G : tH) : V_X11_lostBy x1 x2 G = tbI (V_X11_townOf x1 (0 : Int32) G) (fun r_2 G_1 => if r_2 = (2 : Int32) then some (some (vI x2), G_1)
  else if r_2 = (1 : Int32) then some (some (vI (x2 / (4 : Int32))), G_1)
  else some (some (vI (x2 / (2 : Int32))), G_1)) := (tgo 26 rfl sk_X11_lostBy rfl).trans rfl
def st_X11_over : List (Nat × List Bool) := []
theorem sk_X11_over : ∀ pc bs, tstop st_X11_over pc = some bs → ∃ a, k_X11_over pc = some (aMk bs a) := tstop_ok (fun _ h => absurd h List.not_mem_nil)
theorem e_X11_over (x0 : Int32) (x1 : Int32) (G : tH) : V_X11_over x0 x1 G = if x1 < x0 then some (some (vI (x0 - x1)), G)
  else some (some (vI (0 : Int32)), G) := (tgo 14 rfl sk_X11_over rfl).trans rfl
def st_X11_mayBid : List (Nat × List Bool) := []
theorem sk_X11_mayBid : ∀ pc bs, tstop st_X11_mayBid pc = some bs → ∃ a, k_X11_mayBid pc = some (aMk bs a) := tstop_ok (fun _ h => absurd h List.not_mem_nil)
theorem e_X11_mayBid (x1 : Int32) (x2 : Int32) (x3 : Int32) (G : tH) : V_X11_mayBid x1 x2 x3 G = tbI (V_X11_isHeld x1 G) (fun r_2 G_1 => if r_2 = 0 then (if tin ((x1 + (41 : Int32)) + x2) 1403 then (if (gA G_1 1124 0 ((x1 + (41 : Int32)) + x2).toNatClampNeg) < x3 then some (some (vI (0 : Int32)), G_1)
  else some (some (vI (1 : Int32)), G_1)) else none)
  else some (some (vI (0 : Int32)), G_1)) := (tgo 23 rfl sk_X11_mayBid rfl).trans rfl
def st_X11_highest : List (Nat × List Bool) := [(4, [true, true, true, true, false]), (55, [true, true, true, true, false]), (59, [true, true, true, true, false]), (60, [true, true, true, true, false])]
theorem sk_X11_highest : ∀ pc bs, tstop st_X11_highest pc = some bs → ∃ a, k_X11_highest pc = some (aMk bs a) := tstop_ok (List.forall_mem_cons.mpr ⟨⟨_, rfl⟩, List.forall_mem_cons.mpr ⟨⟨_, rfl⟩, List.forall_mem_cons.mpr ⟨⟨_, rfl⟩, List.forall_mem_cons.mpr ⟨⟨_, rfl⟩, fun _ h => absurd h List.not_mem_nil⟩⟩⟩⟩)
theorem e_X11_highest (x1 : Int32) (G : tH) : V_X11_highest x1 G = V_X11_highest_4 x1 (-1 : Int32) (0 : Int32) G := (tgo 55 rfl sk_X11_highest rfl).trans rfl
theorem e_X11_highest_4 (x1 : Int32) (x2 : Int32) (x3 : Int32) (G : tH) : V_X11_highest_4 x1 x2 x3 G = tbI (V_X11_companies G) (fun r_2 G_1 => if x3 < r_2 then (if tin ((x1 + (46 : Int32)) + x3) 1403 then (if 0 < (gA G_1 1124 0 ((x1 + (46 : Int32)) + x3).toNatClampNeg) then (if x2 < 0 then V_X11_highest_55 x1 x2 x3 G_1
  else if tin ((x1 + (46 : Int32)) + x3) 1403 then (if tin ((x1 + (46 : Int32)) + x2) 1403 then (if (gA G_1 1124 0 ((x1 + (46 : Int32)) + x2).toNatClampNeg) < (gA G_1 1124 0 ((x1 + (46 : Int32)) + x3).toNatClampNeg) then V_X11_highest_55 x1 x2 x3 G_1
  else V_X11_highest_59 x1 x2 x3 G_1) else none) else none)
  else V_X11_highest_59 x1 x2 x3 G_1) else none)
  else some (some (vI x2), G_1)) := (tgo 55 rfl sk_X11_highest rfl).trans rfl
theorem e_X11_highest_55 (x1 : Int32) (x2 : Int32) (x3 : Int32) (G : tH) : V_X11_highest_55 x1 x2 x3 G = V_X11_highest_60 x1 x2 x3 (1 : Int32) G := (tgo 55 rfl sk_X11_highest rfl).trans rfl
theorem e_X11_highest_59 (x1 : Int32) (x2 : Int32) (x3 : Int32) (G : tH) : V_X11_highest_59 x1 x2 x3 G = V_X11_highest_60 x1 x2 x3 (0 : Int32) G := (tgo 55 rfl sk_X11_highest rfl).trans rfl
theorem e_X11_highest_60 (x1 : Int32) (x2 : Int32) (x3 : Int32) (s0 : Int32) (G : tH) : V_X11_highest_60 x1 x2 x3 s0 G = if s0 = 0 then V_X11_highest_4 x1 x2 (x3 + (1 : Int32)) G
  else V_X11_highest_4 x1 x3 (x3 + (1 : Int32)) G := (tgo 55 rfl sk_X11_highest rfl).trans rfl
def st_X11_mayAward : List (Nat × List Bool) := []
theorem sk_X11_mayAward : ∀ pc bs, tstop st_X11_mayAward pc = some bs → ∃ a, k_X11_mayAward pc = some (aMk bs a) := tstop_ok (fun _ h => absurd h List.not_mem_nil)
theorem e_X11_mayAward (x1 : Int32) (G : tH) : V_X11_mayAward x1 G = tbI (V_X11_isHeld x1 G) (fun r_2 G_1 => if r_2 = 0 then (tbI (V_X11_highest x1 G_1) (fun r_4 G_3 => if r_4 < 0 then some (some (vI (0 : Int32)), G_3)
  else some (some (vI (1 : Int32)), G_3)))
  else some (some (vI (0 : Int32)), G_1)) := (tgo 17 rfl sk_X11_mayAward rfl).trans rfl
def st_X11_awards : List (Nat × List Bool) := [(44, [true, true, true, false, false]), (90, [true, true, false, false, false]), (111, [true, true, false, false, true])]
theorem sk_X11_awards : ∀ pc bs, tstop st_X11_awards pc = some bs → ∃ a, k_X11_awards pc = some (aMk bs a) := tstop_ok (List.forall_mem_cons.mpr ⟨⟨_, rfl⟩, List.forall_mem_cons.mpr ⟨⟨_, rfl⟩, List.forall_mem_cons.mpr ⟨⟨_, rfl⟩, fun _ h => absurd h List.not_mem_nil⟩⟩⟩)
theorem e_X11_awards (x1 : Int32) (G : tH) : V_X11_awards x1 G = tbI (V_X11_highest x1 G) (fun r_2 G_1 => tbI (V_X11_sortOf r_2 G_1) (fun r_4 G_3 => if r_4 = (2 : Int32) then (if tin ((x1 + (46 : Int32)) + r_2) 1403 then V_X11_awards_44 x1 r_2 (((3 : Int32) * (gA G_3 1124 0 ((x1 + (46 : Int32)) + r_2).toNatClampNeg)) / (4 : Int32)) G_3 else none)
  else if tin ((x1 + (46 : Int32)) + r_2) 1403 then V_X11_awards_44 x1 r_2 (gA G_3 1124 0 ((x1 + (46 : Int32)) + r_2).toNatClampNeg) G_3 else none)) := (tgo 116 rfl sk_X11_awards rfl).trans rfl
theorem e_X11_awards_44 (x1 : Int32) (x2 : Int32) (s0 : Int32) (G : tH) : V_X11_awards_44 x1 x2 s0 G = tbI (V_X11_sortOf x2 G) (fun r_2 G_1 => if r_2 = (1 : Int32) then V_X11_awards_90 x1 G_1
  else if tin (x1 + (0 : Int32)) 1403 then (let G_3 := sA G_1 1124 0 (upd (gA G_1 1124 0) (x1 + (0 : Int32)).toNatClampNeg x2)
  if tin ((x1 + (41 : Int32)) + x2) 1403 then (if tin ((x1 + (41 : Int32)) + x2) 1403 then (let G_4 := sA G_3 1124 0 (upd (gA G_3 1124 0) ((x1 + (41 : Int32)) + x2).toNatClampNeg ((gA G_3 1124 0 ((x1 + (41 : Int32)) + x2).toNatClampNeg) - s0))
  if tin (x1 + (3 : Int32)) 1403 then (if tin (x1 + (3 : Int32)) 1403 then (let G_5 := sA G_4 1124 0 (upd (gA G_4 1124 0) (x1 + (3 : Int32)).toNatClampNeg ((gA G_4 1124 0 (x1 + (3 : Int32)).toNatClampNeg) + s0))
  V_X11_awards_90 x1 G_5) else none) else none) else none) else none) else none) := (tgo 116 rfl sk_X11_awards rfl).trans rfl
theorem e_X11_awards_90 (x1 : Int32) (G : tH) : V_X11_awards_90 x1 G = if tin (x1 + (1 : Int32)) 1403 then (let G_1 := sA G 1124 0 (upd (gA G 1124 0) (x1 + (1 : Int32)).toNatClampNeg (0 : Int32))
  if tin (x1 + (2 : Int32)) 1403 then (let G_2 := sA G_1 1124 0 (upd (gA G_1 1124 0) (x1 + (2 : Int32)).toNatClampNeg (0 : Int32))
  V_X11_awards_111 x1 (0 : Int32) G_2) else none) else none := (tgo 116 rfl sk_X11_awards rfl).trans rfl
theorem e_X11_awards_111 (x1 : Int32) (x4 : Int32) (G : tH) : V_X11_awards_111 x1 x4 G = if x4 < (5 : Int32) then (if tin ((x1 + (46 : Int32)) + x4) 1403 then (let G_1 := sA G 1124 0 (upd (gA G 1124 0) ((x1 + (46 : Int32)) + x4).toNatClampNeg (0 : Int32))
  if tin ((x1 + (51 : Int32)) + x4) 1403 then (let G_2 := sA G_1 1124 0 (upd (gA G_1 1124 0) ((x1 + (51 : Int32)) + x4).toNatClampNeg (0 : Int32))
  V_X11_awards_111 x1 (x4 + (1 : Int32)) G_2) else none) else none)
  else if tin (x1 + (0 : Int32)) 1403 then some (some (vI (gA G 1124 0 (x1 + (0 : Int32)).toNatClampNeg)), G) else none := (tgo 116 rfl sk_X11_awards rfl).trans rfl
def st_X11_mayYear : List (Nat × List Bool) := []
theorem sk_X11_mayYear : ∀ pc bs, tstop st_X11_mayYear pc = some bs → ∃ a, k_X11_mayYear pc = some (aMk bs a) := tstop_ok (fun _ h => absurd h List.not_mem_nil)
theorem e_X11_mayYear (x1 : Int32) (G : tH) : V_X11_mayYear x1 G = tbI (V_X11_isHeld x1 G) (fun r_2 G_1 => if r_2 = 0 then some (some (vI (0 : Int32)), G_1)
  else if tin (x1 + (1 : Int32)) 1403 then (if (gA G_1 1124 0 (x1 + (1 : Int32)).toNatClampNeg) < (5 : Int32) then some (some (vI (1 : Int32)), G_1)
  else some (some (vI (0 : Int32)), G_1)) else none) := (tgo 21 rfl sk_X11_mayYear rfl).trans rfl
def st_X11_yearBy : List (Nat × List Bool) := [(5, [true, true, true, true, true, false]), (132, [true, true, true, true, true, true])]
theorem sk_X11_yearBy : ∀ pc bs, tstop st_X11_yearBy pc = some bs → ∃ a, k_X11_yearBy pc = some (aMk bs a) := tstop_ok (List.forall_mem_cons.mpr ⟨⟨_, rfl⟩, List.forall_mem_cons.mpr ⟨⟨_, rfl⟩, fun _ h => absurd h List.not_mem_nil⟩⟩)
theorem e_X11_yearBy (x1 : Int32) (x2 : Int32) (G : tH) : V_X11_yearBy x1 x2 G = V_X11_yearBy_5 x1 x2 (0 : Int32) (0 : Int32) G := (tgo 172 rfl sk_X11_yearBy rfl).trans rfl
theorem e_X11_yearBy_5 (x1 : Int32) (x2 : Int32) (x3 : Int32) (x4 : Int32) (G : tH) : V_X11_yearBy_5 x1 x2 x3 x4 G = tbI (V_X11_towns G) (fun r_2 G_1 => if x4 < r_2 then (if tin ((x1 + (5 : Int32)) + x4) 1403 then (if tin ((x1 + (11 : Int32)) + x4) 1403 then (tbI (V_X11_atMost ((gA G_1 1124 0 ((x1 + (5 : Int32)) + x4).toNatClampNeg) + ((gA G_1 1124 0 ((x1 + (11 : Int32)) + x4).toNatClampNeg) / (2 : Int32))) G_1) (fun r_4 G_3 => if tin ((x1 + (5 : Int32)) + x4) 1403 then (let G_5 := sA G_3 1124 0 (upd (gA G_3 1124 0) ((x1 + (5 : Int32)) + x4).toNatClampNeg r_4)
  let G_6 := sA G_5 1122 0 (upd (gA G_5 1122 0) (0 : Int32).toNatClampNeg r_4)
  let G_7 := sA G_6 1122 0 (upd (gA G_6 1122 0) (1 : Int32).toNatClampNeg (0 : Int32))
  if tin ((x1 + (29 : Int32)) + x4) 1403 then (let G_8 := sA G_7 1122 0 (upd (gA G_7 1122 0) (2 : Int32).toNatClampNeg (gA G_7 1124 0 ((x1 + (29 : Int32)) + x4).toNatClampNeg))
  if (gA G_8 1110 0 (7 : Int32).toNatClampNeg) < 0 then V_X11_yearBy_132 x1 x2 x3 x4 r_4 (gA G_8 1122 0 (2 : Int32).toNatClampNeg) ((x1 + (29 : Int32)) + x4) G_8
  else tbI (V_X11_worthAt (gA G_8 1110 0 (7 : Int32).toNatClampNeg) G_8) (fun r_10 G_9 => V_X11_yearBy_132 x1 x2 x3 x4 r_4 r_10 ((x1 + (29 : Int32)) + x4) G_9)) else none) else none)) else none) else none)
  else if tin (x1 + (1 : Int32)) 1403 then (if tin (x1 + (1 : Int32)) 1403 then (let G_11 := sA G_1 1124 0 (upd (gA G_1 1124 0) (x1 + (1 : Int32)).toNatClampNeg ((gA G_1 1124 0 (x1 + (1 : Int32)).toNatClampNeg) + (1 : Int32)))
  if tin (x1 + (4 : Int32)) 1403 then (if tin (x1 + (4 : Int32)) 1403 then (let G_12 := sA G_11 1124 0 (upd (gA G_11 1124 0) (x1 + (4 : Int32)).toNatClampNeg ((gA G_11 1124 0 (x1 + (4 : Int32)).toNatClampNeg) + (1 : Int32)))
  some (some (vI x3), G_12)) else none) else none) else none) else none) := (tgo 172 rfl sk_X11_yearBy rfl).trans rfl
theorem e_X11_yearBy_132 (x1 : Int32) (x2 : Int32) (x3 : Int32) (x4 : Int32) (x5 : Int32) (s2 : Int32) (s1 : Int32) (G : tH) : V_X11_yearBy_132 x1 x2 x3 x4 x5 s2 s1 G = tbI (V_X11_atMost s2 G) (fun r_2 G_1 => if tin s1 1403 then (let G_3 := sA G_1 1124 0 (upd (gA G_1 1124 0) s1.toNatClampNeg r_2)
  tbI (V_X11_cropOf x4 x5 x2 G_3) (fun r_5 G_4 => if tin ((x1 + (17 : Int32)) + x4) 1403 then (let G_6 := sA G_4 1124 0 (upd (gA G_4 1124 0) ((x1 + (17 : Int32)) + x4).toNatClampNeg r_5)
  if tin ((x1 + (17 : Int32)) + x4) 1403 then (if tin ((x1 + (11 : Int32)) + x4) 1403 then (let G_7 := sA G_6 1124 0 (upd (gA G_6 1124 0) ((x1 + (11 : Int32)) + x4).toNatClampNeg (gA G_6 1124 0 ((x1 + (17 : Int32)) + x4).toNatClampNeg))
  if tin ((x1 + (23 : Int32)) + x4) 1403 then (let G_8 := sA G_7 1124 0 (upd (gA G_7 1124 0) ((x1 + (23 : Int32)) + x4).toNatClampNeg (0 : Int32))
  if tin ((x1 + (35 : Int32)) + x4) 1403 then (let G_9 := sA G_8 1124 0 (upd (gA G_8 1124 0) ((x1 + (35 : Int32)) + x4).toNatClampNeg (0 : Int32))
  if tin ((x1 + (17 : Int32)) + x4) 1403 then V_X11_yearBy_5 x1 x2 (x3 + (gA G_9 1124 0 ((x1 + (17 : Int32)) + x4).toNatClampNeg)) (x4 + (1 : Int32)) G_9 else none) else none) else none) else none) else none) else none)) else none) := (tgo 172 rfl sk_X11_yearBy rfl).trans rfl
def st_X11_mayTake : List (Nat × List Bool) := []
theorem sk_X11_mayTake : ∀ pc bs, tstop st_X11_mayTake pc = some bs → ∃ a, k_X11_mayTake pc = some (aMk bs a) := tstop_ok (fun _ h => absurd h List.not_mem_nil)
theorem e_X11_mayTake (x1 : Int32) (x2 : Int32) (x3 : Int32) (G : tH) : V_X11_mayTake x1 x2 x3 G = tbI (V_X11_isHeld x1 G) (fun r_2 G_1 => if r_2 = 0 then some (some (vI (0 : Int32)), G_1)
  else if tin ((x1 + (35 : Int32)) + x2) 1403 then (if (gA G_1 1124 0 ((x1 + (35 : Int32)) + x2).toNatClampNeg) = 0 then (if 0 < x3 then (if tin ((x1 + (11 : Int32)) + x2) 1403 then (if (gA G_1 1124 0 ((x1 + (11 : Int32)) + x2).toNatClampNeg) < x3 then some (some (vI (0 : Int32)), G_1)
  else some (some (vI (1 : Int32)), G_1)) else none)
  else some (some (vI (0 : Int32)), G_1))
  else some (some (vI (0 : Int32)), G_1)) else none) := (tgo 34 rfl sk_X11_mayTake rfl).trans rfl
def st_X11_takes : List (Nat × List Bool) := []
theorem sk_X11_takes : ∀ pc bs, tstop st_X11_takes pc = some bs → ∃ a, k_X11_takes pc = some (aMk bs a) := tstop_ok (fun _ h => absurd h List.not_mem_nil)
theorem e_X11_takes (x1 : Int32) (x2 : Int32) (x3 : Int32) (G : tH) : V_X11_takes x1 x2 x3 G = if tin ((x1 + (17 : Int32)) + x2) 1403 then (tbI (V_X11_titheOf (gA G 1124 0 ((x1 + (17 : Int32)) + x2).toNatClampNeg) G) (fun r_2 G_1 => if tin ((x1 + (23 : Int32)) + x2) 1403 then (tbI (V_X11_over (gA G_1 1124 0 ((x1 + (23 : Int32)) + x2).toNatClampNeg) r_2 G_1) (fun r_4 G_3 => if tin ((x1 + (23 : Int32)) + x2) 1403 then (if tin ((x1 + (23 : Int32)) + x2) 1403 then (let G_5 := sA G_3 1124 0 (upd (gA G_3 1124 0) ((x1 + (23 : Int32)) + x2).toNatClampNeg ((gA G_3 1124 0 ((x1 + (23 : Int32)) + x2).toNatClampNeg) + x3))
  if tin ((x1 + (11 : Int32)) + x2) 1403 then (if tin ((x1 + (11 : Int32)) + x2) 1403 then (let G_6 := sA G_5 1124 0 (upd (gA G_5 1124 0) ((x1 + (11 : Int32)) + x2).toNatClampNeg ((gA G_5 1124 0 ((x1 + (11 : Int32)) + x2).toNatClampNeg) - x3))
  if tin (x1 + (0 : Int32)) 1403 then (if tin ((x1 + (41 : Int32)) + (gA G_6 1124 0 (x1 + (0 : Int32)).toNatClampNeg)) 1403 then (if tin ((x1 + (41 : Int32)) + (gA G_6 1124 0 (x1 + (0 : Int32)).toNatClampNeg)) 1403 then (let G_7 := sA G_6 1124 0 (upd (gA G_6 1124 0) ((x1 + (41 : Int32)) + (gA G_6 1124 0 (x1 + (0 : Int32)).toNatClampNeg)).toNatClampNeg ((gA G_6 1124 0 ((x1 + (41 : Int32)) + (gA G_6 1124 0 (x1 + (0 : Int32)).toNatClampNeg)).toNatClampNeg) + x3))
  if tin ((x1 + (23 : Int32)) + x2) 1403 then (tbI (V_X11_over (gA G_7 1124 0 ((x1 + (23 : Int32)) + x2).toNatClampNeg) r_2 G_7) (fun r_9 G_8 => if tin (x1 + (2 : Int32)) 1403 then (if tin (x1 + (2 : Int32)) 1403 then (let G_10 := sA G_8 1124 0 (upd (gA G_8 1124 0) (x1 + (2 : Int32)).toNatClampNeg ((gA G_8 1124 0 (x1 + (2 : Int32)).toNatClampNeg) + (r_9 - r_4)))
  if tin ((x1 + (5 : Int32)) + x2) 1403 then (tbI (V_X11_lostBy x2 (r_9 - r_4) G_10) (fun r_12 G_11 => tbI (V_X11_atMost ((gA G_10 1124 0 ((x1 + (5 : Int32)) + x2).toNatClampNeg) - r_12) G_11) (fun r_14 G_13 => if tin ((x1 + (5 : Int32)) + x2) 1403 then (let G_15 := sA G_13 1124 0 (upd (gA G_13 1124 0) ((x1 + (5 : Int32)) + x2).toNatClampNeg r_14)
  some (some (vI (r_9 - r_4)), G_15)) else none))) else none) else none) else none)) else none) else none) else none) else none) else none) else none) else none) else none)) else none)) else none := (tgo 115 rfl sk_X11_takes rfl).trans rfl
def st_X11_mayLend : List (Nat × List Bool) := []
theorem sk_X11_mayLend : ∀ pc bs, tstop st_X11_mayLend pc = some bs → ∃ a, k_X11_mayLend pc = some (aMk bs a) := tstop_ok (fun _ h => absurd h List.not_mem_nil)
theorem e_X11_mayLend (x1 : Int32) (x2 : Int32) (G : tH) : V_X11_mayLend x1 x2 G = tbI (V_X11_isHeld x1 G) (fun r_2 G_1 => if r_2 = 0 then some (some (vI (0 : Int32)), G_1)
  else if tin (x1 + (0 : Int32)) 1403 then (if tin ((x1 + (41 : Int32)) + (gA G_1 1124 0 (x1 + (0 : Int32)).toNatClampNeg)) 1403 then (if (gA G_1 1124 0 ((x1 + (41 : Int32)) + (gA G_1 1124 0 (x1 + (0 : Int32)).toNatClampNeg)).toNatClampNeg) < x2 then some (some (vI (0 : Int32)), G_1)
  else some (some (vI (1 : Int32)), G_1)) else none) else none) := (tgo 28 rfl sk_X11_mayLend rfl).trans rfl
def st_X11_lends : List (Nat × List Bool) := []
theorem sk_X11_lends : ∀ pc bs, tstop st_X11_lends pc = some bs → ∃ a, k_X11_lends pc = some (aMk bs a) := tstop_ok (fun _ h => absurd h List.not_mem_nil)
theorem e_X11_lends (x1 : Int32) (x2 : Int32) (x3 : Int32) (G : tH) : V_X11_lends x1 x2 x3 G = if tin (x1 + (0 : Int32)) 1403 then (if tin ((x1 + (41 : Int32)) + (gA G 1124 0 (x1 + (0 : Int32)).toNatClampNeg)) 1403 then (if tin ((x1 + (41 : Int32)) + (gA G 1124 0 (x1 + (0 : Int32)).toNatClampNeg)) 1403 then (let G_1 := sA G 1124 0 (upd (gA G 1124 0) ((x1 + (41 : Int32)) + (gA G 1124 0 (x1 + (0 : Int32)).toNatClampNeg)).toNatClampNeg ((gA G 1124 0 ((x1 + (41 : Int32)) + (gA G 1124 0 (x1 + (0 : Int32)).toNatClampNeg)).toNatClampNeg) - x3))
  if tin ((x1 + (5 : Int32)) + x2) 1403 then (tbI (V_X11_atMost ((gA G_1 1124 0 ((x1 + (5 : Int32)) + x2).toNatClampNeg) + x3) G_1) (fun r_3 G_2 => if tin ((x1 + (5 : Int32)) + x2) 1403 then (let G_4 := sA G_2 1124 0 (upd (gA G_2 1124 0) ((x1 + (5 : Int32)) + x2).toNatClampNeg r_3)
  if tin ((x1 + (29 : Int32)) + x2) 1403 then (tbI (V_X11_atMost ((gA G_4 1124 0 ((x1 + (29 : Int32)) + x2).toNatClampNeg) + x3) G_4) (fun r_6 G_5 => if tin ((x1 + (29 : Int32)) + x2) 1403 then (let G_7 := sA G_5 1124 0 (upd (gA G_5 1124 0) ((x1 + (29 : Int32)) + x2).toNatClampNeg r_6)
  if tin ((x1 + (29 : Int32)) + x2) 1403 then some (some (vI (gA G_7 1124 0 ((x1 + (29 : Int32)) + x2).toNatClampNeg)), G_7) else none) else none)) else none) else none)) else none) else none) else none) else none := (tgo 69 rfl sk_X11_lends rfl).trans rfl
def st_X11_mayCall : List (Nat × List Bool) := []
theorem sk_X11_mayCall : ∀ pc bs, tstop st_X11_mayCall pc = some bs → ∃ a, k_X11_mayCall pc = some (aMk bs a) := tstop_ok (fun _ h => absurd h List.not_mem_nil)
theorem e_X11_mayCall (x1 : Int32) (x2 : Int32) (x3 : Int32) (G : tH) : V_X11_mayCall x1 x2 x3 G = tbI (V_X11_isHeld x1 G) (fun r_2 G_1 => if r_2 = 0 then some (some (vI (0 : Int32)), G_1)
  else if tin ((x1 + (29 : Int32)) + x2) 1403 then (if (gA G_1 1124 0 ((x1 + (29 : Int32)) + x2).toNatClampNeg) < x3 then some (some (vI (0 : Int32)), G_1)
  else if tin ((x1 + (5 : Int32)) + x2) 1403 then (if (gA G_1 1124 0 ((x1 + (5 : Int32)) + x2).toNatClampNeg) < x3 then some (some (vI (0 : Int32)), G_1)
  else some (some (vI (1 : Int32)), G_1)) else none) else none) := (tgo 33 rfl sk_X11_mayCall rfl).trans rfl
def st_X11_calls : List (Nat × List Bool) := []
theorem sk_X11_calls : ∀ pc bs, tstop st_X11_calls pc = some bs → ∃ a, k_X11_calls pc = some (aMk bs a) := tstop_ok (fun _ h => absurd h List.not_mem_nil)
theorem e_X11_calls (x1 : Int32) (x2 : Int32) (x3 : Int32) (G : tH) : V_X11_calls x1 x2 x3 G = if tin (x1 + (0 : Int32)) 1403 then (if tin ((x1 + (41 : Int32)) + (gA G 1124 0 (x1 + (0 : Int32)).toNatClampNeg)) 1403 then (if tin ((x1 + (41 : Int32)) + (gA G 1124 0 (x1 + (0 : Int32)).toNatClampNeg)) 1403 then (let G_1 := sA G 1124 0 (upd (gA G 1124 0) ((x1 + (41 : Int32)) + (gA G 1124 0 (x1 + (0 : Int32)).toNatClampNeg)).toNatClampNeg ((gA G 1124 0 ((x1 + (41 : Int32)) + (gA G 1124 0 (x1 + (0 : Int32)).toNatClampNeg)).toNatClampNeg) + x3))
  if tin ((x1 + (5 : Int32)) + x2) 1403 then (if tin ((x1 + (5 : Int32)) + x2) 1403 then (let G_2 := sA G_1 1124 0 (upd (gA G_1 1124 0) ((x1 + (5 : Int32)) + x2).toNatClampNeg ((gA G_1 1124 0 ((x1 + (5 : Int32)) + x2).toNatClampNeg) - x3))
  if tin ((x1 + (29 : Int32)) + x2) 1403 then (if tin ((x1 + (29 : Int32)) + x2) 1403 then (let G_3 := sA G_2 1124 0 (upd (gA G_2 1124 0) ((x1 + (29 : Int32)) + x2).toNatClampNeg ((gA G_2 1124 0 ((x1 + (29 : Int32)) + x2).toNatClampNeg) - x3))
  if tin ((x1 + (29 : Int32)) + x2) 1403 then some (some (vI (gA G_3 1124 0 ((x1 + (29 : Int32)) + x2).toNatClampNeg)), G_3) else none) else none) else none) else none) else none) else none) else none) else none := (tgo 55 rfl sk_X11_calls rfl).trans rfl
def st_X11_maySpare : List (Nat × List Bool) := []
theorem sk_X11_maySpare : ∀ pc bs, tstop st_X11_maySpare pc = some bs → ∃ a, k_X11_maySpare pc = some (aMk bs a) := tstop_ok (fun _ h => absurd h List.not_mem_nil)
theorem e_X11_maySpare (x1 : Int32) (x2 : Int32) (G : tH) : V_X11_maySpare x1 x2 G = tbI (V_X11_isHeld x1 G) (fun r_2 G_1 => if r_2 = 0 then some (some (vI (0 : Int32)), G_1)
  else if tin ((x1 + (35 : Int32)) + x2) 1403 then (if (gA G_1 1124 0 ((x1 + (35 : Int32)) + x2).toNatClampNeg) = 0 then some (some (vI (1 : Int32)), G_1)
  else some (some (vI (0 : Int32)), G_1)) else none) := (tgo 22 rfl sk_X11_maySpare rfl).trans rfl
def st_X11_spares : List (Nat × List Bool) := [(76, [true, true, true, false]), (99, [true, true, true, false]), (117, [true, true, true, false]), (138, [true, true, true, false])]
theorem sk_X11_spares : ∀ pc bs, tstop st_X11_spares pc = some bs → ∃ a, k_X11_spares pc = some (aMk bs a) := tstop_ok (List.forall_mem_cons.mpr ⟨⟨_, rfl⟩, List.forall_mem_cons.mpr ⟨⟨_, rfl⟩, List.forall_mem_cons.mpr ⟨⟨_, rfl⟩, List.forall_mem_cons.mpr ⟨⟨_, rfl⟩, fun _ h => absurd h List.not_mem_nil⟩⟩⟩⟩)
theorem e_X11_spares (x1 : Int32) (x2 : Int32) (G : tH) : V_X11_spares x1 x2 G = if tin ((x1 + (5 : Int32)) + x2) 1403 then (let G_1 := sA G 1122 0 (upd (gA G 1122 0) (0 : Int32).toNatClampNeg (gA G 1124 0 ((x1 + (5 : Int32)) + x2).toNatClampNeg))
  if tin ((x1 + (11 : Int32)) + x2) 1403 then (let G_2 := sA G_1 1122 0 (upd (gA G_1 1122 0) (1 : Int32).toNatClampNeg (gA G_1 1124 0 ((x1 + (11 : Int32)) + x2).toNatClampNeg))
  if tin ((x1 + (29 : Int32)) + x2) 1403 then (let G_3 := sA G_2 1122 0 (upd (gA G_2 1122 0) (2 : Int32).toNatClampNeg (gA G_2 1124 0 ((x1 + (29 : Int32)) + x2).toNatClampNeg))
  if (gA G_3 1110 0 (6 : Int32).toNatClampNeg) < 0 then V_X11_spares_76 x1 x2 (20 : Int32) G_3
  else tbI (V_X11_worthAt (gA G_3 1110 0 (6 : Int32).toNatClampNeg) G_3) (fun r_5 G_4 => V_X11_spares_76 x1 x2 r_5 G_4)) else none) else none) else none := (tgo 131 rfl sk_X11_spares rfl).trans rfl
theorem e_X11_spares_76 (x1 : Int32) (x2 : Int32) (s0 : Int32) (G : tH) : V_X11_spares_76 x1 x2 s0 G = if s0 < 0 then V_X11_spares_99 x1 x2 (0 : Int32) G
  else if (9999 : Int32) < s0 then V_X11_spares_99 x1 x2 (9999 : Int32) G
  else V_X11_spares_99 x1 x2 s0 G := (tgo 131 rfl sk_X11_spares rfl).trans rfl
theorem e_X11_spares_99 (x1 : Int32) (x2 : Int32) (s0 : Int32) (G : tH) : V_X11_spares_99 x1 x2 s0 G = tbI (V_X11_townOf x2 (0 : Int32) G) (fun r_2 G_1 => if r_2 = (1 : Int32) then V_X11_spares_117 x1 x2 ((2 : Int32) * s0) G_1
  else V_X11_spares_117 x1 x2 s0 G_1) := (tgo 131 rfl sk_X11_spares rfl).trans rfl
theorem e_X11_spares_117 (x1 : Int32) (x2 : Int32) (s0 : Int32) (G : tH) : V_X11_spares_117 x1 x2 s0 G = if (gA G 1122 0 (0 : Int32).toNatClampNeg) < s0 then V_X11_spares_138 x1 x2 (gA G 1122 0 (0 : Int32).toNatClampNeg) G
  else V_X11_spares_138 x1 x2 s0 G := (tgo 131 rfl sk_X11_spares rfl).trans rfl
theorem e_X11_spares_138 (x1 : Int32) (x2 : Int32) (s0 : Int32) (G : tH) : V_X11_spares_138 x1 x2 s0 G = if tin ((x1 + (5 : Int32)) + x2) 1403 then (if tin ((x1 + (5 : Int32)) + x2) 1403 then (let G_1 := sA G 1124 0 (upd (gA G 1124 0) ((x1 + (5 : Int32)) + x2).toNatClampNeg ((gA G 1124 0 ((x1 + (5 : Int32)) + x2).toNatClampNeg) - s0))
  if tin (x1 + (0 : Int32)) 1403 then (if tin ((x1 + (41 : Int32)) + (gA G_1 1124 0 (x1 + (0 : Int32)).toNatClampNeg)) 1403 then (if tin ((x1 + (41 : Int32)) + (gA G_1 1124 0 (x1 + (0 : Int32)).toNatClampNeg)) 1403 then (let G_2 := sA G_1 1124 0 (upd (gA G_1 1124 0) ((x1 + (41 : Int32)) + (gA G_1 1124 0 (x1 + (0 : Int32)).toNatClampNeg)).toNatClampNeg ((gA G_1 1124 0 ((x1 + (41 : Int32)) + (gA G_1 1124 0 (x1 + (0 : Int32)).toNatClampNeg)).toNatClampNeg) + s0))
  if tin ((x1 + (35 : Int32)) + x2) 1403 then (let G_3 := sA G_2 1124 0 (upd (gA G_2 1124 0) ((x1 + (35 : Int32)) + x2).toNatClampNeg (1 : Int32))
  some (some (vI s0), G_3)) else none) else none) else none) else none) else none) else none := (tgo 131 rfl sk_X11_spares rfl).trans rfl
