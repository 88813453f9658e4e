/-! the equations: X11e -/
def st_X11_tithesBy : List (Nat × List Bool) := [(4, [true, true, true, true, false]), (33, [true, true, true, true, false])]
theorem sk_X11_tithesBy : ∀ pc bs, tstop st_X11_tithesBy pc = some bs → ∃ a, k_X11_tithesBy pc = some (aMk bs a) := tstop_ok (List.forall_mem_cons.mpr ⟨⟨_, rfl⟩, List.forall_mem_cons.mpr ⟨⟨_, rfl⟩, fun _ h => absurd h List.not_mem_nil⟩⟩)
theorem e_X11_tithesBy (x1 : Int32) (G : tH) : V_X11_tithesBy x1 G = V_X11_tithesBy_4 x1 (0 : Int32) (0 : Int32) G := (tgo 55 rfl sk_X11_tithesBy rfl).trans rfl
theorem e_X11_tithesBy_4 (x1 : Int32) (x2 : Int32) (x3 : Int32) (G : tH) : V_X11_tithesBy_4 x1 x2 x3 G = tbI (V_X11_towns G) (fun r_2 G_1 => if x3 < r_2 then (if tin ((5 : Int32) + x3) 1403 then (if x3 = (gI G_1 1127 (0)) then V_X11_tithesBy_33 x1 x2 x3 (1 : Int32) (gA G_1 1124 0 ((5 : Int32) + x3).toNatClampNeg) G_1
  else V_X11_tithesBy_33 x1 x2 x3 (0 : Int32) (gA G_1 1124 0 ((5 : Int32) + x3).toNatClampNeg) G_1) else none)
  else some (some (vI x2), G_1)) := (tgo 55 rfl sk_X11_tithesBy rfl).trans rfl
theorem e_X11_tithesBy_33 (x1 : Int32) (x2 : Int32) (x3 : Int32) (s1 : Int32) (s0 : Int32) (G : tH) : V_X11_tithesBy_33 x1 x2 x3 s1 s0 G = tbI (V_X11_atMost (s0 + s1) G) (fun r_2 G_1 => if tin ((11 : Int32) + x3) 1403 then tbI (V_X11_atMost (r_2 + ((gA G_1 1124 0 ((11 : Int32) + x3).toNatClampNeg) / (2 : Int32))) G_1) (fun r_4 G_3 => tbI (V_X11_cropOf x3 r_4 x1 G_3) (fun r_6 G_5 => tbI (V_X11_titheOf r_6 G_5) (fun r_8 G_7 => V_X11_tithesBy_4 x1 (x2 + r_8) (x3 + (1 : Int32)) G_7))) else none) := (tgo 55 rfl sk_X11_tithesBy rfl).trans rfl
def st_X11_worthBy : List (Nat × List Bool) := [(7, [true, true, true, true, true])]
theorem sk_X11_worthBy : ∀ pc bs, tstop st_X11_worthBy pc = some bs → ∃ a, k_X11_worthBy pc = some (aMk bs a) := tstop_ok (List.forall_mem_cons.mpr ⟨⟨_, rfl⟩, fun _ h => absurd h List.not_mem_nil⟩)
theorem e_X11_worthBy (x1 : Int32) (G : tH) : V_X11_worthBy x1 G = V_X11_worthBy_7 x1 (0 : Int32) (0 : Int32) (0 : Int32) G := (tgo 46 rfl sk_X11_worthBy rfl).trans rfl
theorem e_X11_worthBy_7 (x1 : Int32) (x2 : Int32) (x3 : Int32) (x4 : Int32) (G : tH) : V_X11_worthBy_7 x1 x2 x3 x4 G = tbI (V_X11_harvests G) (fun r_2 G_1 => if x4 < r_2 then (if ((x1 >>> (x4 &&& 31)) &&& (1 : Int32)) = (1 : Int32) then tbI (V_X11_harvestOf x4 (1 : Int32) G_1) (fun r_4 G_3 => tbI (V_X11_tithesBy x4 G_3) (fun r_6 G_5 => tbI (V_X11_harvestOf x4 (1 : Int32) G_5) (fun r_8 G_7 => V_X11_worthBy_7 x1 (x2 + (r_4 * r_6)) (x3 + r_8) (x4 + (1 : Int32)) G_7)))
  else V_X11_worthBy_7 x1 x2 x3 (x4 + (1 : Int32)) G_1)
  else if x3 = 0 then none else some (some (vI (x2 / x3)), G_1)) := (tgo 46 rfl sk_X11_worthBy rfl).trans rfl
def st_X11_worth : List (Nat × List Bool) := []
theorem sk_X11_worth : ∀ pc bs, tstop st_X11_worth pc = some bs → ∃ a, k_X11_worth pc = some (aMk bs a) := tstop_ok (fun _ h => absurd h List.not_mem_nil)
theorem e_X11_worth (x1 : Int32) (G : tH) : V_X11_worth x1 G = let G_1 := sI G 1100 (0) ((0 : Int32))
  let G_2 := sI G_1 1127 (0) ((-1 : Int32))
  tbI (V_X11_harvests G_2) (fun r_4 G_3 => tbI (V_X11_within x1 (1 : Int32) (((1 : Int32) <<< (r_4 &&& 31)) - (1 : Int32)) G_3) (fun r_6 G_5 => if r_6 = 0 then some (some (vI (-1 : Int32)), G_5)
  else tbI (V_X11_worthBy x1 G_5) (fun r_8 G_7 => some (some (vI r_8), G_7)))) := (tgo 27 rfl sk_X11_worth rfl).trans rfl
def st_X11_news : List (Nat × List Bool) := [(26, [true, true, true, true, true, false]), (76, [true, true, true, true, true, false]), (90, [true, true, false, true, true, true])]
theorem sk_X11_news : ∀ pc bs, tstop st_X11_news pc = some bs → ∃ a, k_X11_news pc = some (aMk bs a) := tstop_ok (List.forall_mem_cons.mpr ⟨⟨_, rfl⟩, List.forall_mem_cons.mpr ⟨⟨_, rfl⟩, List.forall_mem_cons.mpr ⟨⟨_, rfl⟩, fun _ h => absurd h List.not_mem_nil⟩⟩⟩)
theorem e_X11_news (G : tH) : V_X11_news  G = let G_1 := sI G 1100 (0) ((0 : Int32))
  let G_2 := sI G_1 1127 (0) ((-1 : Int32))
  tbI (V_X11_harvests G_2) (fun r_4 G_3 => V_X11_news_26 (((1 : Int32) <<< (r_4 &&& 31)) - (1 : Int32)) (-1 : Int32) (-1 : Int32) (0 : Int32) G_3) := (tgo 71 rfl sk_X11_news rfl).trans rfl
theorem e_X11_news_26 (x1 : Int32) (x2 : Int32) (x3 : Int32) (x4 : Int32) (G : tH) : V_X11_news_26 x1 x2 x3 x4 G = tbI (V_X11_harvests G) (fun r_2 G_1 => if x4 < r_2 then (tbI (V_X11_harvests G_1) (fun r_4 G_3 => if (1 : Int32) < r_4 then (tbI (V_X11_worthBy x1 G_3) (fun r_6 G_5 => tbI (V_X11_worthBy (x1 &&& (((1 : Int32) <<< (x4 &&& 31)) ^^^ (-1 : Int32))) G_5) (fun r_8 G_7 => if (r_6 - r_8) < 0 then V_X11_news_76 x1 x2 x3 x4 (-(r_6 - r_8)) G_7
  else V_X11_news_76 x1 x2 x3 x4 (r_6 - r_8) G_7)))
  else some (some (vI x2), G_3)))
  else some (some (vI x2), G_1)) := (tgo 71 rfl sk_X11_news rfl).trans rfl
theorem e_X11_news_76 (x1 : Int32) (x2 : Int32) (x3 : Int32) (x4 : Int32) (s0 : Int32) (G : tH) : V_X11_news_76 x1 x2 x3 x4 s0 G = if x3 < s0 then V_X11_news_90 x1 x3 x4 s0 x4 G
  else V_X11_news_90 x1 x3 x4 s0 x2 G := (tgo 71 rfl sk_X11_news rfl).trans rfl
theorem e_X11_news_90 (x1 : Int32) (x3 : Int32) (x4 : Int32) (x5 : Int32) (s0 : Int32) (G : tH) : V_X11_news_90 x1 x3 x4 x5 s0 G = if x3 < x5 then V_X11_news_26 x1 s0 x5 (x4 + (1 : Int32)) G
  else V_X11_news_26 x1 s0 x3 (x4 + (1 : Int32)) G := (tgo 71 rfl sk_X11_news rfl).trans rfl
def st_X11_gathers : List (Nat × List Bool) := [(48, [true, false, false, false, true, false, false, false, true, false, false, false]), (101, [true, true, true, true, true, false, false, true, true, true, true, false])]
theorem sk_X11_gathers : ∀ pc bs, tstop st_X11_gathers pc = some bs → ∃ a, k_X11_gathers pc = some (aMk bs a) := tstop_ok (List.forall_mem_cons.mpr ⟨⟨_, rfl⟩, List.forall_mem_cons.mpr ⟨⟨_, rfl⟩, fun _ h => absurd h List.not_mem_nil⟩⟩)
theorem e_X11_gathers (d : Nat) (x1 : Int32) (x2 : Int32) (x3 : Int32) (x4 : Int32) (x5 : Int32) (x6 : Int32) (x7 : Int32) (G : tH) : V_X11_gathers d x1 x2 x3 x4 x5 x6 x7 G = if x4 = x3 then (if (gI G 1130 (0)) < x7 then (let G_1 := sI G 1130 (0) (x7)
  let G_2 := sI G_1 1131 (0) (x5)
  V_X11_gathers_48 d x4 (0 : Int32) G_2)
  else if x7 = (gI G 1130 (0)) then (if (gI G 1131 (0)) < x5 then (let G_3 := sI G 1130 (0) (x7)
  let G_4 := sI G_3 1131 (0) (x5)
  V_X11_gathers_48 d x4 (0 : Int32) G_4)
  else some (none, G))
  else some (none, G))
  else tbI (V_X11_atMost (x5 + (x6 / (2 : Int32))) G) (fun r_6 G_5 => tbI (V_X11_cropOf x1 r_6 x2 G_5) (fun r_8 G_7 => V_X11_gathers_101 d x1 x2 x3 x4 x7 r_6 r_8 (0 : Int32) G_7)) := (tgo 99 rfl sk_X11_gathers rfl).trans rfl
theorem e_X11_gathers_48 (d : Nat) (x4 : Int32) (x8 : Int32) (G : tH) : V_X11_gathers_48 d x4 x8 G = if x8 < x4 then (if tin x8 5 then (if tin x8 5 then (let G_1 := sA G 1129 0 (upd (gA G 1129 0) x8.toNatClampNeg (gA G 1128 0 x8.toNatClampNeg))
  V_X11_gathers_48 d x4 (x8 + (1 : Int32)) G_1) else none) else none)
  else some (none, G) := (tgo 99 rfl sk_X11_gathers rfl).trans rfl
theorem e_X11_gathers_101 (d : Nat) (x1 : Int32) (x2 : Int32) (x3 : Int32) (x4 : Int32) (x7 : Int32) (x8 : Int32) (x9 : Int32) (x10 : Int32) (G : tH) : V_X11_gathers_101 d x1 x2 x3 x4 x7 x8 x9 x10 G = if x10 < (5 : Int32) then (if tin x4 5 then (let G_1 := sA G 1128 0 (upd (gA G 1128 0) x4.toNatClampNeg x10)
  tbI (V_X11_titheOf x9 G_1) (fun r_3 G_2 => tbI (V_X11_over ((x10 * x9) / (4 : Int32)) r_3 G_2) (fun r_5 G_4 => tbI (V_X11_lostBy x1 r_5 G_4) (fun r_7 G_6 => tbI (V_X11_atMost (x8 - r_7) G_6) (fun r_9 G_8 => tbV (cond (Nat.blt (trank 237 [vR 11 0, vI x1, vI x2, vI x3, vI (x4 + (1 : Int32)), vI r_9, vI (x9 - ((x10 * x9) / (4 : Int32))), vI (x7 + ((x10 * x9) / (4 : Int32)))]) d && true) (V_X11_gathers (trank 237 [vR 11 0, vI x1, vI x2, vI x3, vI (x4 + (1 : Int32)), vI r_9, vI (x9 - ((x10 * x9) / (4 : Int32))), vI (x7 + ((x10 * x9) / (4 : Int32)))]) x1 x2 x3 (x4 + (1 : Int32)) r_9 (x9 - ((x10 * x9) / (4 : Int32))) (x7 + ((x10 * x9) / (4 : Int32))) G_8) none) (fun G_10 => V_X11_gathers_101 d x1 x2 x3 x4 x7 x8 x9 (x10 + (1 : Int32)) G_10)))))) else none)
  else some (none, G) := (tgo 99 rfl sk_X11_gathers rfl).trans rfl
def st_X11_gather : List (Nat × List Bool) := []
theorem sk_X11_gather : ∀ pc bs, tstop st_X11_gather pc = some bs → ∃ a, k_X11_gather pc = some (aMk bs a) := tstop_ok (fun _ h => absurd h List.not_mem_nil)
theorem e_X11_gather (x1 : Int32) (x2 : Int32) (x3 : Int32) (x4 : Int32) (G : tH) : V_X11_gather x1 x2 x3 x4 G = let G_1 := sI G 1100 (0) ((0 : Int32))
  tbI (V_X11_isTown x1 G_1) (fun r_3 G_2 => if r_3 = 0 then some (some (vI (-1 : Int32)), G_2)
  else tbI (V_X11_isHarvest x2 G_2) (fun r_5 G_4 => if r_5 = 0 then some (some (vI (-1 : Int32)), G_4)
  else tbI (V_X11_within x3 (1 : Int32) (5 : Int32) G_4) (fun r_7 G_6 => if r_7 = 0 then some (some (vI (-1 : Int32)), G_6)
  else tbI (V_X11_within x4 (0 : Int32) ((1 : Int32) + x3) G_6) (fun r_9 G_8 => if r_9 = 0 then some (some (vI (-1 : Int32)), G_8)
  else let G_10 := sI G_8 1130 (0) ((-1 : Int32))
  let G_11 := sI G_10 1131 (0) ((-1 : Int32))
  if tin ((5 : Int32) + x1) 1403 then (if tin ((11 : Int32) + x1) 1403 then (tbV (V_X11_gathers (trank 237 [vR 11 0, vI x1, vI x2, vI x3, vI (0 : Int32), vI (gA G_11 1124 0 ((5 : Int32) + x1).toNatClampNeg), vI (gA G_11 1124 0 ((11 : Int32) + x1).toNatClampNeg), vI (0 : Int32)]) x1 x2 x3 (0 : Int32) (gA G_11 1124 0 ((5 : Int32) + x1).toNatClampNeg) (gA G_11 1124 0 ((11 : Int32) + x1).toNatClampNeg) (0 : Int32) G_11) (fun G_12 => if x4 = 0 then some (some (vI (gI G_12 1130 (0))), G_12)
  else if x4 = (1 : Int32) then some (some (vI (gI G_12 1131 (0))), G_12)
  else if tin (x4 - (2 : Int32)) 5 then some (some (vI (gA G_12 1129 0 (x4 - (2 : Int32)).toNatClampNeg)), G_12) else none)) else none) else none)))) := (tgo 73 rfl sk_X11_gather rfl).trans rfl
def st_X11_meansBy : List (Nat × List Bool) := [(24, [true, true, true, true, true, true, true, true, false, false])]
theorem sk_X11_meansBy : ∀ pc bs, tstop st_X11_meansBy pc = some bs → ∃ a, k_X11_meansBy pc = some (aMk bs a) := tstop_ok (List.forall_mem_cons.mpr ⟨⟨_, rfl⟩, fun _ h => absurd h List.not_mem_nil⟩)
theorem e_X11_meansBy (x1 : Int32) (x2 : Int32) (x3 : Int32) (x4 : Int32) (G : tH) : V_X11_meansBy x1 x2 x3 x4 G = if tin ((5 : Int32) + x1) 1403 then (if tin ((11 : Int32) + x1) 1403 then V_X11_meansBy_24 x1 x2 x3 x4 (gA G 1124 0 ((5 : Int32) + x1).toNatClampNeg) (gA G 1124 0 ((11 : Int32) + x1).toNatClampNeg) (0 : Int32) G else none) else none := (tgo 63 rfl sk_X11_meansBy rfl).trans rfl
theorem e_X11_meansBy_24 (x1 : Int32) (x2 : Int32) (x3 : Int32) (x4 : Int32) (x5 : Int32) (x6 : Int32) (x7 : Int32) (G : tH) : V_X11_meansBy_24 x1 x2 x3 x4 x5 x6 x7 G = if x7 < x3 then tbI (V_X11_atMost (x5 + (x6 / (2 : Int32))) G) (fun r_2 G_1 => tbI (V_X11_cropOf x1 r_2 x2 G_1) (fun r_4 G_3 => tbI (V_X11_titheOf r_4 G_3) (fun r_6 G_5 => tbI (V_X11_over ((x4 * r_4) / (100 : Int32)) r_6 G_5) (fun r_8 G_7 => tbI (V_X11_lostBy x1 r_8 G_7) (fun r_10 G_9 => tbI (V_X11_atMost (r_2 - r_10) G_9) (fun r_12 G_11 => V_X11_meansBy_24 x1 x2 x3 x4 r_12 (r_4 - ((x4 * r_4) / (100 : Int32))) (x7 + (1 : Int32)) G_11))))))
  else some (some (vI x5), G) := (tgo 63 rfl sk_X11_meansBy rfl).trans rfl
def st_X11_rate : List (Nat × List Bool) := [(37, [true, true, true, true, true])]
theorem sk_X11_rate : ∀ pc bs, tstop st_X11_rate pc = some bs → ∃ a, k_X11_rate pc = some (aMk bs a) := tstop_ok (List.forall_mem_cons.mpr ⟨⟨_, rfl⟩, fun _ h => absurd h List.not_mem_nil⟩)
theorem e_X11_rate (x1 : Int32) (x2 : Int32) (x3 : Int32) (G : tH) : V_X11_rate x1 x2 x3 G = let G_1 := sI G 1100 (0) ((0 : Int32))
  tbI (V_X11_isTown x1 G_1) (fun r_3 G_2 => if r_3 = 0 then some (some (vI (-1 : Int32)), G_2)
  else tbI (V_X11_isHarvest x2 G_2) (fun r_5 G_4 => if r_5 = 0 then some (some (vI (-1 : Int32)), G_4)
  else tbI (V_X11_within x3 (1 : Int32) (20 : Int32) G_4) (fun r_7 G_6 => if r_7 = 0 then some (some (vI (-1 : Int32)), G_6)
  else V_X11_rate_37 x1 x2 x3 (100 : Int32) G_6))) := (tgo 44 rfl sk_X11_rate rfl).trans rfl
theorem e_X11_rate_37 (x1 : Int32) (x2 : Int32) (x3 : Int32) (x4 : Int32) (G : tH) : V_X11_rate_37 x1 x2 x3 x4 G = if 0 < x4 then (tbI (V_X11_meansBy x1 x2 x3 x4 G) (fun r_2 G_1 => if tin ((5 : Int32) + x1) 1403 then (if r_2 < (gA G_1 1124 0 ((5 : Int32) + x1).toNatClampNeg) then V_X11_rate_37 x1 x2 x3 (x4 + (-1 : Int32)) G_1
  else some (some (vI x4), G_1)) else none))
  else some (some (vI x4), G) := (tgo 44 rfl sk_X11_rate rfl).trans rfl
def st_X11_pricesOf : List (Nat × List Bool) := [(4, [true, true, true, true])]
theorem sk_X11_pricesOf : ∀ pc bs, tstop st_X11_pricesOf pc = some bs → ∃ a, k_X11_pricesOf pc = some (aMk bs a) := tstop_ok (List.forall_mem_cons.mpr ⟨⟨_, rfl⟩, fun _ h => absurd h List.not_mem_nil⟩)
theorem e_X11_pricesOf (x1 : Int32) (G : tH) : V_X11_pricesOf x1 G = V_X11_pricesOf_4 x1 (0 : Int32) (0 : Int32) G := (tgo 39 rfl sk_X11_pricesOf rfl).trans rfl
theorem e_X11_pricesOf_4 (x1 : Int32) (x2 : Int32) (x3 : Int32) (G : tH) : V_X11_pricesOf_4 x1 x2 x3 G = tbI (V_X11_jurors G) (fun r_2 G_1 => if x3 < r_2 then (if ((x1 >>> (x3 &&& 31)) &&& (1 : Int32)) = (1 : Int32) then (if tin (((40 : Int32) + ((2 : Int32) * x3)) + (1 : Int32)) 120 then (let z_3 : Int32 := x2 + (gA G_1 1110 0 (((40 : Int32) + ((2 : Int32) * x3)) + (1 : Int32)).toNatClampNeg)
  V_X11_pricesOf_4 x1 z_3 (x3 + (1 : Int32)) G_1) else none)
  else V_X11_pricesOf_4 x1 (x2 + (0 : Int32)) (x3 + (1 : Int32)) G_1)
  else some (some (vI x2), G_1)) := (tgo 39 rfl sk_X11_pricesOf rfl).trans rfl
def st_X11_free : List (Nat × List Bool) := [(28, [true, true, true, true, false, false]), (65, [true, true, true, true, true, true])]
theorem sk_X11_free : ∀ pc bs, tstop st_X11_free pc = some bs → ∃ a, k_X11_free pc = some (aMk bs a) := tstop_ok (List.forall_mem_cons.mpr ⟨⟨_, rfl⟩, List.forall_mem_cons.mpr ⟨⟨_, rfl⟩, fun _ h => absurd h List.not_mem_nil⟩⟩)
theorem e_X11_free (x1 : Int32) (G : tH) : V_X11_free x1 G = let G_1 := sI G 1100 (0) ((0 : Int32))
  tbI (V_X11_within x1 (0 : Int32) (1 : Int32) G_1) (fun r_3 G_2 => if r_3 = 0 then some (some (vI (-1 : Int32)), G_2)
  else tbI (V_X11_isHeld (0 : Int32) G_2) (fun r_5 G_4 => if r_5 = 0 then some (some (vI (-1 : Int32)), G_4)
  else V_X11_free_28 x1 (-1 : Int32) (0 : Int32) G_4)) := (tgo 88 rfl sk_X11_free rfl).trans rfl
theorem e_X11_free_28 (x1 : Int32) (x2 : Int32) (x3 : Int32) (G : tH) : V_X11_free_28 x1 x2 x3 G = tbI (V_X11_jurors G) (fun r_2 G_1 => if x3 < ((1 : Int32) <<< (r_2 &&& 31)) then (if x2 < 0 then V_X11_free_65 x1 x2 x3 (1 : Int32) (0 : Int32) G_1
  else tbI (V_X11_pricesOf x3 G_1) (fun r_4 G_3 => tbI (V_X11_pricesOf x2 G_3) (fun r_6 G_5 => if r_4 < r_6 then V_X11_free_65 x1 x2 x3 (1 : Int32) (0 : Int32) G_5
  else V_X11_free_65 x1 x2 x3 (0 : Int32) (0 : Int32) G_5)))
  else if x1 = 0 then tbI (V_X11_pricesOf x2 G_1) (fun r_8 G_7 => some (some (vI r_8), G_7))
  else some (some (vI x2), G_1)) := (tgo 88 rfl sk_X11_free rfl).trans rfl
theorem e_X11_free_65 (x1 : Int32) (x2 : Int32) (x3 : Int32) (x4 : Int32) (x5 : Int32) (G : tH) : V_X11_free_65 x1 x2 x3 x4 x5 G = tbI (V_X11_jurors G) (fun r_2 G_1 => if x5 < r_2 then (if x4 = 0 then V_X11_free_65 x1 x2 x3 (0 : Int32) (x5 + (1 : Int32)) G_1
  else if ((x3 >>> (x5 &&& 31)) &&& (1 : Int32)) = 0 then V_X11_free_65 x1 x2 x3 (1 : Int32) (x5 + (1 : Int32)) G_1
  else tbI (V_X11_letsGo (0 : Int32) x5 G_1) (fun r_4 G_3 => if r_4 = 0 then V_X11_free_65 x1 x2 x3 (1 : Int32) (x5 + (1 : Int32)) G_3
  else V_X11_free_65 x1 x2 x3 (0 : Int32) (x5 + (1 : Int32)) G_3))
  else if x4 = 0 then V_X11_free_28 x1 x2 (x3 + (1 : Int32)) G_1
  else tbI (V_X11_isFree (0 : Int32) x3 G_1) (fun r_6 G_5 => if r_6 = 0 then V_X11_free_28 x1 x2 (x3 + (1 : Int32)) G_5
  else V_X11_free_28 x1 x3 (x3 + (1 : Int32)) G_5)) := (tgo 88 rfl sk_X11_free rfl).trans rfl
def st_X11_agree : List (Nat × List Bool) := [(52, [true, true, true, true, false, false]), (69, [true, true, true, true, true, true])]
theorem sk_X11_agree : ∀ pc bs, tstop st_X11_agree pc = some bs → ∃ a, k_X11_agree pc = some (aMk bs a) := tstop_ok (List.forall_mem_cons.mpr ⟨⟨_, rfl⟩, List.forall_mem_cons.mpr ⟨⟨_, rfl⟩, fun _ h => absurd h List.not_mem_nil⟩⟩)
theorem e_X11_agree (x1 : Int32) (x2 : Int32) (G : tH) : V_X11_agree x1 x2 G = let G_1 := sI G 1100 (0) ((0 : Int32))
  tbI (V_X11_isCompany x1 G_1) (fun r_3 G_2 => if r_3 = 0 then some (some (vI (-1 : Int32)), G_2)
  else tbI (V_X11_isCompany x2 G_2) (fun r_5 G_4 => if r_5 = 0 then some (some (vI (-1 : Int32)), G_4)
  else if x1 = x2 then some (some (vI (-1 : Int32)), G_4)
  else tbI (V_X11_isHeld (0 : Int32) G_4) (fun r_7 G_6 => if r_7 = 0 then (tbI (V_X11_highest (0 : Int32) G_6) (fun r_9 G_8 => if r_9 = x1 then V_X11_agree_52 x1 x2 r_9 G_8
  else if r_9 = x2 then V_X11_agree_52 x1 x2 r_9 G_8
  else some (some (vI (0 : Int32)), G_8)))
  else some (some (vI (-1 : Int32)), G_6)))) := (tgo 92 rfl sk_X11_agree rfl).trans rfl
theorem e_X11_agree_52 (x1 : Int32) (x2 : Int32) (x3 : Int32) (G : tH) : V_X11_agree_52 x1 x2 x3 G = tbI (V_X11_sortOf x3 G) (fun r_2 G_1 => if r_2 = (1 : Int32) then some (some (vI (0 : Int32)), G_1)
  else V_X11_agree_69 x1 x2 x3 (0 : Int32) (0 : Int32) G_1) := (tgo 92 rfl sk_X11_agree rfl).trans rfl
theorem e_X11_agree_69 (x1 : Int32) (x2 : Int32) (x3 : Int32) (x4 : Int32) (x5 : Int32) (G : tH) : V_X11_agree_69 x1 x2 x3 x4 x5 G = tbI (V_X11_companies G) (fun r_2 G_1 => if x5 < r_2 then (if x5 = x1 then V_X11_agree_69 x1 x2 x3 x4 (x5 + (1 : Int32)) G_1
  else if x5 = x2 then V_X11_agree_69 x1 x2 x3 x4 (x5 + (1 : Int32)) G_1
  else if tin ((46 : Int32) + x5) 1403 then (if x4 < (gA G_1 1124 0 ((46 : Int32) + x5).toNatClampNeg) then (if tin ((46 : Int32) + x5) 1403 then V_X11_agree_69 x1 x2 x3 (gA G_1 1124 0 ((46 : Int32) + x5).toNatClampNeg) (x5 + (1 : Int32)) G_1 else none)
  else V_X11_agree_69 x1 x2 x3 x4 (x5 + (1 : Int32)) G_1) else none)
  else if tin ((46 : Int32) + x3) 1403 then (if (((gA G_1 1124 0 ((46 : Int32) + x3).toNatClampNeg) - x4) - (1 : Int32)) < 0 then some (some (vI (0 : Int32)), G_1)
  else some (some (vI (((gA G_1 1124 0 ((46 : Int32) + x3).toNatClampNeg) - x4) - (1 : Int32))), G_1)) else none) := (tgo 92 rfl sk_X11_agree rfl).trans rfl
def st_X11_tale : List (Nat × List Bool) := []
theorem sk_X11_tale : ∀ pc bs, tstop st_X11_tale pc = some bs → ∃ a, k_X11_tale pc = some (aMk bs a) := tstop_ok (fun _ h => absurd h List.not_mem_nil)
theorem e_X11_tale (x1 : Int32) (x2 : Int32) (G : tH) : V_X11_tale x1 x2 G = let G_1 := sI G 1100 (0) ((0 : Int32))
  tbI (V_X11_isCompany x1 G_1) (fun r_3 G_2 => if r_3 = 0 then some (some (vI (0 : Int32)), G_2)
  else tbI (V_X11_within x2 (0 : Int32) (99999 : Int32) G_2) (fun r_5 G_4 => if r_5 = 0 then some (some (vI (0 : Int32)), G_4)
  else if tin ((56 : Int32) + x1) 1403 then (let G_6 := sA G_4 1124 0 (upd (gA G_4 1124 0) ((56 : Int32) + x1).toNatClampNeg x2)
  some (some (vI (1 : Int32)), G_6)) else none)) := (tgo 28 rfl sk_X11_tale rfl).trans rfl
def st_X11_findKnew : List (Nat × List Bool) := [(29, [true, true, true])]
theorem sk_X11_findKnew : ∀ pc bs, tstop st_X11_findKnew pc = some bs → ∃ a, k_X11_findKnew pc = some (aMk bs a) := tstop_ok (List.forall_mem_cons.mpr ⟨⟨_, rfl⟩, fun _ h => absurd h List.not_mem_nil⟩)
theorem e_X11_findKnew (x1 : Int32) (G : tH) : V_X11_findKnew x1 G = let G_1 := sI G 1127 (0) ((-1 : Int32))
  let G_2 := sI G_1 1132 (0) ((0 : Int32))
  tbI (V_X11_harvests G_2) (fun r_4 G_3 => let G_5 := sI G_3 1133 (0) (((1 : Int32) <<< (r_4 &&& 31)) - (1 : Int32))
  let G_6 := sI G_5 1134 (0) ((0 : Int32))
  V_X11_findKnew_29 x1 (1 : Int32) G_6) := (tgo 61 rfl sk_X11_findKnew rfl).trans rfl
theorem e_X11_findKnew_29 (x1 : Int32) (x2 : Int32) (G : tH) : V_X11_findKnew_29 x1 x2 G = tbI (V_X11_harvests G) (fun r_2 G_1 => if x2 < ((1 : Int32) <<< (r_2 &&& 31)) then (tbI (V_X11_worthBy x2 G_1) (fun r_4 G_3 => if tin ((56 : Int32) + x1) 1403 then (if r_4 = (gA G_3 1124 0 ((56 : Int32) + x1).toNatClampNeg) then (let G_5 := sI G_3 1132 (0) ((gI G_3 1132 (0)) + (1 : Int32))
  let G_6 := sI G_5 1133 (0) ((gI G_5 1133 (0)) &&& x2)
  let G_7 := sI G_6 1134 (0) ((gI G_6 1134 (0)) ||| x2)
  V_X11_findKnew_29 x1 (x2 + (1 : Int32)) G_7)
  else V_X11_findKnew_29 x1 (x2 + (1 : Int32)) G_3) else none))
  else some (none, G_1)) := (tgo 61 rfl sk_X11_findKnew rfl).trans rfl
def st_X11_knew : List (Nat × List Bool) := []
theorem sk_X11_knew : ∀ pc bs, tstop st_X11_knew pc = some bs → ∃ a, k_X11_knew pc = some (aMk bs a) := tstop_ok (fun _ h => absurd h List.not_mem_nil)
theorem e_X11_knew (x1 : Int32) (x2 : Int32) (G : tH) : V_X11_knew x1 x2 G = let G_1 := sI G 1100 (0) ((0 : Int32))
  tbI (V_X11_isCompany x1 G_1) (fun r_3 G_2 => if r_3 = 0 then some (some (vI (-1 : Int32)), G_2)
  else tbI (V_X11_within x2 (0 : Int32) (2 : Int32) G_2) (fun r_5 G_4 => if r_5 = 0 then some (some (vI (-1 : Int32)), G_4)
  else if tin ((56 : Int32) + x1) 1403 then (if (gA G_4 1124 0 ((56 : Int32) + x1).toNatClampNeg) < 0 then some (some (vI (-1 : Int32)), G_4)
  else tbV (V_X11_findKnew x1 G_4) (fun G_6 => if x2 = 0 then some (some (vI (gI G_6 1132 (0))), G_6)
  else if (gI G_6 1132 (0)) = 0 then some (some (vI (-1 : Int32)), G_6)
  else if x2 = (1 : Int32) then some (some (vI (gI G_6 1133 (0))), G_6)
  else some (some (vI (gI G_6 1134 (0))), G_6))) else none)) := (tgo 48 rfl sk_X11_knew rfl).trans rfl
def st_X11_secret : List (Nat × List Bool) := [(16, [true, true, true])]
theorem sk_X11_secret : ∀ pc bs, tstop st_X11_secret pc = some bs → ∃ a, k_X11_secret pc = some (aMk bs a) := tstop_ok (List.forall_mem_cons.mpr ⟨⟨_, rfl⟩, fun _ h => absurd h List.not_mem_nil⟩)
theorem e_X11_secret (G : tH) : V_X11_secret  G = let G_1 := sI G 1100 (0) ((0 : Int32))
  tbI (V_X11_harvests G_1) (fun r_3 G_2 => V_X11_secret_16 (((1 : Int32) <<< (r_3 &&& 31)) - (1 : Int32)) (0 : Int32) G_2) := (tgo 40 rfl sk_X11_secret rfl).trans rfl
theorem e_X11_secret_16 (x1 : Int32) (x2 : Int32) (G : tH) : V_X11_secret_16 x1 x2 G = tbI (V_X11_companies G) (fun r_2 G_1 => if x2 < r_2 then (if tin ((56 : Int32) + x2) 1403 then (if (gA G_1 1124 0 ((56 : Int32) + x2).toNatClampNeg) < 0 then V_X11_secret_16 x1 (x2 + (1 : Int32)) G_1
  else tbV (V_X11_findKnew x2 G_1) (fun G_3 => V_X11_secret_16 (x1 &&& (gI G_3 1134 (0))) (x2 + (1 : Int32)) G_3)) else none)
  else some (some (vI x1), G_1)) := (tgo 40 rfl sk_X11_secret rfl).trans rfl
def st_X11_greatestAlike : List (Nat × List Bool) := [(9, [true, false, true, true, false, false]), (51, [true, false, true, true, false, false]), (67, [true, false, true, true, true, true]), (129, [true, false, true, true, true, false])]
theorem sk_X11_greatestAlike : ∀ pc bs, tstop st_X11_greatestAlike pc = some bs → ∃ a, k_X11_greatestAlike pc = some (aMk bs a) := tstop_ok (List.forall_mem_cons.mpr ⟨⟨_, rfl⟩, List.forall_mem_cons.mpr ⟨⟨_, rfl⟩, List.forall_mem_cons.mpr ⟨⟨_, rfl⟩, List.forall_mem_cons.mpr ⟨⟨_, rfl⟩, fun _ h => absurd h List.not_mem_nil⟩⟩⟩⟩)
theorem e_X11_greatestAlike (x1 : Int32) (G : tH) : V_X11_greatestAlike x1 G = let G_1 := sI G 1127 (0) (x1)
  V_X11_greatestAlike_9 (0 : Int32) (1 : Int32) G_1 := (tgo 93 rfl sk_X11_greatestAlike rfl).trans rfl
theorem e_X11_greatestAlike_9 (x2 : Int32) (x3 : Int32) (G : tH) : V_X11_greatestAlike_9 x2 x3 G = tbI (V_X11_harvests G) (fun r_2 G_1 => if x3 < ((1 : Int32) <<< (r_2 &&& 31)) then (if tin x3 32 then (if (gA G_1 1136 0 x3.toNatClampNeg) = 0 then (if tin x3 32 then (let G_3 := sA G_1 1135 0 (upd (gA G_1 1135 0) x3.toNatClampNeg (-1 : Int32))
  V_X11_greatestAlike_9 x2 (x3 + (1 : Int32)) G_3) else none)
  else tbI (V_X11_worthBy x3 G_1) (fun r_5 G_4 => if tin x3 32 then (let G_6 := sA G_4 1135 0 (upd (gA G_4 1135 0) x3.toNatClampNeg r_5)
  V_X11_greatestAlike_9 x2 (x3 + (1 : Int32)) G_6) else none)) else none)
  else V_X11_greatestAlike_51 x2 (1 : Int32) G_1) := (tgo 93 rfl sk_X11_greatestAlike rfl).trans rfl
theorem e_X11_greatestAlike_51 (x2 : Int32) (x3 : Int32) (G : tH) : V_X11_greatestAlike_51 x2 x3 G = tbI (V_X11_harvests G) (fun r_2 G_1 => if x3 < ((1 : Int32) <<< (r_2 &&& 31)) then V_X11_greatestAlike_67 x2 x3 (0 : Int32) (1 : Int32) G_1
  else let G_3 := sI G_1 1127 (0) ((-1 : Int32))
  some (some (vI x2), G_3)) := (tgo 93 rfl sk_X11_greatestAlike rfl).trans rfl
theorem e_X11_greatestAlike_67 (x2 : Int32) (x3 : Int32) (x4 : Int32) (x5 : Int32) (G : tH) : V_X11_greatestAlike_67 x2 x3 x4 x5 G = tbI (V_X11_harvests G) (fun r_2 G_1 => if x5 < ((1 : Int32) <<< (r_2 &&& 31)) then (if tin x3 32 then (if (gA G_1 1136 0 x3.toNatClampNeg) = 0 then V_X11_greatestAlike_129 x2 x3 x4 G_1
  else if tin x5 32 then (if (gA G_1 1136 0 x5.toNatClampNeg) = 0 then V_X11_greatestAlike_67 x2 x3 (x4 + (0 : Int32)) (x5 + (1 : Int32)) G_1
  else if tin x5 32 then (if tin x3 32 then (if (gA G_1 1135 0 x5.toNatClampNeg) = (gA G_1 1135 0 x3.toNatClampNeg) then V_X11_greatestAlike_67 x2 x3 (x4 + (1 : Int32)) (x5 + (1 : Int32)) G_1
  else V_X11_greatestAlike_67 x2 x3 (x4 + (0 : Int32)) (x5 + (1 : Int32)) G_1) else none) else none) else none) else none)
  else V_X11_greatestAlike_129 x2 x3 x4 G_1) := (tgo 93 rfl sk_X11_greatestAlike rfl).trans rfl
theorem e_X11_greatestAlike_129 (x2 : Int32) (x3 : Int32) (x4 : Int32) (G : tH) : V_X11_greatestAlike_129 x2 x3 x4 G = if x2 < x4 then V_X11_greatestAlike_51 x4 (x3 + (1 : Int32)) G
  else V_X11_greatestAlike_51 x2 (x3 + (1 : Int32)) G := (tgo 93 rfl sk_X11_greatestAlike rfl).trans rfl
def st_X11_next : List (Nat × List Bool) := [(14, [true, true, true, false, false, false]), (55, [true, true, true, false, false, false]), (109, [true, false, true, true, true, false]), (138, [true, false, false, true, true, true])]
theorem sk_X11_next : ∀ pc bs, tstop st_X11_next pc = some bs → ∃ a, k_X11_next pc = some (aMk bs a) := tstop_ok (List.forall_mem_cons.mpr ⟨⟨_, rfl⟩, List.forall_mem_cons.mpr ⟨⟨_, rfl⟩, List.forall_mem_cons.mpr ⟨⟨_, rfl⟩, List.forall_mem_cons.mpr ⟨⟨_, rfl⟩, fun _ h => absurd h List.not_mem_nil⟩⟩⟩⟩)
theorem e_X11_next (G : tH) : V_X11_next  G = let G_1 := sI G 1100 (0) ((0 : Int32))
  tbI (V_X11_companies G_1) (fun r_3 G_2 => V_X11_next_14 (-1 : Int32) (r_3 - (1 : Int32)) G_2) := (tgo 97 rfl sk_X11_next rfl).trans rfl
theorem e_X11_next_14 (x1 : Int32) (x2 : Int32) (G : tH) : V_X11_next_14 x1 x2 G = if x2 < 0 then (if x1 < 0 then some (some (vI (-1 : Int32)), G)
  else tbV (V_X11_findKnew x1 G) (fun G_1 => V_X11_next_55 x1 (1 : Int32) G_1))
  else if tin ((56 : Int32) + x2) 1403 then (if (gA G 1124 0 ((56 : Int32) + x2).toNatClampNeg) < 0 then V_X11_next_14 x1 (x2 + (-1 : Int32)) G
  else V_X11_next_14 x2 (x2 + (-1 : Int32)) G) else none := (tgo 97 rfl sk_X11_next rfl).trans rfl
theorem e_X11_next_55 (x1 : Int32) (x2 : Int32) (G : tH) : V_X11_next_55 x1 x2 G = tbI (V_X11_harvests G) (fun r_2 G_1 => if x2 < ((1 : Int32) <<< (r_2 &&& 31)) then (tbI (V_X11_worthBy x2 G_1) (fun r_4 G_3 => if tin ((56 : Int32) + x1) 1403 then (if r_4 = (gA G_3 1124 0 ((56 : Int32) + x1).toNatClampNeg) then (if tin x2 32 then (let G_5 := sA G_3 1136 0 (upd (gA G_3 1136 0) x2.toNatClampNeg (vp_nar .boolean (1 : Int32)))
  V_X11_next_55 x1 (x2 + (1 : Int32)) G_5) else none)
  else if tin x2 32 then (let G_6 := sA G_3 1136 0 (upd (gA G_3 1136 0) x2.toNatClampNeg (vp_nar .boolean (0 : Int32)))
  V_X11_next_55 x1 (x2 + (1 : Int32)) G_6) else none) else none))
  else V_X11_next_109 (-1 : Int32) (gI G_1 1132 (0)) (0 : Int32) G_1) := (tgo 97 rfl sk_X11_next rfl).trans rfl
theorem e_X11_next_109 (x2 : Int32) (x3 : Int32) (x4 : Int32) (G : tH) : V_X11_next_109 x2 x3 x4 G = tbI (V_X11_towns G) (fun r_2 G_1 => if x4 < r_2 then (tbI (V_X11_greatestAlike x4 G_1) (fun r_4 G_3 => if r_4 < x3 then V_X11_next_138 x3 x4 r_4 x4 G_3
  else V_X11_next_138 x3 x4 r_4 x2 G_3))
  else some (some (vI x2), G_1)) := (tgo 97 rfl sk_X11_next rfl).trans rfl
theorem e_X11_next_138 (x3 : Int32) (x4 : Int32) (x5 : Int32) (s0 : Int32) (G : tH) : V_X11_next_138 x3 x4 x5 s0 G = if x5 < x3 then V_X11_next_109 s0 x5 (x4 + (1 : Int32)) G
  else V_X11_next_109 s0 x3 (x4 + (1 : Int32)) G := (tgo 97 rfl sk_X11_next rfl).trans rfl
