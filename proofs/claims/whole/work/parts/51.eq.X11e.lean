/-! the equations: X11e -/
def st_X11_tithesBy : List (Nat × List Bool) := [(4, [true, true, true, true, false]), (33, [true, true, true, true, false])]
theorem sk_X11_tithesBy : ∀ pc bs, tstop st_X11_tithesBy pc = some bs → ∃ a, k_X11_tithesBy pc = some (aMk bs a) := tstop_ok (List.forall_mem_cons.mpr ⟨⟨_, rfl⟩, List.forall_mem_cons.mpr ⟨⟨_, rfl⟩, fun _ h => absurd h List.not_mem_nil⟩⟩)
set_option maxRecDepth 20000 in
theorem e_X11_tithesBy (x1 : Int32) (G : tH) : V_X11_tithesBy x1 G = V_X11_tithesBy_4 x1 (nI 0) (nI 0) G := (tgo 55 rfl sk_X11_tithesBy rfl).trans rfl
set_option maxRecDepth 20000 in
theorem e_X11_tithesBy_4 (x1 : Int32) (x2 : Int32) (x3 : Int32) (G : tH) : V_X11_tithesBy_4 x1 x2 x3 G = tbI (V_X11_towns G) (fun r_2 G_1 => tif (x3 < r_2) (tif (tin ((nI 5) + x3) 1403) (tif (x3 = (gI G_1 1127 (0))) (V_X11_tithesBy_33 x1 x2 x3 (nI 1) (gA G_1 1124 0 ((nI 5) + x3).toNatClampNeg) G_1)
  (V_X11_tithesBy_33 x1 x2 x3 (nI 0) (gA G_1 1124 0 ((nI 5) + x3).toNatClampNeg) G_1)) none)
  (some (some (vI x2), G_1))) := (tgo 55 rfl sk_X11_tithesBy rfl).trans rfl
set_option maxRecDepth 20000 in
theorem e_X11_tithesBy_33 (x1 : Int32) (x2 : Int32) (x3 : Int32) (s1 : Int32) (s0 : Int32) (G : tH) : V_X11_tithesBy_33 x1 x2 x3 s1 s0 G = tbI (V_X11_atMost (s0 + s1) G) (fun r_2 G_1 => tif (tin ((nI 11) + x3) 1403) (tif ((nI 2) = 0) none (tbI (V_X11_atMost (r_2 + ((gA G_1 1124 0 ((nI 11) + x3).toNatClampNeg) / (nI 2))) G_1) (fun r_4 G_3 => tbI (V_X11_cropOf x3 r_4 x1 G_3) (fun r_6 G_5 => tbI (V_X11_titheOf r_6 G_5) (fun r_8 G_7 => V_X11_tithesBy_4 x1 (x2 + r_8) (x3 + (nI 1)) G_7))))) none) := (tgo 55 rfl sk_X11_tithesBy rfl).trans rfl
def st_X11_worthBy : List (Nat × List Bool) := [(7, [true, true, true, true, true])]
theorem sk_X11_worthBy : ∀ pc bs, tstop st_X11_worthBy pc = some bs → ∃ a, k_X11_worthBy pc = some (aMk bs a) := tstop_ok (List.forall_mem_cons.mpr ⟨⟨_, rfl⟩, fun _ h => absurd h List.not_mem_nil⟩)
set_option maxRecDepth 20000 in
theorem e_X11_worthBy (x1 : Int32) (G : tH) : V_X11_worthBy x1 G = V_X11_worthBy_7 x1 (nI 0) (nI 0) (nI 0) G := (tgo 46 rfl sk_X11_worthBy rfl).trans rfl
set_option maxRecDepth 20000 in
theorem e_X11_worthBy_7 (x1 : Int32) (x2 : Int32) (x3 : Int32) (x4 : Int32) (G : tH) : V_X11_worthBy_7 x1 x2 x3 x4 G = tbI (V_X11_harvests G) (fun r_2 G_1 => tif (x4 < r_2) (tif (((x1 >>> (x4 &&& 31)) &&& (nI 1)) = (nI 1)) (tbI (V_X11_harvestOf x4 (nI 1) G_1) (fun r_4 G_3 => tbI (V_X11_tithesBy x4 G_3) (fun r_6 G_5 => tbI (V_X11_harvestOf x4 (nI 1) G_5) (fun r_8 G_7 => V_X11_worthBy_7 x1 (x2 + (r_4 * r_6)) (x3 + r_8) (x4 + (nI 1)) G_7))))
  (V_X11_worthBy_7 x1 x2 x3 (x4 + (nI 1)) G_1))
  (tif (x3 = 0) none (some (some (vI (x2 / x3)), G_1)))) := (tgo 46 rfl sk_X11_worthBy rfl).trans rfl
def st_X11_worth : List (Nat × List Bool) := []
theorem sk_X11_worth : ∀ pc bs, tstop st_X11_worth pc = some bs → ∃ a, k_X11_worth pc = some (aMk bs a) := tstop_ok (fun _ h => absurd h List.not_mem_nil)
set_option maxRecDepth 20000 in
theorem e_X11_worth (x1 : Int32) (G : tH) : V_X11_worth x1 G = let G_1 := sI G 1100 (0) ((nI 0))
  let G_2 := sI G_1 1127 (0) ((-1 : Int32))
  tbI (V_X11_harvests G_2) (fun r_4 G_3 => tbI (V_X11_within x1 (nI 1) (((nI 1) <<< (r_4 &&& 31)) - (nI 1)) G_3) (fun r_6 G_5 => tif (r_6 = 0) (some (some (vI (-1 : Int32)), G_5))
  (tbI (V_X11_worthBy x1 G_5) (fun r_8 G_7 => some (some (vI r_8), G_7))))) := (tgo 27 rfl sk_X11_worth rfl).trans rfl
def st_X11_news : List (Nat × List Bool) := [(26, [true, true, true, true, true, false]), (76, [true, true, true, true, true, false]), (90, [true, true, false, true, true, true])]
theorem sk_X11_news : ∀ pc bs, tstop st_X11_news pc = some bs → ∃ a, k_X11_news pc = some (aMk bs a) := tstop_ok (List.forall_mem_cons.mpr ⟨⟨_, rfl⟩, List.forall_mem_cons.mpr ⟨⟨_, rfl⟩, List.forall_mem_cons.mpr ⟨⟨_, rfl⟩, fun _ h => absurd h List.not_mem_nil⟩⟩⟩)
set_option maxRecDepth 20000 in
theorem e_X11_news (G : tH) : V_X11_news  G = let G_1 := sI G 1100 (0) ((nI 0))
  let G_2 := sI G_1 1127 (0) ((-1 : Int32))
  tbI (V_X11_harvests G_2) (fun r_4 G_3 => V_X11_news_26 (((nI 1) <<< (r_4 &&& 31)) - (nI 1)) (-1 : Int32) (-1 : Int32) (nI 0) G_3) := (tgo 71 rfl sk_X11_news rfl).trans rfl
set_option maxRecDepth 20000 in
theorem e_X11_news_26 (x1 : Int32) (x2 : Int32) (x3 : Int32) (x4 : Int32) (G : tH) : V_X11_news_26 x1 x2 x3 x4 G = tbI (V_X11_harvests G) (fun r_2 G_1 => tif (x4 < r_2) (tbI (V_X11_harvests G_1) (fun r_4 G_3 => tif ((nI 1) < r_4) (tbI (V_X11_worthBy x1 G_3) (fun r_6 G_5 => tbI (V_X11_worthBy (x1 &&& (((nI 1) <<< (x4 &&& 31)) ^^^ (-1 : Int32))) G_5) (fun r_8 G_7 => tif ((r_6 - r_8) < 0) (V_X11_news_76 x1 x2 x3 x4 (-(r_6 - r_8)) G_7)
  (V_X11_news_76 x1 x2 x3 x4 (r_6 - r_8) G_7))))
  (some (some (vI x2), G_3))))
  (some (some (vI x2), G_1))) := (tgo 71 rfl sk_X11_news rfl).trans rfl
set_option maxRecDepth 20000 in
theorem e_X11_news_76 (x1 : Int32) (x2 : Int32) (x3 : Int32) (x4 : Int32) (s0 : Int32) (G : tH) : V_X11_news_76 x1 x2 x3 x4 s0 G = tif (x3 < s0) (V_X11_news_90 x1 x3 x4 s0 x4 G)
  (V_X11_news_90 x1 x3 x4 s0 x2 G) := (tgo 71 rfl sk_X11_news rfl).trans rfl
set_option maxRecDepth 20000 in
theorem e_X11_news_90 (x1 : Int32) (x3 : Int32) (x4 : Int32) (x5 : Int32) (s0 : Int32) (G : tH) : V_X11_news_90 x1 x3 x4 x5 s0 G = tif (x3 < x5) (V_X11_news_26 x1 s0 x5 (x4 + (nI 1)) G)
  (V_X11_news_26 x1 s0 x3 (x4 + (nI 1)) G) := (tgo 71 rfl sk_X11_news rfl).trans rfl
def st_X11_gathers : List (Nat × List Bool) := [(48, [true, false, false, false, true, false, false, false, true, false, false, false]), (101, [true, true, true, true, true, false, false, true, true, true, true, false])]
theorem sk_X11_gathers : ∀ pc bs, tstop st_X11_gathers pc = some bs → ∃ a, k_X11_gathers pc = some (aMk bs a) := tstop_ok (List.forall_mem_cons.mpr ⟨⟨_, rfl⟩, List.forall_mem_cons.mpr ⟨⟨_, rfl⟩, fun _ h => absurd h List.not_mem_nil⟩⟩)
set_option maxRecDepth 20000 in
theorem e_X11_gathers (d : Nat) (x1 : Int32) (x2 : Int32) (x3 : Int32) (x4 : Int32) (x5 : Int32) (x6 : Int32) (x7 : Int32) (G : tH) : V_X11_gathers d x1 x2 x3 x4 x5 x6 x7 G = tif (x4 = x3) (tif ((gI G 1130 (0)) < x7) (let G_1 := sI G 1130 (0) (x7)
  let G_2 := sI G_1 1131 (0) (x5)
  V_X11_gathers_48 d x4 (nI 0) G_2)
  (tif (x7 = (gI G 1130 (0))) (tif ((gI G 1131 (0)) < x5) (let G_3 := sI G 1130 (0) (x7)
  let G_4 := sI G_3 1131 (0) (x5)
  V_X11_gathers_48 d x4 (nI 0) G_4)
  (some (none, G)))
  (some (none, G))))
  (tif ((nI 2) = 0) none (tbI (V_X11_atMost (x5 + (x6 / (nI 2))) G) (fun r_6 G_5 => tbI (V_X11_cropOf x1 r_6 x2 G_5) (fun r_8 G_7 => V_X11_gathers_101 d x1 x2 x3 x4 x7 r_6 r_8 (nI 0) G_7)))) := (tgo 99 rfl sk_X11_gathers rfl).trans rfl
set_option maxRecDepth 20000 in
theorem e_X11_gathers_48 (d : Nat) (x4 : Int32) (x8 : Int32) (G : tH) : V_X11_gathers_48 d x4 x8 G = tif (x8 < x4) (tif (tin x8 5) (tif (tin x8 5) (let G_1 := sA G 1129 0 (upd (gA G 1129 0) x8.toNatClampNeg (gA G 1128 0 x8.toNatClampNeg))
  V_X11_gathers_48 d x4 (x8 + (nI 1)) G_1) none) none)
  (some (none, G)) := (tgo 99 rfl sk_X11_gathers rfl).trans rfl
set_option maxRecDepth 20000 in
theorem e_X11_gathers_101 (d : Nat) (x1 : Int32) (x2 : Int32) (x3 : Int32) (x4 : Int32) (x7 : Int32) (x8 : Int32) (x9 : Int32) (x10 : Int32) (G : tH) : V_X11_gathers_101 d x1 x2 x3 x4 x7 x8 x9 x10 G = tif (x10 < (nI 5)) (tif ((nI 4) = 0) none (tif (tin x4 5) (let G_1 := sA G 1128 0 (upd (gA G 1128 0) x4.toNatClampNeg x10)
  tbI (V_X11_titheOf x9 G_1) (fun r_3 G_2 => tbI (V_X11_over ((x10 * x9) / (nI 4)) r_3 G_2) (fun r_5 G_4 => tbI (V_X11_lostBy x1 r_5 G_4) (fun r_7 G_6 => tbI (V_X11_atMost (x8 - r_7) G_6) (fun r_9 G_8 => tbV (cond (Nat.blt ((6 - (x4 + (nI 1)).toInt).toNat + 3) (d + 3) && true) (V_X11_gathers (6 - (x4 + (nI 1)).toInt).toNat x1 x2 x3 (x4 + (nI 1)) r_9 (x9 - ((x10 * x9) / (nI 4))) (x7 + ((x10 * x9) / (nI 4))) G_8) none) (fun G_10 => V_X11_gathers_101 d x1 x2 x3 x4 x7 x8 x9 (x10 + (nI 1)) G_10)))))) none))
  (some (none, G)) := (tgo 99 rfl sk_X11_gathers rfl).trans rfl
def st_X11_gather : List (Nat × List Bool) := []
theorem sk_X11_gather : ∀ pc bs, tstop st_X11_gather pc = some bs → ∃ a, k_X11_gather pc = some (aMk bs a) := tstop_ok (fun _ h => absurd h List.not_mem_nil)
set_option maxRecDepth 20000 in
theorem e_X11_gather (x1 : Int32) (x2 : Int32) (x3 : Int32) (x4 : Int32) (G : tH) : V_X11_gather x1 x2 x3 x4 G = let G_1 := sI G 1100 (0) ((nI 0))
  tbI (V_X11_isTown x1 G_1) (fun r_3 G_2 => tif (r_3 = 0) (some (some (vI (-1 : Int32)), G_2))
  (tbI (V_X11_isHarvest x2 G_2) (fun r_5 G_4 => tif (r_5 = 0) (some (some (vI (-1 : Int32)), G_4))
  (tbI (V_X11_within x3 (nI 1) (nI 5) G_4) (fun r_7 G_6 => tif (r_7 = 0) (some (some (vI (-1 : Int32)), G_6))
  (tbI (V_X11_within x4 (nI 0) ((nI 1) + x3) G_6) (fun r_9 G_8 => tif (r_9 = 0) (some (some (vI (-1 : Int32)), G_8))
  (let G_10 := sI G_8 1130 (0) ((-1 : Int32))
  let G_11 := sI G_10 1131 (0) ((-1 : Int32))
  tif (tin ((nI 5) + x1) 1403) (tif (tin ((nI 11) + x1) 1403) (tbV (V_X11_gathers (6 - (nI 0).toInt).toNat x1 x2 x3 (nI 0) (gA G_11 1124 0 ((nI 5) + x1).toNatClampNeg) (gA G_11 1124 0 ((nI 11) + x1).toNatClampNeg) (nI 0) G_11) (fun G_12 => tif (x4 = 0) (some (some (vI (gI G_12 1130 (0))), G_12))
  (tif (x4 = (nI 1)) (some (some (vI (gI G_12 1131 (0))), G_12))
  (tif (tin (x4 - (nI 2)) 5) (some (some (vI (gA G_12 1129 0 (x4 - (nI 2)).toNatClampNeg)), G_12)) none)))) none) none)))))))) := (tgo 73 rfl sk_X11_gather rfl).trans rfl
def st_X11_meansBy : List (Nat × List Bool) := [(24, [true, true, true, true, true, true, true, true, false, false])]
theorem sk_X11_meansBy : ∀ pc bs, tstop st_X11_meansBy pc = some bs → ∃ a, k_X11_meansBy pc = some (aMk bs a) := tstop_ok (List.forall_mem_cons.mpr ⟨⟨_, rfl⟩, fun _ h => absurd h List.not_mem_nil⟩)
set_option maxRecDepth 20000 in
theorem e_X11_meansBy (x1 : Int32) (x2 : Int32) (x3 : Int32) (x4 : Int32) (G : tH) : V_X11_meansBy x1 x2 x3 x4 G = tif (tin ((nI 5) + x1) 1403) (tif (tin ((nI 11) + x1) 1403) (V_X11_meansBy_24 x1 x2 x3 x4 (gA G 1124 0 ((nI 5) + x1).toNatClampNeg) (gA G 1124 0 ((nI 11) + x1).toNatClampNeg) (nI 0) G) none) none := (tgo 63 rfl sk_X11_meansBy rfl).trans rfl
set_option maxRecDepth 20000 in
theorem e_X11_meansBy_24 (x1 : Int32) (x2 : Int32) (x3 : Int32) (x4 : Int32) (x5 : Int32) (x6 : Int32) (x7 : Int32) (G : tH) : V_X11_meansBy_24 x1 x2 x3 x4 x5 x6 x7 G = tif (x7 < x3) (tif ((nI 2) = 0) none (tbI (V_X11_atMost (x5 + (x6 / (nI 2))) G) (fun r_2 G_1 => tbI (V_X11_cropOf x1 r_2 x2 G_1) (fun r_4 G_3 => tif ((nI 100) = 0) none (tbI (V_X11_titheOf r_4 G_3) (fun r_6 G_5 => tbI (V_X11_over ((x4 * r_4) / (nI 100)) r_6 G_5) (fun r_8 G_7 => tbI (V_X11_lostBy x1 r_8 G_7) (fun r_10 G_9 => tbI (V_X11_atMost (r_2 - r_10) G_9) (fun r_12 G_11 => V_X11_meansBy_24 x1 x2 x3 x4 r_12 (r_4 - ((x4 * r_4) / (nI 100))) (x7 + (nI 1)) G_11)))))))))
  (some (some (vI x5), G)) := (tgo 63 rfl sk_X11_meansBy rfl).trans rfl
def st_X11_rate : List (Nat × List Bool) := [(37, [true, true, true, true, true])]
theorem sk_X11_rate : ∀ pc bs, tstop st_X11_rate pc = some bs → ∃ a, k_X11_rate pc = some (aMk bs a) := tstop_ok (List.forall_mem_cons.mpr ⟨⟨_, rfl⟩, fun _ h => absurd h List.not_mem_nil⟩)
set_option maxRecDepth 20000 in
theorem e_X11_rate (x1 : Int32) (x2 : Int32) (x3 : Int32) (G : tH) : V_X11_rate x1 x2 x3 G = let G_1 := sI G 1100 (0) ((nI 0))
  tbI (V_X11_isTown x1 G_1) (fun r_3 G_2 => tif (r_3 = 0) (some (some (vI (-1 : Int32)), G_2))
  (tbI (V_X11_isHarvest x2 G_2) (fun r_5 G_4 => tif (r_5 = 0) (some (some (vI (-1 : Int32)), G_4))
  (tbI (V_X11_within x3 (nI 1) (nI 20) G_4) (fun r_7 G_6 => tif (r_7 = 0) (some (some (vI (-1 : Int32)), G_6))
  (V_X11_rate_37 x1 x2 x3 (nI 100) G_6)))))) := (tgo 44 rfl sk_X11_rate rfl).trans rfl
set_option maxRecDepth 20000 in
theorem e_X11_rate_37 (x1 : Int32) (x2 : Int32) (x3 : Int32) (x4 : Int32) (G : tH) : V_X11_rate_37 x1 x2 x3 x4 G = tif (0 < x4) (tbI (V_X11_meansBy x1 x2 x3 x4 G) (fun r_2 G_1 => tif (tin ((nI 5) + x1) 1403) (tif (r_2 < (gA G_1 1124 0 ((nI 5) + x1).toNatClampNeg)) (V_X11_rate_37 x1 x2 x3 (x4 + (-1 : Int32)) G_1)
  (some (some (vI x4), G_1))) none))
  (some (some (vI x4), G)) := (tgo 44 rfl sk_X11_rate rfl).trans rfl
def st_X11_pricesOf : List (Nat × List Bool) := [(4, [true, true, true, true])]
theorem sk_X11_pricesOf : ∀ pc bs, tstop st_X11_pricesOf pc = some bs → ∃ a, k_X11_pricesOf pc = some (aMk bs a) := tstop_ok (List.forall_mem_cons.mpr ⟨⟨_, rfl⟩, fun _ h => absurd h List.not_mem_nil⟩)
set_option maxRecDepth 20000 in
theorem e_X11_pricesOf (x1 : Int32) (G : tH) : V_X11_pricesOf x1 G = V_X11_pricesOf_4 x1 (nI 0) (nI 0) G := (tgo 39 rfl sk_X11_pricesOf rfl).trans rfl
set_option maxRecDepth 20000 in
theorem e_X11_pricesOf_4 (x1 : Int32) (x2 : Int32) (x3 : Int32) (G : tH) : V_X11_pricesOf_4 x1 x2 x3 G = tbI (V_X11_jurors G) (fun r_2 G_1 => tif (x3 < r_2) (tif (((x1 >>> (x3 &&& 31)) &&& (nI 1)) = (nI 1)) (tif (tin (((nI 40) + ((nI 2) * x3)) + (nI 1)) 120) (let z_3 : Int32 := x2 + (gA G_1 1110 0 (((nI 40) + ((nI 2) * x3)) + (nI 1)).toNatClampNeg)
  V_X11_pricesOf_4 x1 z_3 (x3 + (nI 1)) G_1) none)
  (V_X11_pricesOf_4 x1 (x2 + (nI 0)) (x3 + (nI 1)) G_1))
  (some (some (vI x2), G_1))) := (tgo 39 rfl sk_X11_pricesOf rfl).trans rfl
def st_X11_free : List (Nat × List Bool) := [(28, [true, true, true, true, false, false]), (65, [true, true, true, true, true, true])]
theorem sk_X11_free : ∀ pc bs, tstop st_X11_free pc = some bs → ∃ a, k_X11_free pc = some (aMk bs a) := tstop_ok (List.forall_mem_cons.mpr ⟨⟨_, rfl⟩, List.forall_mem_cons.mpr ⟨⟨_, rfl⟩, fun _ h => absurd h List.not_mem_nil⟩⟩)
set_option maxRecDepth 20000 in
theorem e_X11_free (x1 : Int32) (G : tH) : V_X11_free x1 G = let G_1 := sI G 1100 (0) ((nI 0))
  tbI (V_X11_within x1 (nI 0) (nI 1) G_1) (fun r_3 G_2 => tif (r_3 = 0) (some (some (vI (-1 : Int32)), G_2))
  (tbI (V_X11_isHeld (nI 0) G_2) (fun r_5 G_4 => tif (r_5 = 0) (some (some (vI (-1 : Int32)), G_4))
  (V_X11_free_28 x1 (-1 : Int32) (nI 0) G_4)))) := (tgo 88 rfl sk_X11_free rfl).trans rfl
set_option maxRecDepth 20000 in
theorem e_X11_free_28 (x1 : Int32) (x2 : Int32) (x3 : Int32) (G : tH) : V_X11_free_28 x1 x2 x3 G = tbI (V_X11_jurors G) (fun r_2 G_1 => tif (x3 < ((nI 1) <<< (r_2 &&& 31))) (tif (x2 < 0) (V_X11_free_65 x1 x2 x3 (nI 1) (nI 0) G_1)
  (tbI (V_X11_pricesOf x3 G_1) (fun r_4 G_3 => tbI (V_X11_pricesOf x2 G_3) (fun r_6 G_5 => tif (r_4 < r_6) (V_X11_free_65 x1 x2 x3 (nI 1) (nI 0) G_5)
  (V_X11_free_65 x1 x2 x3 (nI 0) (nI 0) G_5)))))
  (tif (x1 = 0) (tbI (V_X11_pricesOf x2 G_1) (fun r_8 G_7 => some (some (vI r_8), G_7)))
  (some (some (vI x2), G_1)))) := (tgo 88 rfl sk_X11_free rfl).trans rfl
set_option maxRecDepth 20000 in
theorem e_X11_free_65 (x1 : Int32) (x2 : Int32) (x3 : Int32) (x4 : Int32) (x5 : Int32) (G : tH) : V_X11_free_65 x1 x2 x3 x4 x5 G = tbI (V_X11_jurors G) (fun r_2 G_1 => tif (x5 < r_2) (tif (x4 = 0) (V_X11_free_65 x1 x2 x3 (nI 0) (x5 + (nI 1)) G_1)
  (tif (((x3 >>> (x5 &&& 31)) &&& (nI 1)) = 0) (V_X11_free_65 x1 x2 x3 (nI 1) (x5 + (nI 1)) G_1)
  (tbI (V_X11_letsGo (nI 0) x5 G_1) (fun r_4 G_3 => tif (r_4 = 0) (V_X11_free_65 x1 x2 x3 (nI 1) (x5 + (nI 1)) G_3)
  (V_X11_free_65 x1 x2 x3 (nI 0) (x5 + (nI 1)) G_3)))))
  (tif (x4 = 0) (V_X11_free_28 x1 x2 (x3 + (nI 1)) G_1)
  (tbI (V_X11_isFree (nI 0) x3 G_1) (fun r_6 G_5 => tif (r_6 = 0) (V_X11_free_28 x1 x2 (x3 + (nI 1)) G_5)
  (V_X11_free_28 x1 x3 (x3 + (nI 1)) G_5))))) := (tgo 88 rfl sk_X11_free rfl).trans rfl
def st_X11_agree : List (Nat × List Bool) := [(52, [true, true, true, true, false, false]), (69, [true, true, true, true, true, true])]
theorem sk_X11_agree : ∀ pc bs, tstop st_X11_agree pc = some bs → ∃ a, k_X11_agree pc = some (aMk bs a) := tstop_ok (List.forall_mem_cons.mpr ⟨⟨_, rfl⟩, List.forall_mem_cons.mpr ⟨⟨_, rfl⟩, fun _ h => absurd h List.not_mem_nil⟩⟩)
set_option maxRecDepth 20000 in
theorem e_X11_agree (x1 : Int32) (x2 : Int32) (G : tH) : V_X11_agree x1 x2 G = let G_1 := sI G 1100 (0) ((nI 0))
  tbI (V_X11_isCompany x1 G_1) (fun r_3 G_2 => tif (r_3 = 0) (some (some (vI (-1 : Int32)), G_2))
  (tbI (V_X11_isCompany x2 G_2) (fun r_5 G_4 => tif (r_5 = 0) (some (some (vI (-1 : Int32)), G_4))
  (tif (x1 = x2) (some (some (vI (-1 : Int32)), G_4))
  (tbI (V_X11_isHeld (nI 0) G_4) (fun r_7 G_6 => tif (r_7 = 0) (tbI (V_X11_highest (nI 0) G_6) (fun r_9 G_8 => tif (r_9 = x1) (V_X11_agree_52 x1 x2 r_9 G_8)
  (tif (r_9 = x2) (V_X11_agree_52 x1 x2 r_9 G_8)
  (some (some (vI (nI 0)), G_8)))))
  (some (some (vI (-1 : Int32)), G_6)))))))) := (tgo 92 rfl sk_X11_agree rfl).trans rfl
set_option maxRecDepth 20000 in
theorem e_X11_agree_52 (x1 : Int32) (x2 : Int32) (x3 : Int32) (G : tH) : V_X11_agree_52 x1 x2 x3 G = tbI (V_X11_sortOf x3 G) (fun r_2 G_1 => tif (r_2 = (nI 1)) (some (some (vI (nI 0)), G_1))
  (V_X11_agree_69 x1 x2 x3 (nI 0) (nI 0) G_1)) := (tgo 92 rfl sk_X11_agree rfl).trans rfl
set_option maxRecDepth 20000 in
theorem e_X11_agree_69 (x1 : Int32) (x2 : Int32) (x3 : Int32) (x4 : Int32) (x5 : Int32) (G : tH) : V_X11_agree_69 x1 x2 x3 x4 x5 G = tbI (V_X11_companies G) (fun r_2 G_1 => tif (x5 < r_2) (tif (x5 = x1) (V_X11_agree_69 x1 x2 x3 x4 (x5 + (nI 1)) G_1)
  (tif (x5 = x2) (V_X11_agree_69 x1 x2 x3 x4 (x5 + (nI 1)) G_1)
  (tif (tin ((nI 46) + x5) 1403) (tif (x4 < (gA G_1 1124 0 ((nI 46) + x5).toNatClampNeg)) (tif (tin ((nI 46) + x5) 1403) (V_X11_agree_69 x1 x2 x3 (gA G_1 1124 0 ((nI 46) + x5).toNatClampNeg) (x5 + (nI 1)) G_1) none)
  (V_X11_agree_69 x1 x2 x3 x4 (x5 + (nI 1)) G_1)) none)))
  (tif (tin ((nI 46) + x3) 1403) (tif ((((gA G_1 1124 0 ((nI 46) + x3).toNatClampNeg) - x4) - (nI 1)) < 0) (some (some (vI (nI 0)), G_1))
  (some (some (vI (((gA G_1 1124 0 ((nI 46) + x3).toNatClampNeg) - x4) - (nI 1))), G_1))) none)) := (tgo 92 rfl sk_X11_agree rfl).trans rfl
def st_X11_tale : List (Nat × List Bool) := []
theorem sk_X11_tale : ∀ pc bs, tstop st_X11_tale pc = some bs → ∃ a, k_X11_tale pc = some (aMk bs a) := tstop_ok (fun _ h => absurd h List.not_mem_nil)
set_option maxRecDepth 20000 in
theorem e_X11_tale (x1 : Int32) (x2 : Int32) (G : tH) : V_X11_tale x1 x2 G = let G_1 := sI G 1100 (0) ((nI 0))
  tbI (V_X11_isCompany x1 G_1) (fun r_3 G_2 => tif (r_3 = 0) (tif (vp_nar .boolean (nI 0) = (nI 0)) (some (some (vI (nI 0)), G_2)) none)
  (tbI (V_X11_within x2 (nI 0) (nI 99999) G_2) (fun r_5 G_4 => tif (r_5 = 0) (tif (vp_nar .boolean (nI 0) = (nI 0)) (some (some (vI (nI 0)), G_4)) none)
  (tif (tin ((nI 56) + x1) 1403) (let G_6 := sA G_4 1124 0 (upd (gA G_4 1124 0) ((nI 56) + x1).toNatClampNeg x2)
  tif (vp_nar .boolean (nI 1) = (nI 1)) (some (some (vI (nI 1)), G_6)) none) none)))) := (tgo 28 rfl sk_X11_tale rfl).trans rfl
def st_X11_findKnew : List (Nat × List Bool) := [(29, [true, true, true])]
theorem sk_X11_findKnew : ∀ pc bs, tstop st_X11_findKnew pc = some bs → ∃ a, k_X11_findKnew pc = some (aMk bs a) := tstop_ok (List.forall_mem_cons.mpr ⟨⟨_, rfl⟩, fun _ h => absurd h List.not_mem_nil⟩)
set_option maxRecDepth 20000 in
theorem e_X11_findKnew (x1 : Int32) (G : tH) : V_X11_findKnew x1 G = let G_1 := sI G 1127 (0) ((-1 : Int32))
  let G_2 := sI G_1 1132 (0) ((nI 0))
  tbI (V_X11_harvests G_2) (fun r_4 G_3 => let G_5 := sI G_3 1133 (0) (((nI 1) <<< (r_4 &&& 31)) - (nI 1))
  let G_6 := sI G_5 1134 (0) ((nI 0))
  V_X11_findKnew_29 x1 (nI 1) G_6) := (tgo 61 rfl sk_X11_findKnew rfl).trans rfl
set_option maxRecDepth 20000 in
theorem e_X11_findKnew_29 (x1 : Int32) (x2 : Int32) (G : tH) : V_X11_findKnew_29 x1 x2 G = tbI (V_X11_harvests G) (fun r_2 G_1 => tif (x2 < ((nI 1) <<< (r_2 &&& 31))) (tbI (V_X11_worthBy x2 G_1) (fun r_4 G_3 => tif (tin ((nI 56) + x1) 1403) (tif (r_4 = (gA G_3 1124 0 ((nI 56) + x1).toNatClampNeg)) (let G_5 := sI G_3 1132 (0) ((gI G_3 1132 (0)) + (nI 1))
  let G_6 := sI G_5 1133 (0) ((gI G_5 1133 (0)) &&& x2)
  let G_7 := sI G_6 1134 (0) ((gI G_6 1134 (0)) ||| x2)
  V_X11_findKnew_29 x1 (x2 + (nI 1)) G_7)
  (V_X11_findKnew_29 x1 (x2 + (nI 1)) G_3)) none))
  (some (none, G_1))) := (tgo 61 rfl sk_X11_findKnew rfl).trans rfl
def st_X11_knew : List (Nat × List Bool) := []
theorem sk_X11_knew : ∀ pc bs, tstop st_X11_knew pc = some bs → ∃ a, k_X11_knew pc = some (aMk bs a) := tstop_ok (fun _ h => absurd h List.not_mem_nil)
set_option maxRecDepth 20000 in
theorem e_X11_knew (x1 : Int32) (x2 : Int32) (G : tH) : V_X11_knew x1 x2 G = let G_1 := sI G 1100 (0) ((nI 0))
  tbI (V_X11_isCompany x1 G_1) (fun r_3 G_2 => tif (r_3 = 0) (some (some (vI (-1 : Int32)), G_2))
  (tbI (V_X11_within x2 (nI 0) (nI 2) G_2) (fun r_5 G_4 => tif (r_5 = 0) (some (some (vI (-1 : Int32)), G_4))
  (tif (tin ((nI 56) + x1) 1403) (tif ((gA G_4 1124 0 ((nI 56) + x1).toNatClampNeg) < 0) (some (some (vI (-1 : Int32)), G_4))
  (tbV (V_X11_findKnew x1 G_4) (fun G_6 => tif (x2 = 0) (some (some (vI (gI G_6 1132 (0))), G_6))
  (tif ((gI G_6 1132 (0)) = 0) (some (some (vI (-1 : Int32)), G_6))
  (tif (x2 = (nI 1)) (some (some (vI (gI G_6 1133 (0))), G_6))
  (some (some (vI (gI G_6 1134 (0))), G_6))))))) none)))) := (tgo 48 rfl sk_X11_knew rfl).trans rfl
def st_X11_secret : List (Nat × List Bool) := [(16, [true, true, true])]
theorem sk_X11_secret : ∀ pc bs, tstop st_X11_secret pc = some bs → ∃ a, k_X11_secret pc = some (aMk bs a) := tstop_ok (List.forall_mem_cons.mpr ⟨⟨_, rfl⟩, fun _ h => absurd h List.not_mem_nil⟩)
set_option maxRecDepth 20000 in
theorem e_X11_secret (G : tH) : V_X11_secret  G = let G_1 := sI G 1100 (0) ((nI 0))
  tbI (V_X11_harvests G_1) (fun r_3 G_2 => V_X11_secret_16 (((nI 1) <<< (r_3 &&& 31)) - (nI 1)) (nI 0) G_2) := (tgo 40 rfl sk_X11_secret rfl).trans rfl
set_option maxRecDepth 20000 in
theorem e_X11_secret_16 (x1 : Int32) (x2 : Int32) (G : tH) : V_X11_secret_16 x1 x2 G = tbI (V_X11_companies G) (fun r_2 G_1 => tif (x2 < r_2) (tif (tin ((nI 56) + x2) 1403) (tif ((gA G_1 1124 0 ((nI 56) + x2).toNatClampNeg) < 0) (V_X11_secret_16 x1 (x2 + (nI 1)) G_1)
  (tbV (V_X11_findKnew x2 G_1) (fun G_3 => V_X11_secret_16 (x1 &&& (gI G_3 1134 (0))) (x2 + (nI 1)) G_3))) none)
  (some (some (vI x1), G_1))) := (tgo 40 rfl sk_X11_secret rfl).trans rfl
def st_X11_greatestAlike : List (Nat × List Bool) := [(9, [true, false, true, true, false, false]), (51, [true, false, true, true, false, false]), (67, [true, false, true, true, true, true]), (129, [true, false, true, true, true, false])]
theorem sk_X11_greatestAlike : ∀ pc bs, tstop st_X11_greatestAlike pc = some bs → ∃ a, k_X11_greatestAlike pc = some (aMk bs a) := tstop_ok (List.forall_mem_cons.mpr ⟨⟨_, rfl⟩, List.forall_mem_cons.mpr ⟨⟨_, rfl⟩, List.forall_mem_cons.mpr ⟨⟨_, rfl⟩, List.forall_mem_cons.mpr ⟨⟨_, rfl⟩, fun _ h => absurd h List.not_mem_nil⟩⟩⟩⟩)
set_option maxRecDepth 20000 in
theorem e_X11_greatestAlike (x1 : Int32) (G : tH) : V_X11_greatestAlike x1 G = let G_1 := sI G 1127 (0) (x1)
  V_X11_greatestAlike_9 (nI 0) (nI 1) G_1 := (tgo 93 rfl sk_X11_greatestAlike rfl).trans rfl
set_option maxRecDepth 20000 in
theorem e_X11_greatestAlike_9 (x2 : Int32) (x3 : Int32) (G : tH) : V_X11_greatestAlike_9 x2 x3 G = tbI (V_X11_harvests G) (fun r_2 G_1 => tif (x3 < ((nI 1) <<< (r_2 &&& 31))) (tif (tin x3 32) (tif ((gA G_1 1136 0 x3.toNatClampNeg) = 0) (tif (tin x3 32) (let G_3 := sA G_1 1135 0 (upd (gA G_1 1135 0) x3.toNatClampNeg (-1 : Int32))
  V_X11_greatestAlike_9 x2 (x3 + (nI 1)) G_3) none)
  (tbI (V_X11_worthBy x3 G_1) (fun r_5 G_4 => tif (tin x3 32) (let G_6 := sA G_4 1135 0 (upd (gA G_4 1135 0) x3.toNatClampNeg r_5)
  V_X11_greatestAlike_9 x2 (x3 + (nI 1)) G_6) none))) none)
  (V_X11_greatestAlike_51 x2 (nI 1) G_1)) := (tgo 93 rfl sk_X11_greatestAlike rfl).trans rfl
set_option maxRecDepth 20000 in
theorem e_X11_greatestAlike_51 (x2 : Int32) (x3 : Int32) (G : tH) : V_X11_greatestAlike_51 x2 x3 G = tbI (V_X11_harvests G) (fun r_2 G_1 => tif (x3 < ((nI 1) <<< (r_2 &&& 31))) (V_X11_greatestAlike_67 x2 x3 (nI 0) (nI 1) G_1)
  (let G_3 := sI G_1 1127 (0) ((-1 : Int32))
  some (some (vI x2), G_3))) := (tgo 93 rfl sk_X11_greatestAlike rfl).trans rfl
set_option maxRecDepth 20000 in
theorem e_X11_greatestAlike_67 (x2 : Int32) (x3 : Int32) (x4 : Int32) (x5 : Int32) (G : tH) : V_X11_greatestAlike_67 x2 x3 x4 x5 G = tbI (V_X11_harvests G) (fun r_2 G_1 => tif (x5 < ((nI 1) <<< (r_2 &&& 31))) (tif (tin x3 32) (tif ((gA G_1 1136 0 x3.toNatClampNeg) = 0) (V_X11_greatestAlike_129 x2 x3 x4 G_1)
  (tif (tin x5 32) (tif ((gA G_1 1136 0 x5.toNatClampNeg) = 0) (V_X11_greatestAlike_67 x2 x3 (x4 + (nI 0)) (x5 + (nI 1)) G_1)
  (tif (tin x5 32) (tif (tin x3 32) (tif ((gA G_1 1135 0 x5.toNatClampNeg) = (gA G_1 1135 0 x3.toNatClampNeg)) (V_X11_greatestAlike_67 x2 x3 (x4 + (nI 1)) (x5 + (nI 1)) G_1)
  (V_X11_greatestAlike_67 x2 x3 (x4 + (nI 0)) (x5 + (nI 1)) G_1)) none) none)) none)) none)
  (V_X11_greatestAlike_129 x2 x3 x4 G_1)) := (tgo 93 rfl sk_X11_greatestAlike rfl).trans rfl
set_option maxRecDepth 20000 in
theorem e_X11_greatestAlike_129 (x2 : Int32) (x3 : Int32) (x4 : Int32) (G : tH) : V_X11_greatestAlike_129 x2 x3 x4 G = tif (x2 < x4) (V_X11_greatestAlike_51 x4 (x3 + (nI 1)) G)
  (V_X11_greatestAlike_51 x2 (x3 + (nI 1)) G) := (tgo 93 rfl sk_X11_greatestAlike rfl).trans rfl
def st_X11_next : List (Nat × List Bool) := [(14, [true, true, true, false, false, false]), (55, [true, true, true, false, false, false]), (109, [true, false, true, true, true, false]), (138, [true, false, false, true, true, true])]
theorem sk_X11_next : ∀ pc bs, tstop st_X11_next pc = some bs → ∃ a, k_X11_next pc = some (aMk bs a) := tstop_ok (List.forall_mem_cons.mpr ⟨⟨_, rfl⟩, List.forall_mem_cons.mpr ⟨⟨_, rfl⟩, List.forall_mem_cons.mpr ⟨⟨_, rfl⟩, List.forall_mem_cons.mpr ⟨⟨_, rfl⟩, fun _ h => absurd h List.not_mem_nil⟩⟩⟩⟩)
set_option maxRecDepth 20000 in
theorem e_X11_next (G : tH) : V_X11_next  G = let G_1 := sI G 1100 (0) ((nI 0))
  tbI (V_X11_companies G_1) (fun r_3 G_2 => V_X11_next_14 (-1 : Int32) (r_3 - (nI 1)) G_2) := (tgo 97 rfl sk_X11_next rfl).trans rfl
set_option maxRecDepth 20000 in
theorem e_X11_next_14 (x1 : Int32) (x2 : Int32) (G : tH) : V_X11_next_14 x1 x2 G = tif (x2 < 0) (tif (x1 < 0) (some (some (vI (-1 : Int32)), G))
  (tbV (V_X11_findKnew x1 G) (fun G_1 => V_X11_next_55 x1 (nI 1) G_1)))
  (tif (tin ((nI 56) + x2) 1403) (tif ((gA G 1124 0 ((nI 56) + x2).toNatClampNeg) < 0) (V_X11_next_14 x1 (x2 + (-1 : Int32)) G)
  (V_X11_next_14 x2 (x2 + (-1 : Int32)) G)) none) := (tgo 97 rfl sk_X11_next rfl).trans rfl
set_option maxRecDepth 20000 in
theorem e_X11_next_55 (x1 : Int32) (x2 : Int32) (G : tH) : V_X11_next_55 x1 x2 G = tbI (V_X11_harvests G) (fun r_2 G_1 => tif (x2 < ((nI 1) <<< (r_2 &&& 31))) (tbI (V_X11_worthBy x2 G_1) (fun r_4 G_3 => tif (tin ((nI 56) + x1) 1403) (tif (r_4 = (gA G_3 1124 0 ((nI 56) + x1).toNatClampNeg)) (tif (tin x2 32) (let G_5 := sA G_3 1136 0 (upd (gA G_3 1136 0) x2.toNatClampNeg (vp_nar .boolean (nI 1)))
  V_X11_next_55 x1 (x2 + (nI 1)) G_5) none)
  (tif (tin x2 32) (let G_6 := sA G_3 1136 0 (upd (gA G_3 1136 0) x2.toNatClampNeg (vp_nar .boolean (nI 0)))
  V_X11_next_55 x1 (x2 + (nI 1)) G_6) none)) none))
  (V_X11_next_109 (-1 : Int32) (gI G_1 1132 (0)) (nI 0) G_1)) := (tgo 97 rfl sk_X11_next rfl).trans rfl
set_option maxRecDepth 20000 in
theorem e_X11_next_109 (x2 : Int32) (x3 : Int32) (x4 : Int32) (G : tH) : V_X11_next_109 x2 x3 x4 G = tbI (V_X11_towns G) (fun r_2 G_1 => tif (x4 < r_2) (tbI (V_X11_greatestAlike x4 G_1) (fun r_4 G_3 => tif (r_4 < x3) (V_X11_next_138 x3 x4 r_4 x4 G_3)
  (V_X11_next_138 x3 x4 r_4 x2 G_3)))
  (some (some (vI x2), G_1))) := (tgo 97 rfl sk_X11_next rfl).trans rfl
set_option maxRecDepth 20000 in
theorem e_X11_next_138 (x3 : Int32) (x4 : Int32) (x5 : Int32) (s0 : Int32) (G : tH) : V_X11_next_138 x3 x4 x5 s0 G = tif (x5 < x3) (V_X11_next_109 s0 x5 (x4 + (nI 1)) G)
  (V_X11_next_109 s0 x3 (x4 + (nI 1)) G) := (tgo 97 rfl sk_X11_next rfl).trans rfl
