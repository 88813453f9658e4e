/-! the equations: X11f -/
def st_X11_getsBy : List (Nat × List Bool) := []
theorem sk_X11_getsBy : ∀ pc bs, tstop st_X11_getsBy pc = some bs → ∃ a, k_X11_getsBy pc = some (aMk bs a) := tstop_ok (fun _ h => absurd h List.not_mem_nil)
set_option maxRecDepth 20000 in
theorem e_X11_getsBy (x0 : Int32) (x1 : Int32) (x2 : Int32) (G : tH) : V_X11_getsBy x0 x1 x2 G = tif (x2 < x1) (some (some (vI (x0 - x1)), G))
  (tif (x1 = x2) (tif ((nI 2) = 0) none (some (some (vI ((x0 - x1) / (nI 2))), G)))
  (some (some (vI (nI 0)), G))) := (tgo 23 rfl sk_X11_getsBy rfl).trans rfl
def st_X11_rests : List (Nat × List Bool) := [(41, [true, true, true, true, true, true, true, true, false, false, false, false]), (73, [true, true, true, true, true, true, true, true, true, true, true, true]), (152, [true, true, true, true, true, true, true, true, false, false, true, false]), (154, [true, true, true, true, true, true, false, true, false, false, true, false]), (177, [true, false, false, true, true, true, true, false, false, false, false, false]), (192, [true, false, false, true, false, true, true, false, false, false, false, false]), (196, [true, false, false, true, false, true, true, false, false, false, false, false]), (197, [true, false, false, true, false, true, true, false, false, false, false, false])]
theorem sk_X11_rests : ∀ pc bs, tstop st_X11_rests pc = some bs → ∃ a, k_X11_rests pc = some (aMk bs a) := tstop_ok (List.forall_mem_cons.mpr ⟨⟨_, rfl⟩, List.forall_mem_cons.mpr ⟨⟨_, rfl⟩, List.forall_mem_cons.mpr ⟨⟨_, rfl⟩, List.forall_mem_cons.mpr ⟨⟨_, rfl⟩, List.forall_mem_cons.mpr ⟨⟨_, rfl⟩, List.forall_mem_cons.mpr ⟨⟨_, rfl⟩, List.forall_mem_cons.mpr ⟨⟨_, rfl⟩, List.forall_mem_cons.mpr ⟨⟨_, rfl⟩, fun _ h => absurd h List.not_mem_nil⟩⟩⟩⟩⟩⟩⟩⟩)
set_option maxRecDepth 20000 in
theorem e_X11_rests (x1 : Int32) (x2 : Int32) (x3 : Int32) (G : tH) : V_X11_rests x1 x2 x3 G = tbI (V_X11_within x1 (nI 0) (nI 9) G) (fun r_2 G_1 => tif (r_2 = 0) (V_X11_rests_41 x1 x2 x3 (nI 0) (nI 0) (-1 : Int32) (nI 0) G_1)
  (tbI (V_X11_within x2 (nI 0) (nI 9) G_1) (fun r_4 G_3 => tif (r_4 = 0) (V_X11_rests_41 x1 x2 x3 (nI 0) (nI 0) (-1 : Int32) (nI 0) G_3)
  (tif (x3 < (-1 : Int32)) (V_X11_rests_41 x1 x2 x3 (nI 0) (nI 0) (-1 : Int32) (nI 0) G_3)
  (V_X11_rests_41 x1 x2 x3 (nI 1) (nI 0) (-1 : Int32) (nI 0) G_3))))) := (tgo 115 rfl sk_X11_rests rfl).trans rfl
set_option maxRecDepth 20000 in
theorem e_X11_rests_41 (x1 : Int32) (x2 : Int32) (x3 : Int32) (x4 : Int32) (x5 : Int32) (x6 : Int32) (x7 : Int32) (G : tH) : V_X11_rests_41 x1 x2 x3 x4 x5 x6 x7 G = tif (x7 < (nI 100)) (tif (x4 = 0) (V_X11_rests_177 x3 x4 x5 x6 G)
  (tif ((nI 10) = 0) none (tif ((nI 10) = 0) none (V_X11_rests_73 x1 x2 x3 x4 x5 x6 x7 (x7 / (nI 10)) (x7 - x7 / (nI 10) * (nI 10)) (nI 1) (nI 0) G))))
  (V_X11_rests_177 x3 x4 x5 x6 G) := (tgo 115 rfl sk_X11_rests rfl).trans rfl
set_option maxRecDepth 20000 in
theorem e_X11_rests_73 (x1 : Int32) (x2 : Int32) (x3 : Int32) (x4 : Int32) (x5 : Int32) (x6 : Int32) (x7 : Int32) (x8 : Int32) (x9 : Int32) (x10 : Int32) (x11 : Int32) (G : tH) : V_X11_rests_73 x1 x2 x3 x4 x5 x6 x7 x8 x9 x10 x11 G = tif (x11 < (nI 10)) (tif (x10 = 0) (V_X11_rests_73 x1 x2 x3 x4 x5 x6 x7 x8 x9 (nI 0) (x11 + (nI 1)) G)
  (tbI (V_X11_getsBy x1 x11 x9 G) (fun r_2 G_1 => tbI (V_X11_getsBy x1 x8 x9 G_1) (fun r_4 G_3 => tif (r_4 < r_2) (V_X11_rests_73 x1 x2 x3 x4 x5 x6 x7 x8 x9 (nI 0) (x11 + (nI 1)) G_3)
  (tbI (V_X11_getsBy x2 x11 x8 G_3) (fun r_6 G_5 => tbI (V_X11_getsBy x2 x9 x8 G_5) (fun r_8 G_7 => tif (r_8 < r_6) (V_X11_rests_73 x1 x2 x3 x4 x5 x6 x7 x8 x9 (nI 0) (x11 + (nI 1)) G_7)
  (V_X11_rests_73 x1 x2 x3 x4 x5 x6 x7 x8 x9 (nI 1) (x11 + (nI 1)) G_7))))))))
  (tif (x10 = 0) (V_X11_rests_152 x1 x2 x3 x4 x5 x6 x7 x10 G)
  (tif (x5 = x3) (V_X11_rests_154 x1 x2 x3 x4 x5 x7 x10 x7 G)
  (V_X11_rests_152 x1 x2 x3 x4 x5 x6 x7 x10 G))) := (tgo 115 rfl sk_X11_rests rfl).trans rfl
set_option maxRecDepth 20000 in
theorem e_X11_rests_152 (x1 : Int32) (x2 : Int32) (x3 : Int32) (x4 : Int32) (x5 : Int32) (x6 : Int32) (x7 : Int32) (x10 : Int32) (G : tH) : V_X11_rests_152 x1 x2 x3 x4 x5 x6 x7 x10 G = V_X11_rests_154 x1 x2 x3 x4 x5 x7 x10 x6 G := (tgo 115 rfl sk_X11_rests rfl).trans rfl
set_option maxRecDepth 20000 in
theorem e_X11_rests_154 (x1 : Int32) (x2 : Int32) (x3 : Int32) (x4 : Int32) (x5 : Int32) (x7 : Int32) (x10 : Int32) (s0 : Int32) (G : tH) : V_X11_rests_154 x1 x2 x3 x4 x5 x7 x10 s0 G = tif (x10 = 0) (V_X11_rests_41 x1 x2 x3 x4 (x5 + (nI 0)) s0 (x7 + (nI 1)) G)
  (V_X11_rests_41 x1 x2 x3 x4 (x5 + (nI 1)) s0 (x7 + (nI 1)) G) := (tgo 115 rfl sk_X11_rests rfl).trans rfl
set_option maxRecDepth 20000 in
theorem e_X11_rests_177 (x3 : Int32) (x4 : Int32) (x5 : Int32) (x6 : Int32) (G : tH) : V_X11_rests_177 x3 x4 x5 x6 G = tif (x4 = 0) (V_X11_rests_196 x3 x5 x6 G)
  (tif (x3 < 0) (V_X11_rests_192 x3 x5 x6 G)
  (tif (x6 < 0) (V_X11_rests_196 x3 x5 x6 G)
  (V_X11_rests_192 x3 x5 x6 G))) := (tgo 115 rfl sk_X11_rests rfl).trans rfl
set_option maxRecDepth 20000 in
theorem e_X11_rests_192 (x3 : Int32) (x5 : Int32) (x6 : Int32) (G : tH) : V_X11_rests_192 x3 x5 x6 G = V_X11_rests_197 x3 x5 x6 (nI 0) G := (tgo 115 rfl sk_X11_rests rfl).trans rfl
set_option maxRecDepth 20000 in
theorem e_X11_rests_196 (x3 : Int32) (x5 : Int32) (x6 : Int32) (G : tH) : V_X11_rests_196 x3 x5 x6 G = V_X11_rests_197 x3 x5 x6 (nI 1) G := (tgo 115 rfl sk_X11_rests rfl).trans rfl
set_option maxRecDepth 20000 in
theorem e_X11_rests_197 (x3 : Int32) (x5 : Int32) (x6 : Int32) (s1 : Int32) (G : tH) : V_X11_rests_197 x3 x5 x6 s1 G = let G_1 := sI G 1100 (0) (s1)
  tif (0 < (gI G_1 1100 (0))) (some (some (vI (nI 0)), G_1))
  (tif (x3 < 0) (some (some (vI x5), G_1))
  (some (some (vI x6), G_1))) := (tgo 115 rfl sk_X11_rests rfl).trans rfl
def st_X11_draw : List (Nat × List Bool) := []
theorem sk_X11_draw : ∀ pc bs, tstop st_X11_draw pc = some bs → ∃ a, k_X11_draw pc = some (aMk bs a) := tstop_ok (fun _ h => absurd h List.not_mem_nil)
set_option maxRecDepth 20000 in
theorem e_X11_draw (x1 : Int32) (G : tH) : V_X11_draw x1 G = tif ((lN 2147483648) = 0) none (let G_1 := sL G 1137 (0) ((((gL G 1137 (0)) * (lN 1103515245)) + (lN 12345)) - (((gL G 1137 (0)) * (lN 1103515245)) + (lN 12345)) / (lN 2147483648) * (lN 2147483648))
  tif ((lN 65536) = 0) none (tif (x1.toInt64 = 0) none (some (some (vI ((((gL G_1 1137 (0)) / (lN 65536)) - ((gL G_1 1137 (0)) / (lN 65536)) / x1.toInt64 * x1.toInt64).toInt32)), G_1)))) := (tgo 24 rfl sk_X11_draw rfl).trans rfl
def st_X11_drawsBids : List (Nat × List Bool) := [(2, [true, true, false]), (56, [true, false, false])]
theorem sk_X11_drawsBids : ∀ pc bs, tstop st_X11_drawsBids pc = some bs → ∃ a, k_X11_drawsBids pc = some (aMk bs a) := tstop_ok (List.forall_mem_cons.mpr ⟨⟨_, rfl⟩, List.forall_mem_cons.mpr ⟨⟨_, rfl⟩, fun _ h => absurd h List.not_mem_nil⟩⟩)
set_option maxRecDepth 20000 in
theorem e_X11_drawsBids (G : tH) : V_X11_drawsBids  G = V_X11_drawsBids_2 (nI 0) G := (tgo 43 rfl sk_X11_drawsBids rfl).trans rfl
set_option maxRecDepth 20000 in
theorem e_X11_drawsBids_2 (x1 : Int32) (G : tH) : V_X11_drawsBids_2 x1 G = tbI (V_X11_companies G) (fun r_2 G_1 => tif (x1 < r_2) (tbI (V_X11_isHeld (nI 1342) G_1) (fun r_4 G_3 => tif (r_4 = 0) (tbI (V_X11_draw (nI 100) G_3) (fun r_6 G_5 => tbI (V_X11_mayBid (nI 1342) x1 r_6 G_5) (fun r_8 G_7 => tif (r_8 = 0) (V_X11_drawsBids_2 (x1 + (nI 1)) G_7)
  (tif (tin ((nI 1388) + x1) 1403) (let G_9 := sA G_7 1124 0 (upd (gA G_7 1124 0) ((nI 1388) + x1).toNatClampNeg r_6)
  V_X11_drawsBids_2 (x1 + (nI 1)) G_9) none))))
  (V_X11_drawsBids_56 G_3)))
  (V_X11_drawsBids_56 G_1)) := (tgo 43 rfl sk_X11_drawsBids rfl).trans rfl
set_option maxRecDepth 20000 in
theorem e_X11_drawsBids_56 (G : tH) : V_X11_drawsBids_56  G = tbI (V_X11_mayAward (nI 1342) G) (fun r_2 G_1 => tif (r_2 = 0) (some (none, G_1))
  (tbI (V_X11_awards (nI 1342) G_1) (fun r_4 G_3 => some (none, G_3)))) := (tgo 43 rfl sk_X11_drawsBids rfl).trans rfl
def st_X11_drawsYear : List (Nat × List Bool) := [(4, [true, true, true, false, false, false, false, false]), (35, [true, false, true, true, false, false, false, false]), (85, [true, false, false, false, true, true, false, false]), (137, [true, false, false, false, true, true, true, false]), (178, [true, false, false, false, true, true, true, false])]
theorem sk_X11_drawsYear : ∀ pc bs, tstop st_X11_drawsYear pc = some bs → ∃ a, k_X11_drawsYear pc = some (aMk bs a) := tstop_ok (List.forall_mem_cons.mpr ⟨⟨_, rfl⟩, List.forall_mem_cons.mpr ⟨⟨_, rfl⟩, List.forall_mem_cons.mpr ⟨⟨_, rfl⟩, List.forall_mem_cons.mpr ⟨⟨_, rfl⟩, List.forall_mem_cons.mpr ⟨⟨_, rfl⟩, fun _ h => absurd h List.not_mem_nil⟩⟩⟩⟩⟩)
set_option maxRecDepth 20000 in
theorem e_X11_drawsYear (G : tH) : V_X11_drawsYear  G = V_X11_drawsYear_4 (nI 0) (nI 0) G := (tgo 136 rfl sk_X11_drawsYear rfl).trans rfl
set_option maxRecDepth 20000 in
theorem e_X11_drawsYear_4 (x1 : Int32) (x2 : Int32) (G : tH) : V_X11_drawsYear_4 x1 x2 G = tbI (V_X11_harvests G) (fun r_2 G_1 => tif (x2 < r_2) (tbI (V_X11_harvestOf x2 (nI 1) G_1) (fun r_4 G_3 => V_X11_drawsYear_4 (x1 + r_4) (x2 + (nI 1)) G_3))
  (tbI (V_X11_draw x1 G_1) (fun r_6 G_5 => V_X11_drawsYear_35 r_6 (nI 0) G_5))) := (tgo 136 rfl sk_X11_drawsYear rfl).trans rfl
set_option maxRecDepth 20000 in
theorem e_X11_drawsYear_35 (x2 : Int32) (x3 : Int32) (G : tH) : V_X11_drawsYear_35 x2 x3 G = tbI (V_X11_harvestOf x3 (nI 1) G) (fun r_2 G_1 => tif (x2 < r_2) (tbI (V_X11_mayYear (nI 1342) G_1) (fun r_4 G_3 => tif (r_4 = 0) (V_X11_drawsYear_85 (nI 0) (nI 0) G_3)
  (tbI (V_X11_yearBy (nI 1342) x3 G_3) (fun r_6 G_5 => V_X11_drawsYear_85 (nI 0) (nI 0) G_5))))
  (tbI (V_X11_harvestOf x3 (nI 1) G_1) (fun r_8 G_7 => V_X11_drawsYear_35 (x2 - r_8) (x3 + (nI 1)) G_7))) := (tgo 136 rfl sk_X11_drawsYear rfl).trans rfl
set_option maxRecDepth 20000 in
theorem e_X11_drawsYear_85 (x4 : Int32) (x5 : Int32) (G : tH) : V_X11_drawsYear_85 x4 x5 G = tbI (V_X11_towns G) (fun r_2 G_1 => tif (x5 < r_2) (tbI (V_X11_draw (nI 3) G_1) (fun r_4 G_3 => tif (r_4 = 0) (tif (tin ((nI 1359) + x5) 1403) (tbI (V_X11_titheOf (gA G_3 1124 0 ((nI 1359) + x5).toNatClampNeg) G_3) (fun r_6 G_5 => V_X11_drawsYear_137 x4 x5 r_4 r_6 G_5)) none)
  (tif (tin ((nI 1353) + x5) 1403) (tif ((nI 2) = 0) none (V_X11_drawsYear_137 x4 x5 r_4 ((gA G_3 1124 0 ((nI 1353) + x5).toNatClampNeg) / (nI 2)) G_3)) none)))
  (tbI (V_X11_mayClose (nI 1342) G_1) (fun r_8 G_7 => tif (r_8 = 0) (some (some (vI x4), G_7))
  (tbI (V_X11_sues (nI 1342) G_7) (fun r_10 G_9 => tbI (V_X11_mayClose (nI 1342) G_9) (fun r_12 G_11 => tif (r_12 = 0) (some (some (vI x4), G_11))
  (tif (tin (nI 1342) 1403) (let G_13 := sA G_11 1124 0 (upd (gA G_11 1124 0) (nI 1342).toNatClampNeg (-1 : Int32))
  some (some (vI x4), G_13)) none))))))) := (tgo 136 rfl sk_X11_drawsYear rfl).trans rfl
set_option maxRecDepth 20000 in
theorem e_X11_drawsYear_137 (x4 : Int32) (x5 : Int32) (x6 : Int32) (s0 : Int32) (G : tH) : V_X11_drawsYear_137 x4 x5 x6 s0 G = tif (x6 < (nI 2)) (tbI (V_X11_mayTake (nI 1342) x5 s0 G) (fun r_2 G_1 => tif (r_2 = 0) (V_X11_drawsYear_178 x4 x5 x6 G_1)
  (tbI (V_X11_takes (nI 1342) x5 s0 G_1) (fun r_4 G_3 => V_X11_drawsYear_85 (x4 + r_4) (x5 + (nI 1)) G_3))))
  (V_X11_drawsYear_178 x4 x5 x6 G) := (tgo 136 rfl sk_X11_drawsYear rfl).trans rfl
set_option maxRecDepth 20000 in
theorem e_X11_drawsYear_178 (x4 : Int32) (x5 : Int32) (x6 : Int32) (G : tH) : V_X11_drawsYear_178 x4 x5 x6 G = tif (x6 = (nI 2)) (tbI (V_X11_maySpare (nI 1342) x5 G) (fun r_2 G_1 => tif (r_2 = 0) (V_X11_drawsYear_85 x4 (x5 + (nI 1)) G_1)
  (tbI (V_X11_spares (nI 1342) x5 G_1) (fun r_4 G_3 => V_X11_drawsYear_85 x4 (x5 + (nI 1)) G_3))))
  (V_X11_drawsYear_85 x4 (x5 + (nI 1)) G) := (tgo 136 rfl sk_X11_drawsYear rfl).trans rfl
def st_X11_lustra : List (Nat × List Bool) := [(59, [true, false, true, true, true, true])]
theorem sk_X11_lustra : ∀ pc bs, tstop st_X11_lustra pc = some bs → ∃ a, k_X11_lustra pc = some (aMk bs a) := tstop_ok (List.forall_mem_cons.mpr ⟨⟨_, rfl⟩, fun _ h => absurd h List.not_mem_nil⟩)
set_option maxRecDepth 20000 in
theorem e_X11_lustra (x1 : Int32) (x2 : Int32) (x3 : Int32) (G : tH) : V_X11_lustra x1 x2 x3 G = let G_1 := sI G 1100 (0) ((nI 0))
  tbI (V_X11_within x1 (nI 0) (nI 9999) G_1) (fun r_3 G_2 => tif (r_3 = 0) (some (some (vI (-1 : Int32)), G_2))
  (tbI (V_X11_within x2 (nI 1) (nI 50) G_2) (fun r_5 G_4 => tif (r_5 = 0) (some (some (vI (-1 : Int32)), G_4))
  (tbI (V_X11_within x3 (nI 0) (nI 2) G_4) (fun r_7 G_6 => tif (r_7 = 0) (some (some (vI (-1 : Int32)), G_6))
  (tbV (V_X11_copies (nI 0) (nI 1342) (nI 56) G_6) (fun G_8 => let G_9 := sL G_8 1137 (0) (x1.toInt64)
  V_X11_lustra_59 x2 x3 (nI 0) (nI 0) G_9))))))) := (tgo 80 rfl sk_X11_lustra rfl).trans rfl
set_option maxRecDepth 20000 in
theorem e_X11_lustra_59 (x2 : Int32) (x3 : Int32) (x4 : Int32) (x5 : Int32) (G : tH) : V_X11_lustra_59 x2 x3 x4 x5 G = tif (x5 < x2) (tbV (V_X11_drawsBids G) (fun G_1 => tbI (V_X11_isHeld (nI 1342) G_1) (fun r_3 G_2 => tif (r_3 = 0) (V_X11_lustra_59 x2 x3 (x4 + (nI 0)) (x5 + (nI 1)) G_2)
  (tbI (V_X11_harvests G_2) (fun r_5 G_4 => tif (0 < r_5) (tbI (V_X11_drawsYear G_4) (fun r_7 G_6 => V_X11_lustra_59 x2 x3 (x4 + r_7) (x5 + (nI 1)) G_6))
  (V_X11_lustra_59 x2 x3 (x4 + (nI 0)) (x5 + (nI 1)) G_4))))))
  (tif (x3 = 0) (tif (tin (nI 1345) 1403) (tif (tin (nI 3) 1403) (some (some (vI ((gA G 1124 0 (nI 1345).toNatClampNeg) - (gA G 1124 0 (nI 3).toNatClampNeg))), G)) none) none)
  (tif (x3 = (nI 1)) (some (some (vI x4), G))
  (tbI (V_X11_meansOf (nI 1342) G) (fun r_9 G_8 => some (some (vI r_9), G_8))))) := (tgo 80 rfl sk_X11_lustra rfl).trans rfl
def st_X11_mark : List (Nat × List Bool) := [(29, [true, true, true]), (51, [true, true, true]), (65, [true, false, true])]
theorem sk_X11_mark : ∀ pc bs, tstop st_X11_mark pc = some bs → ∃ a, k_X11_mark pc = some (aMk bs a) := tstop_ok (List.forall_mem_cons.mpr ⟨⟨_, rfl⟩, List.forall_mem_cons.mpr ⟨⟨_, rfl⟩, List.forall_mem_cons.mpr ⟨⟨_, rfl⟩, fun _ h => absurd h List.not_mem_nil⟩⟩⟩)
set_option maxRecDepth 20000 in
theorem e_X11_mark (x1 : Int32) (x2 : Int32) (G : tH) : V_X11_mark x1 x2 G = let G_1 := sI G 1100 (0) ((nI 0))
  tbI (V_X11_within x1 (nI 0) (nI 3) G_1) (fun r_3 G_2 => tif (r_3 = 0) (tif (vp_nar .boolean (nI 0) = (nI 0)) (some (some (vI (nI 0)), G_2)) none)
  (tif (x2 = 0) (V_X11_mark_29 x1 x2 G_2)
  (tif (tin x1 4) (tif ((gA G_2 1126 0 x1.toNatClampNeg) = 0) (tif (vp_nar .boolean (nI 0) = (nI 0)) (some (some (vI (nI 0)), G_2)) none)
  (V_X11_mark_29 x1 x2 G_2)) none))) := (tgo 58 rfl sk_X11_mark rfl).trans rfl
set_option maxRecDepth 20000 in
theorem e_X11_mark_29 (x1 : Int32) (x2 : Int32) (G : tH) : V_X11_mark_29 x1 x2 G = tif (tin x1 4) (let G_1 := sA G 1126 0 (upd (gA G 1126 0) x1.toNatClampNeg (vp_nar .boolean (nI 1)))
  tif (x2 = 0) (V_X11_mark_51 x1 x2 (nI 0) G_1)
  (V_X11_mark_51 x1 x2 ((nI 61) * ((nI 1) + x1)) G_1)) none := (tgo 58 rfl sk_X11_mark rfl).trans rfl
set_option maxRecDepth 20000 in
theorem e_X11_mark_51 (x1 : Int32) (x2 : Int32) (s1 : Int32) (G : tH) : V_X11_mark_51 x1 x2 s1 G = tif (x2 = 0) (V_X11_mark_65 x2 ((nI 61) * ((nI 1) + x1)) s1 G)
  (V_X11_mark_65 x2 (nI 0) s1 G) := (tgo 58 rfl sk_X11_mark rfl).trans rfl
set_option maxRecDepth 20000 in
theorem e_X11_mark_65 (x2 : Int32) (s2 : Int32) (s1 : Int32) (G : tH) : V_X11_mark_65 x2 s2 s1 G = tbV (V_X11_copies s1 s2 (nI 61) G) (fun G_1 => tif (x2 = 0) (let G_2 := sI G_1 1125 (0) (gI G_1 1125 (0))
  tif (vp_nar .boolean (nI 1) = (nI 1)) (some (some (vI (nI 1)), G_2)) none)
  (let G_3 := sI G_1 1125 (0) ((nI 0))
  tif (vp_nar .boolean (nI 1) = (nI 1)) (some (some (vI (nI 1)), G_3)) none)) := (tgo 58 rfl sk_X11_mark rfl).trans rfl
def st_X11_talesMany : List (Nat × List Bool) := [(4, [true, true, true])]
theorem sk_X11_talesMany : ∀ pc bs, tstop st_X11_talesMany pc = some bs → ∃ a, k_X11_talesMany pc = some (aMk bs a) := tstop_ok (List.forall_mem_cons.mpr ⟨⟨_, rfl⟩, fun _ h => absurd h List.not_mem_nil⟩)
set_option maxRecDepth 20000 in
theorem e_X11_talesMany (G : tH) : V_X11_talesMany  G = V_X11_talesMany_4 (nI 0) (nI 0) G := (tgo 30 rfl sk_X11_talesMany rfl).trans rfl
set_option maxRecDepth 20000 in
theorem e_X11_talesMany_4 (x1 : Int32) (x2 : Int32) (G : tH) : V_X11_talesMany_4 x1 x2 G = tbI (V_X11_companies G) (fun r_2 G_1 => tif (x2 < r_2) (tif (tin ((nI 56) + x2) 1403) (tif ((gA G_1 1124 0 ((nI 56) + x2).toNatClampNeg) < 0) (V_X11_talesMany_4 (x1 + (nI 0)) (x2 + (nI 1)) G_1)
  (V_X11_talesMany_4 (x1 + (nI 1)) (x2 + (nI 1)) G_1)) none)
  (some (some (vI x1), G_1))) := (tgo 30 rfl sk_X11_talesMany rfl).trans rfl
def st_X11_count : List (Nat × List Bool) := []
theorem sk_X11_count : ∀ pc bs, tstop st_X11_count pc = some bs → ∃ a, k_X11_count pc = some (aMk bs a) := tstop_ok (fun _ h => absurd h List.not_mem_nil)
set_option maxRecDepth 20000 in
theorem e_X11_count (x1 : Int32) (G : tH) : V_X11_count x1 G = let G_1 := sI G 1100 (0) ((nI 0))
  tif (x1 = (nI 0)) (tif (tin x1 120) (some (some (vI (gA G_1 1110 0 x1.toNatClampNeg)), G_1)) none)
  (tif (x1 = (nI 1)) (tif (tin x1 120) (some (some (vI (gA G_1 1110 0 x1.toNatClampNeg)), G_1)) none)
  (tif (x1 = (nI 2)) (tif (tin x1 120) (some (some (vI (gA G_1 1110 0 x1.toNatClampNeg)), G_1)) none)
  (tif (x1 = (nI 3)) (tif (tin x1 120) (some (some (vI (gA G_1 1110 0 x1.toNatClampNeg)), G_1)) none)
  (tif (x1 = (nI 4)) (tif (tin (nI 4) 1403) (some (some (vI (gA G_1 1124 0 (nI 4).toNatClampNeg)), G_1)) none)
  (tif (x1 = (nI 5)) (tif (tin (nI 1) 1403) (some (some (vI (gA G_1 1124 0 (nI 1).toNatClampNeg)), G_1)) none)
  (tif (x1 = (nI 6)) (tif (tin (nI 2) 1403) (some (some (vI (gA G_1 1124 0 (nI 2).toNatClampNeg)), G_1)) none)
  (tif (x1 = (nI 7)) (tif (tin (nI 3) 1403) (some (some (vI (gA G_1 1124 0 (nI 3).toNatClampNeg)), G_1)) none)
  (tif (x1 = (nI 8)) (tbI (V_X11_meansOf (nI 0) G_1) (fun r_3 G_2 => some (some (vI r_3), G_2)))
  (tif (x1 = (nI 9)) (tif (tin (nI 0) 250) (some (some (vI (gA G_1 1121 0 (nI 0).toNatClampNeg)), G_1)) none)
  (tif (x1 = (nI 10)) (tbI (V_X11_talesMany G_1) (fun r_5 G_4 => some (some (vI r_5), G_4)))
  (tif (x1 = (nI 11)) (some (some (vI (gI G_1 1125 (0))), G_1))
  (tif (x1 = (nI 12)) (some (some (vI (gI G_1 1102 (0))), G_1))
  (some (some (vI (-1 : Int32)), G_1)))))))))))))) := (tgo 55 rfl sk_X11_count rfl).trans rfl
