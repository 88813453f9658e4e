/-! the equations: X11f -/
def st_X11_getsBy : List (Nat × List Bool) := []
theorem sk_X11_getsBy : ∀ pc bs, tstop st_X11_getsBy pc = some bs → ∃ a, k_X11_getsBy pc = some (aMk bs a) := tstop_ok (fun _ h => absurd h List.not_mem_nil)
theorem e_X11_getsBy (x0 : Int32) (x1 : Int32) (x2 : Int32) (G : tH) : V_X11_getsBy x0 x1 x2 G = if x2 < x1 then some (some (vI (x0 - x1)), G)
  else if x1 = x2 then some (some (vI ((x0 - x1) / (2 : Int32))), G)
  else some (some (vI (0 : Int32)), G) := (tgo 23 rfl sk_X11_getsBy rfl).trans rfl
def st_X11_rests : List (Nat × List Bool) := [(41, [true, true, true, true, true, true, true, true, false, false, false, false]), (73, [true, true, true, true, true, true, true, true, true, true, true, true]), (152, [true, true, true, true, true, true, true, true, false, false, true, false]), (154, [true, true, true, true, true, true, false, true, false, false, true, false]), (177, [true, false, false, true, true, true, true, false, false, false, false, false]), (192, [true, false, false, true, false, true, true, false, false, false, false, false]), (196, [true, false, false, true, false, true, true, false, false, false, false, false]), (197, [true, false, false, true, false, true, true, false, false, false, false, false])]
theorem sk_X11_rests : ∀ pc bs, tstop st_X11_rests pc = some bs → ∃ a, k_X11_rests pc = some (aMk bs a) := tstop_ok (List.forall_mem_cons.mpr ⟨⟨_, rfl⟩, List.forall_mem_cons.mpr ⟨⟨_, rfl⟩, List.forall_mem_cons.mpr ⟨⟨_, rfl⟩, List.forall_mem_cons.mpr ⟨⟨_, rfl⟩, List.forall_mem_cons.mpr ⟨⟨_, rfl⟩, List.forall_mem_cons.mpr ⟨⟨_, rfl⟩, List.forall_mem_cons.mpr ⟨⟨_, rfl⟩, List.forall_mem_cons.mpr ⟨⟨_, rfl⟩, fun _ h => absurd h List.not_mem_nil⟩⟩⟩⟩⟩⟩⟩⟩)
theorem e_X11_rests (x1 : Int32) (x2 : Int32) (x3 : Int32) (G : tH) : V_X11_rests x1 x2 x3 G = tbI (V_X11_within x1 (0 : Int32) (9 : Int32) G) (fun r_2 G_1 => if r_2 = 0 then V_X11_rests_41 x1 x2 x3 (0 : Int32) (0 : Int32) (-1 : Int32) (0 : Int32) G_1
  else tbI (V_X11_within x2 (0 : Int32) (9 : Int32) G_1) (fun r_4 G_3 => if r_4 = 0 then V_X11_rests_41 x1 x2 x3 (0 : Int32) (0 : Int32) (-1 : Int32) (0 : Int32) G_3
  else if x3 < (-1 : Int32) then V_X11_rests_41 x1 x2 x3 (0 : Int32) (0 : Int32) (-1 : Int32) (0 : Int32) G_3
  else V_X11_rests_41 x1 x2 x3 (1 : Int32) (0 : Int32) (-1 : Int32) (0 : Int32) G_3)) := (tgo 115 rfl sk_X11_rests rfl).trans rfl
theorem e_X11_rests_41 (x1 : Int32) (x2 : Int32) (x3 : Int32) (x4 : Int32) (x5 : Int32) (x6 : Int32) (x7 : Int32) (G : tH) : V_X11_rests_41 x1 x2 x3 x4 x5 x6 x7 G = if x7 < (100 : Int32) then (if x4 = 0 then V_X11_rests_177 x3 x4 x5 x6 G
  else V_X11_rests_73 x1 x2 x3 x4 x5 x6 x7 (x7 / (10 : Int32)) (x7 - x7 / (10 : Int32) * (10 : Int32)) (1 : Int32) (0 : Int32) G)
  else V_X11_rests_177 x3 x4 x5 x6 G := (tgo 115 rfl sk_X11_rests rfl).trans rfl
theorem e_X11_rests_73 (x1 : Int32) (x2 : Int32) (x3 : Int32) (x4 : Int32) (x5 : Int32) (x6 : Int32) (x7 : Int32) (x8 : Int32) (x9 : Int32) (x10 : Int32) (x11 : Int32) (G : tH) : V_X11_rests_73 x1 x2 x3 x4 x5 x6 x7 x8 x9 x10 x11 G = if x11 < (10 : Int32) then (if x10 = 0 then V_X11_rests_73 x1 x2 x3 x4 x5 x6 x7 x8 x9 (0 : Int32) (x11 + (1 : Int32)) G
  else tbI (V_X11_getsBy x1 x11 x9 G) (fun r_2 G_1 => tbI (V_X11_getsBy x1 x8 x9 G_1) (fun r_4 G_3 => if r_4 < r_2 then V_X11_rests_73 x1 x2 x3 x4 x5 x6 x7 x8 x9 (0 : Int32) (x11 + (1 : Int32)) G_3
  else tbI (V_X11_getsBy x2 x11 x8 G_3) (fun r_6 G_5 => tbI (V_X11_getsBy x2 x9 x8 G_5) (fun r_8 G_7 => if r_8 < r_6 then V_X11_rests_73 x1 x2 x3 x4 x5 x6 x7 x8 x9 (0 : Int32) (x11 + (1 : Int32)) G_7
  else V_X11_rests_73 x1 x2 x3 x4 x5 x6 x7 x8 x9 (1 : Int32) (x11 + (1 : Int32)) G_7)))))
  else if x10 = 0 then V_X11_rests_152 x1 x2 x3 x4 x5 x6 x7 x10 G
  else if x5 = x3 then V_X11_rests_154 x1 x2 x3 x4 x5 x7 x10 x7 G
  else V_X11_rests_152 x1 x2 x3 x4 x5 x6 x7 x10 G := (tgo 115 rfl sk_X11_rests rfl).trans rfl
theorem e_X11_rests_152 (x1 : Int32) (x2 : Int32) (x3 : Int32) (x4 : Int32) (x5 : Int32) (x6 : Int32) (x7 : Int32) (x10 : Int32) (G : tH) : V_X11_rests_152 x1 x2 x3 x4 x5 x6 x7 x10 G = V_X11_rests_154 x1 x2 x3 x4 x5 x7 x10 x6 G := (tgo 115 rfl sk_X11_rests rfl).trans rfl
theorem e_X11_rests_154 (x1 : Int32) (x2 : Int32) (x3 : Int32) (x4 : Int32) (x5 : Int32) (x7 : Int32) (x10 : Int32) (s0 : Int32) (G : tH) : V_X11_rests_154 x1 x2 x3 x4 x5 x7 x10 s0 G = if x10 = 0 then V_X11_rests_41 x1 x2 x3 x4 (x5 + (0 : Int32)) s0 (x7 + (1 : Int32)) G
  else V_X11_rests_41 x1 x2 x3 x4 (x5 + (1 : Int32)) s0 (x7 + (1 : Int32)) G := (tgo 115 rfl sk_X11_rests rfl).trans rfl
theorem e_X11_rests_177 (x3 : Int32) (x4 : Int32) (x5 : Int32) (x6 : Int32) (G : tH) : V_X11_rests_177 x3 x4 x5 x6 G = if x4 = 0 then V_X11_rests_196 x3 x5 x6 G
  else if x3 < 0 then V_X11_rests_192 x3 x5 x6 G
  else if x6 < 0 then V_X11_rests_196 x3 x5 x6 G
  else V_X11_rests_192 x3 x5 x6 G := (tgo 115 rfl sk_X11_rests rfl).trans rfl
theorem e_X11_rests_192 (x3 : Int32) (x5 : Int32) (x6 : Int32) (G : tH) : V_X11_rests_192 x3 x5 x6 G = V_X11_rests_197 x3 x5 x6 (0 : Int32) G := (tgo 115 rfl sk_X11_rests rfl).trans rfl
theorem e_X11_rests_196 (x3 : Int32) (x5 : Int32) (x6 : Int32) (G : tH) : V_X11_rests_196 x3 x5 x6 G = V_X11_rests_197 x3 x5 x6 (1 : Int32) G := (tgo 115 rfl sk_X11_rests rfl).trans rfl
theorem e_X11_rests_197 (x3 : Int32) (x5 : Int32) (x6 : Int32) (s1 : Int32) (G : tH) : V_X11_rests_197 x3 x5 x6 s1 G = let G_1 := sI G 1100 (0) (s1)
  if 0 < (gI G_1 1100 (0)) then some (some (vI (0 : Int32)), G_1)
  else if x3 < 0 then some (some (vI x5), G_1)
  else some (some (vI x6), G_1) := (tgo 115 rfl sk_X11_rests rfl).trans rfl
def st_X11_draw : List (Nat × List Bool) := []
theorem sk_X11_draw : ∀ pc bs, tstop st_X11_draw pc = some bs → ∃ a, k_X11_draw pc = some (aMk bs a) := tstop_ok (fun _ h => absurd h List.not_mem_nil)
theorem e_X11_draw (x1 : Int32) (G : tH) : V_X11_draw x1 G = let G_1 := sL G 1137 (0) ((((gL G 1137 (0)) * (1103515245 : Int64)) + (12345 : Int64)) - (((gL G 1137 (0)) * (1103515245 : Int64)) + (12345 : Int64)) / (2147483648 : Int64) * (2147483648 : Int64))
  if x1.toInt64 = 0 then none else some (some (vI ((((gL G_1 1137 (0)) / (65536 : Int64)) - ((gL G_1 1137 (0)) / (65536 : Int64)) / x1.toInt64 * x1.toInt64).toInt32)), G_1) := (tgo 24 rfl sk_X11_draw rfl).trans rfl
def st_X11_drawsBids : List (Nat × List Bool) := [(2, [true, true, false]), (56, [true, false, false])]
theorem sk_X11_drawsBids : ∀ pc bs, tstop st_X11_drawsBids pc = some bs → ∃ a, k_X11_drawsBids pc = some (aMk bs a) := tstop_ok (List.forall_mem_cons.mpr ⟨⟨_, rfl⟩, List.forall_mem_cons.mpr ⟨⟨_, rfl⟩, fun _ h => absurd h List.not_mem_nil⟩⟩)
theorem e_X11_drawsBids (G : tH) : V_X11_drawsBids  G = V_X11_drawsBids_2 (0 : Int32) G := (tgo 43 rfl sk_X11_drawsBids rfl).trans rfl
theorem e_X11_drawsBids_2 (x1 : Int32) (G : tH) : V_X11_drawsBids_2 x1 G = tbI (V_X11_companies G) (fun r_2 G_1 => if x1 < r_2 then (tbI (V_X11_isHeld (1342 : Int32) G_1) (fun r_4 G_3 => if r_4 = 0 then (tbI (V_X11_draw (100 : Int32) G_3) (fun r_6 G_5 => tbI (V_X11_mayBid (1342 : Int32) x1 r_6 G_5) (fun r_8 G_7 => if r_8 = 0 then V_X11_drawsBids_2 (x1 + (1 : Int32)) G_7
  else if tin ((1388 : Int32) + x1) 1403 then (let G_9 := sA G_7 1124 0 (upd (gA G_7 1124 0) ((1388 : Int32) + x1).toNatClampNeg r_6)
  V_X11_drawsBids_2 (x1 + (1 : Int32)) G_9) else none)))
  else V_X11_drawsBids_56 G_3))
  else V_X11_drawsBids_56 G_1) := (tgo 43 rfl sk_X11_drawsBids rfl).trans rfl
theorem e_X11_drawsBids_56 (G : tH) : V_X11_drawsBids_56  G = tbI (V_X11_mayAward (1342 : Int32) G) (fun r_2 G_1 => if r_2 = 0 then some (none, G_1)
  else tbI (V_X11_awards (1342 : Int32) G_1) (fun r_4 G_3 => some (none, G_3))) := (tgo 43 rfl sk_X11_drawsBids rfl).trans rfl
def st_X11_drawsYear : List (Nat × List Bool) := [(4, [true, true, true, false, false, false, false, false]), (35, [true, false, true, true, false, false, false, false]), (85, [true, false, false, false, true, true, false, false]), (137, [true, false, false, false, true, true, true, false]), (178, [true, false, false, false, true, true, true, false])]
theorem sk_X11_drawsYear : ∀ pc bs, tstop st_X11_drawsYear pc = some bs → ∃ a, k_X11_drawsYear pc = some (aMk bs a) := tstop_ok (List.forall_mem_cons.mpr ⟨⟨_, rfl⟩, List.forall_mem_cons.mpr ⟨⟨_, rfl⟩, List.forall_mem_cons.mpr ⟨⟨_, rfl⟩, List.forall_mem_cons.mpr ⟨⟨_, rfl⟩, List.forall_mem_cons.mpr ⟨⟨_, rfl⟩, fun _ h => absurd h List.not_mem_nil⟩⟩⟩⟩⟩)
theorem e_X11_drawsYear (G : tH) : V_X11_drawsYear  G = V_X11_drawsYear_4 (0 : Int32) (0 : Int32) G := (tgo 136 rfl sk_X11_drawsYear rfl).trans rfl
theorem e_X11_drawsYear_4 (x1 : Int32) (x2 : Int32) (G : tH) : V_X11_drawsYear_4 x1 x2 G = tbI (V_X11_harvests G) (fun r_2 G_1 => if x2 < r_2 then tbI (V_X11_harvestOf x2 (1 : Int32) G_1) (fun r_4 G_3 => V_X11_drawsYear_4 (x1 + r_4) (x2 + (1 : Int32)) G_3)
  else tbI (V_X11_draw x1 G_1) (fun r_6 G_5 => V_X11_drawsYear_35 r_6 (0 : Int32) G_5)) := (tgo 136 rfl sk_X11_drawsYear rfl).trans rfl
theorem e_X11_drawsYear_35 (x2 : Int32) (x3 : Int32) (G : tH) : V_X11_drawsYear_35 x2 x3 G = tbI (V_X11_harvestOf x3 (1 : Int32) G) (fun r_2 G_1 => if x2 < r_2 then (tbI (V_X11_mayYear (1342 : Int32) G_1) (fun r_4 G_3 => if r_4 = 0 then V_X11_drawsYear_85 (0 : Int32) (0 : Int32) G_3
  else tbI (V_X11_yearBy (1342 : Int32) x3 G_3) (fun r_6 G_5 => V_X11_drawsYear_85 (0 : Int32) (0 : Int32) G_5)))
  else tbI (V_X11_harvestOf x3 (1 : Int32) G_1) (fun r_8 G_7 => V_X11_drawsYear_35 (x2 - r_8) (x3 + (1 : Int32)) G_7)) := (tgo 136 rfl sk_X11_drawsYear rfl).trans rfl
theorem e_X11_drawsYear_85 (x4 : Int32) (x5 : Int32) (G : tH) : V_X11_drawsYear_85 x4 x5 G = tbI (V_X11_towns G) (fun r_2 G_1 => if x5 < r_2 then (tbI (V_X11_draw (3 : Int32) G_1) (fun r_4 G_3 => if r_4 = 0 then (if tin ((1359 : Int32) + x5) 1403 then tbI (V_X11_titheOf (gA G_3 1124 0 ((1359 : Int32) + x5).toNatClampNeg) G_3) (fun r_6 G_5 => V_X11_drawsYear_137 x4 x5 r_4 r_6 G_5) else none)
  else if tin ((1353 : Int32) + x5) 1403 then V_X11_drawsYear_137 x4 x5 r_4 ((gA G_3 1124 0 ((1353 : Int32) + x5).toNatClampNeg) / (2 : Int32)) G_3 else none))
  else tbI (V_X11_mayClose (1342 : Int32) G_1) (fun r_8 G_7 => if r_8 = 0 then some (some (vI x4), G_7)
  else tbI (V_X11_sues (1342 : Int32) G_7) (fun r_10 G_9 => tbI (V_X11_mayClose (1342 : Int32) G_9) (fun r_12 G_11 => if r_12 = 0 then some (some (vI x4), G_11)
  else let G_13 := sA G_11 1124 0 (upd (gA G_11 1124 0) (1342 : Int32).toNatClampNeg (-1 : Int32))
  some (some (vI x4), G_13))))) := (tgo 136 rfl sk_X11_drawsYear rfl).trans rfl
theorem e_X11_drawsYear_137 (x4 : Int32) (x5 : Int32) (x6 : Int32) (s0 : Int32) (G : tH) : V_X11_drawsYear_137 x4 x5 x6 s0 G = if x6 < (2 : Int32) then (tbI (V_X11_mayTake (1342 : Int32) x5 s0 G) (fun r_2 G_1 => if r_2 = 0 then V_X11_drawsYear_178 x4 x5 x6 G_1
  else tbI (V_X11_takes (1342 : Int32) x5 s0 G_1) (fun r_4 G_3 => V_X11_drawsYear_85 (x4 + r_4) (x5 + (1 : Int32)) G_3)))
  else V_X11_drawsYear_178 x4 x5 x6 G := (tgo 136 rfl sk_X11_drawsYear rfl).trans rfl
theorem e_X11_drawsYear_178 (x4 : Int32) (x5 : Int32) (x6 : Int32) (G : tH) : V_X11_drawsYear_178 x4 x5 x6 G = if x6 = (2 : Int32) then (tbI (V_X11_maySpare (1342 : Int32) x5 G) (fun r_2 G_1 => if r_2 = 0 then V_X11_drawsYear_85 x4 (x5 + (1 : Int32)) G_1
  else tbI (V_X11_spares (1342 : Int32) x5 G_1) (fun r_4 G_3 => V_X11_drawsYear_85 x4 (x5 + (1 : Int32)) G_3)))
  else V_X11_drawsYear_85 x4 (x5 + (1 : Int32)) G := (tgo 136 rfl sk_X11_drawsYear rfl).trans rfl
def st_X11_lustra : List (Nat × List Bool) := [(59, [true, false, true, true, true, true])]
theorem sk_X11_lustra : ∀ pc bs, tstop st_X11_lustra pc = some bs → ∃ a, k_X11_lustra pc = some (aMk bs a) := tstop_ok (List.forall_mem_cons.mpr ⟨⟨_, rfl⟩, fun _ h => absurd h List.not_mem_nil⟩)
theorem e_X11_lustra (x1 : Int32) (x2 : Int32) (x3 : Int32) (G : tH) : V_X11_lustra x1 x2 x3 G = let G_1 := sI G 1100 (0) ((0 : Int32))
  tbI (V_X11_within x1 (0 : Int32) (9999 : Int32) G_1) (fun r_3 G_2 => if r_3 = 0 then some (some (vI (-1 : Int32)), G_2)
  else tbI (V_X11_within x2 (1 : Int32) (50 : Int32) G_2) (fun r_5 G_4 => if r_5 = 0 then some (some (vI (-1 : Int32)), G_4)
  else tbI (V_X11_within x3 (0 : Int32) (2 : Int32) G_4) (fun r_7 G_6 => if r_7 = 0 then some (some (vI (-1 : Int32)), G_6)
  else tbV (V_X11_copies (0 : Int32) (1342 : Int32) (56 : Int32) G_6) (fun G_8 => let G_9 := sL G_8 1137 (0) (x1.toInt64)
  V_X11_lustra_59 x2 x3 (0 : Int32) (0 : Int32) G_9)))) := (tgo 80 rfl sk_X11_lustra rfl).trans rfl
theorem e_X11_lustra_59 (x2 : Int32) (x3 : Int32) (x4 : Int32) (x5 : Int32) (G : tH) : V_X11_lustra_59 x2 x3 x4 x5 G = if x5 < x2 then (tbV (V_X11_drawsBids G) (fun G_1 => tbI (V_X11_isHeld (1342 : Int32) G_1) (fun r_3 G_2 => if r_3 = 0 then V_X11_lustra_59 x2 x3 (x4 + (0 : Int32)) (x5 + (1 : Int32)) G_2
  else tbI (V_X11_harvests G_2) (fun r_5 G_4 => if 0 < r_5 then tbI (V_X11_drawsYear G_4) (fun r_7 G_6 => V_X11_lustra_59 x2 x3 (x4 + r_7) (x5 + (1 : Int32)) G_6)
  else V_X11_lustra_59 x2 x3 (x4 + (0 : Int32)) (x5 + (1 : Int32)) G_4))))
  else if x3 = 0 then some (some (vI ((gA G 1124 0 (1345 : Int32).toNatClampNeg) - (gA G 1124 0 (3 : Int32).toNatClampNeg))), G)
  else if x3 = (1 : Int32) then some (some (vI x4), G)
  else tbI (V_X11_meansOf (1342 : Int32) G) (fun r_9 G_8 => some (some (vI r_9), G_8)) := (tgo 80 rfl sk_X11_lustra rfl).trans rfl
def st_X11_mark : List (Nat × List Bool) := [(29, [true, true, true]), (51, [true, true, true]), (65, [true, false, true])]
theorem sk_X11_mark : ∀ pc bs, tstop st_X11_mark pc = some bs → ∃ a, k_X11_mark pc = some (aMk bs a) := tstop_ok (List.forall_mem_cons.mpr ⟨⟨_, rfl⟩, List.forall_mem_cons.mpr ⟨⟨_, rfl⟩, List.forall_mem_cons.mpr ⟨⟨_, rfl⟩, fun _ h => absurd h List.not_mem_nil⟩⟩⟩)
theorem e_X11_mark (x1 : Int32) (x2 : Int32) (G : tH) : V_X11_mark x1 x2 G = let G_1 := sI G 1100 (0) ((0 : Int32))
  tbI (V_X11_within x1 (0 : Int32) (3 : Int32) G_1) (fun r_3 G_2 => if r_3 = 0 then some (some (vI (0 : Int32)), G_2)
  else if x2 = 0 then V_X11_mark_29 x1 x2 G_2
  else if tin x1 4 then (if (gA G_2 1126 0 x1.toNatClampNeg) = 0 then some (some (vI (0 : Int32)), G_2)
  else V_X11_mark_29 x1 x2 G_2) else none) := (tgo 58 rfl sk_X11_mark rfl).trans rfl
theorem e_X11_mark_29 (x1 : Int32) (x2 : Int32) (G : tH) : V_X11_mark_29 x1 x2 G = if tin x1 4 then (let G_1 := sA G 1126 0 (upd (gA G 1126 0) x1.toNatClampNeg (vp_nar .boolean (1 : Int32)))
  if x2 = 0 then V_X11_mark_51 x1 x2 (0 : Int32) G_1
  else V_X11_mark_51 x1 x2 ((61 : Int32) * ((1 : Int32) + x1)) G_1) else none := (tgo 58 rfl sk_X11_mark rfl).trans rfl
theorem e_X11_mark_51 (x1 : Int32) (x2 : Int32) (s1 : Int32) (G : tH) : V_X11_mark_51 x1 x2 s1 G = if x2 = 0 then V_X11_mark_65 x2 ((61 : Int32) * ((1 : Int32) + x1)) s1 G
  else V_X11_mark_65 x2 (0 : Int32) s1 G := (tgo 58 rfl sk_X11_mark rfl).trans rfl
theorem e_X11_mark_65 (x2 : Int32) (s2 : Int32) (s1 : Int32) (G : tH) : V_X11_mark_65 x2 s2 s1 G = tbV (V_X11_copies s1 s2 (61 : Int32) G) (fun G_1 => if x2 = 0 then (let G_2 := sI G_1 1125 (0) (gI G_1 1125 (0))
  some (some (vI (1 : Int32)), G_2))
  else let G_3 := sI G_1 1125 (0) ((0 : Int32))
  some (some (vI (1 : Int32)), G_3)) := (tgo 58 rfl sk_X11_mark rfl).trans rfl
def st_X11_talesMany : List (Nat × List Bool) := [(4, [true, true, true])]
theorem sk_X11_talesMany : ∀ pc bs, tstop st_X11_talesMany pc = some bs → ∃ a, k_X11_talesMany pc = some (aMk bs a) := tstop_ok (List.forall_mem_cons.mpr ⟨⟨_, rfl⟩, fun _ h => absurd h List.not_mem_nil⟩)
theorem e_X11_talesMany (G : tH) : V_X11_talesMany  G = V_X11_talesMany_4 (0 : Int32) (0 : Int32) G := (tgo 30 rfl sk_X11_talesMany rfl).trans rfl
theorem e_X11_talesMany_4 (x1 : Int32) (x2 : Int32) (G : tH) : V_X11_talesMany_4 x1 x2 G = tbI (V_X11_companies G) (fun r_2 G_1 => if x2 < r_2 then (if tin ((56 : Int32) + x2) 1403 then (if (gA G_1 1124 0 ((56 : Int32) + x2).toNatClampNeg) < 0 then V_X11_talesMany_4 (x1 + (0 : Int32)) (x2 + (1 : Int32)) G_1
  else V_X11_talesMany_4 (x1 + (1 : Int32)) (x2 + (1 : Int32)) G_1) else none)
  else some (some (vI x1), G_1)) := (tgo 30 rfl sk_X11_talesMany rfl).trans rfl
def st_X11_count : List (Nat × List Bool) := []
theorem sk_X11_count : ∀ pc bs, tstop st_X11_count pc = some bs → ∃ a, k_X11_count pc = some (aMk bs a) := tstop_ok (fun _ h => absurd h List.not_mem_nil)
theorem e_X11_count (x1 : Int32) (G : tH) : V_X11_count x1 G = let G_1 := sI G 1100 (0) ((0 : Int32))
  if x1 = (0 : Int32) then (if tin x1 120 then some (some (vI (gA G_1 1110 0 x1.toNatClampNeg)), G_1) else none)
  else if x1 = (1 : Int32) then (if tin x1 120 then some (some (vI (gA G_1 1110 0 x1.toNatClampNeg)), G_1) else none)
  else if x1 = (2 : Int32) then (if tin x1 120 then some (some (vI (gA G_1 1110 0 x1.toNatClampNeg)), G_1) else none)
  else if x1 = (3 : Int32) then (if tin x1 120 then some (some (vI (gA G_1 1110 0 x1.toNatClampNeg)), G_1) else none)
  else if x1 = (4 : Int32) then some (some (vI (gA G_1 1124 0 (4 : Int32).toNatClampNeg)), G_1)
  else if x1 = (5 : Int32) then some (some (vI (gA G_1 1124 0 (1 : Int32).toNatClampNeg)), G_1)
  else if x1 = (6 : Int32) then some (some (vI (gA G_1 1124 0 (2 : Int32).toNatClampNeg)), G_1)
  else if x1 = (7 : Int32) then some (some (vI (gA G_1 1124 0 (3 : Int32).toNatClampNeg)), G_1)
  else if x1 = (8 : Int32) then tbI (V_X11_meansOf (0 : Int32) G_1) (fun r_3 G_2 => some (some (vI r_3), G_2))
  else if x1 = (9 : Int32) then some (some (vI (gA G_1 1121 0 (0 : Int32).toNatClampNeg)), G_1)
  else if x1 = (10 : Int32) then tbI (V_X11_talesMany G_1) (fun r_5 G_4 => some (some (vI r_5), G_4))
  else if x1 = (11 : Int32) then some (some (vI (gI G_1 1125 (0))), G_1)
  else if x1 = (12 : Int32) then some (some (vI (gI G_1 1102 (0))), G_1)
  else some (some (vI (-1 : Int32)), G_1) := (tgo 55 rfl sk_X11_count rfl).trans rfl
