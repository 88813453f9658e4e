/-! the equations: X11a -/
def st_X11_thrown : List (Nat × List Bool) := []
theorem sk_X11_thrown : ∀ pc bs, tstop st_X11_thrown pc = some bs → ∃ a, k_X11_thrown pc = some (aMk bs a) := tstop_ok (fun _ h => absurd h List.not_mem_nil)
theorem e_X11_thrown (G : tH) : V_X11_thrown  G = some (some (vI (gI G 1100 (0))), G) := (tgo 8 rfl sk_X11_thrown rfl).trans rfl
def st_X11_feed : List (Nat × List Bool) := []
theorem sk_X11_feed : ∀ pc bs, tstop st_X11_feed pc = some bs → ∃ a, k_X11_feed pc = some (aMk bs a) := tstop_ok (fun _ h => absurd h List.not_mem_nil)
theorem e_X11_feed (y1 : Int64) (y3 : Int64) (y5 : Int64) (G : tH) : V_X11_feed y1 y3 y5 G = let G_1 := sI G 1100 (0) ((0 : Int32))
  tbV (V_X11_lay y1 G_1) (fun G_2 => tbV (V_X11_lay y3 G_2) (fun G_3 => tbV (V_X11_lay y5 G_3) (fun G_4 => some (some (vI (gI G_4 1102 (0))), G_4)))) := (tgo 20 rfl sk_X11_feed rfl).trans rfl
def st_X11_lay : List (Nat × List Bool) := [(3, [true, true, false, true, false]), (38, [true, true, false, true, true])]
theorem sk_X11_lay : ∀ pc bs, tstop st_X11_lay pc = some bs → ∃ a, k_X11_lay pc = some (aMk bs a) := tstop_ok (List.forall_mem_cons.mpr ⟨⟨_, rfl⟩, List.forall_mem_cons.mpr ⟨⟨_, rfl⟩, fun _ h => absurd h List.not_mem_nil⟩⟩)
theorem e_X11_lay (y1 : Int64) (G : tH) : V_X11_lay y1 G = V_X11_lay_3 y1 (56 : Int32) G := (tgo 44 rfl sk_X11_lay rfl).trans rfl
theorem e_X11_lay_3 (y1 : Int64) (x3 : Int32) (G : tH) : V_X11_lay_3 y1 x3 G = if x3 < 0 then some (none, G)
  else if (((y1 >>> (x3.toInt64 &&& 63)).toInt32) &&& (255 : Int32)) = (10 : Int32) then V_X11_lay_38 y1 x3 (((y1 >>> (x3.toInt64 &&& 63)).toInt32) &&& (255 : Int32)) G
  else if (((y1 >>> (x3.toInt64 &&& 63)).toInt32) &&& (255 : Int32)) < (32 : Int32) then V_X11_lay_3 y1 (x3 + (-8 : Int32)) G
  else if (126 : Int32) < (((y1 >>> (x3.toInt64 &&& 63)).toInt32) &&& (255 : Int32)) then V_X11_lay_3 y1 (x3 + (-8 : Int32)) G
  else V_X11_lay_38 y1 x3 (((y1 >>> (x3.toInt64 &&& 63)).toInt32) &&& (255 : Int32)) G := (tgo 44 rfl sk_X11_lay rfl).trans rfl
theorem e_X11_lay_38 (y1 : Int64) (x3 : Int32) (x4 : Int32) (G : tH) : V_X11_lay_38 y1 x3 x4 G = if (gI G 1102 (0)) < (1000 : Int32) then (if tin (gI G 1102 (0)) 1000 then (let G_1 := sA G 1101 0 (upd (gA G 1101 0) (gI G 1102 (0)).toNatClampNeg x4)
  let G_2 := sI G_1 1102 (0) ((gI G_1 1102 (0)) + (1 : Int32))
  V_X11_lay_3 y1 (x3 + (-8 : Int32)) G_2) else none)
  else V_X11_lay_3 y1 (x3 + (-8 : Int32)) G := (tgo 44 rfl sk_X11_lay rfl).trans rfl
def st_X11_isLetter : List (Nat × List Bool) := []
theorem sk_X11_isLetter : ∀ pc bs, tstop st_X11_isLetter pc = some bs → ∃ a, k_X11_isLetter pc = some (aMk bs a) := tstop_ok (fun _ h => absurd h List.not_mem_nil)
theorem e_X11_isLetter (x0 : Int32) (G : tH) : V_X11_isLetter x0 G = if x0 < (97 : Int32) then some (some (vI (0 : Int32)), G)
  else if (122 : Int32) < x0 then some (some (vI (0 : Int32)), G)
  else some (some (vI (1 : Int32)), G) := (tgo 15 rfl sk_X11_isLetter rfl).trans rfl
def st_X11_isDigit : List (Nat × List Bool) := []
theorem sk_X11_isDigit : ∀ pc bs, tstop st_X11_isDigit pc = some bs → ∃ a, k_X11_isDigit pc = some (aMk bs a) := tstop_ok (fun _ h => absurd h List.not_mem_nil)
theorem e_X11_isDigit (x0 : Int32) (G : tH) : V_X11_isDigit x0 G = if x0 < (48 : Int32) then some (some (vI (0 : Int32)), G)
  else if (57 : Int32) < x0 then some (some (vI (0 : Int32)), G)
  else some (some (vI (1 : Int32)), G) := (tgo 15 rfl sk_X11_isDigit rfl).trans rfl
def st_X11_rank : List (Nat × List Bool) := []
theorem sk_X11_rank : ∀ pc bs, tstop st_X11_rank pc = some bs → ∃ a, k_X11_rank pc = some (aMk bs a) := tstop_ok (fun _ h => absurd h List.not_mem_nil)
theorem e_X11_rank (x0 : Int32) (G : tH) : V_X11_rank x0 G = tbI (V_X11_isLetter x0 G) (fun r_2 G_1 => if r_2 = 0 then some (some (vI (x0 - (21 : Int32))), G_1)
  else some (some (vI (x0 - (96 : Int32))), G_1)) := (tgo 16 rfl sk_X11_rank rfl).trans rfl
def st_X11_isSignOf : List (Nat × List Bool) := []
theorem sk_X11_isSignOf : ∀ pc bs, tstop st_X11_isSignOf pc = some bs → ∃ a, k_X11_isSignOf pc = some (aMk bs a) := tstop_ok (fun _ h => absurd h List.not_mem_nil)
theorem e_X11_isSignOf (x0 : Int32) (G : tH) : V_X11_isSignOf x0 G = if x0 = (40 : Int32) then some (some (vI (1 : Int32)), G)
  else if x0 = (41 : Int32) then some (some (vI (1 : Int32)), G)
  else if x0 = (59 : Int32) then some (some (vI (1 : Int32)), G)
  else if x0 = (61 : Int32) then some (some (vI (1 : Int32)), G)
  else if x0 = (60 : Int32) then some (some (vI (1 : Int32)), G)
  else if x0 = (43 : Int32) then some (some (vI (1 : Int32)), G)
  else if x0 = (45 : Int32) then some (some (vI (1 : Int32)), G)
  else if x0 = (42 : Int32) then some (some (vI (1 : Int32)), G)
  else some (some (vI (0 : Int32)), G) := (tgo 33 rfl sk_X11_isSignOf rfl).trans rfl
def st_X11_cutAll : List (Nat × List Bool) := [(17, [true, true, true, false, false, false, false]), (70, [true, true, true, false, true, true, false]), (129, [true, true, true, false, true, true, false]), (159, [true, true, true, false, true, true, false]), (218, [true, true, true, false, true, true, false])]
theorem sk_X11_cutAll : ∀ pc bs, tstop st_X11_cutAll pc = some bs → ∃ a, k_X11_cutAll pc = some (aMk bs a) := tstop_ok (List.forall_mem_cons.mpr ⟨⟨_, rfl⟩, List.forall_mem_cons.mpr ⟨⟨_, rfl⟩, List.forall_mem_cons.mpr ⟨⟨_, rfl⟩, List.forall_mem_cons.mpr ⟨⟨_, rfl⟩, List.forall_mem_cons.mpr ⟨⟨_, rfl⟩, fun _ h => absurd h List.not_mem_nil⟩⟩⟩⟩⟩)
theorem e_X11_cutAll (G : tH) : V_X11_cutAll  G = let G_1 := sI G 1103 (0) (gI G 1102 (0))
  let G_2 := sI G_1 1102 (0) ((0 : Int32))
  V_X11_cutAll_17 (0 : Int32) (0 : Int32) G_2 := (tgo 174 rfl sk_X11_cutAll rfl).trans rfl
theorem e_X11_cutAll_17 (x1 : Int32) (x2 : Int32) (G : tH) : V_X11_cutAll_17 x1 x2 G = if x2 < (gI G 1103 (0)) then (if tin x2 1000 then (if (gA G 1101 0 x2.toNatClampNeg) = (10 : Int32) then V_X11_cutAll_17 x1 (x2 + (1 : Int32)) G
  else if (gA G 1101 0 x2.toNatClampNeg) = (32 : Int32) then V_X11_cutAll_17 x1 (x2 + (1 : Int32)) G
  else if tin x1 1002 then (let G_1 := sA G 1105 0 (upd (gA G 1105 0) x1.toNatClampNeg x2)
  tbI (V_X11_isLetter (gA G 1101 0 x2.toNatClampNeg) G_1) (fun r_3 G_2 => if r_3 = 0 then (tbI (V_X11_isDigit (gA G 1101 0 x2.toNatClampNeg) G_2) (fun r_5 G_4 => if r_5 = 0 then (tbI (V_X11_isSignOf (gA G 1101 0 x2.toNatClampNeg) G_4) (fun r_7 G_6 => if r_7 = 0 then (if tin x1 1002 then (let G_8 := sA G_6 1104 0 (upd (gA G_6 1104 0) x1.toNatClampNeg (4 : Int32))
  if tin x1 1002 then (let G_9 := sB G_8 1106 0 (vp_updL (gB G_8 1106 0) x1.toNatClampNeg ((gA G 1101 0 x2.toNatClampNeg).toInt64))
  V_X11_cutAll_17 (x1 + (1 : Int32)) (x2 + (1 : Int32)) G_9) else none) else none)
  else if tin x1 1002 then (let G_10 := sA G_6 1104 0 (upd (gA G_6 1104 0) x1.toNatClampNeg (3 : Int32))
  if tin x1 1002 then (let G_11 := sB G_10 1106 0 (vp_updL (gB G_10 1106 0) x1.toNatClampNeg ((gA G 1101 0 x2.toNatClampNeg).toInt64))
  V_X11_cutAll_17 (x1 + (1 : Int32)) (x2 + (1 : Int32)) G_11) else none) else none))
  else V_X11_cutAll_159 x1 x2 x2 (0 : Int64) G_4))
  else V_X11_cutAll_70 x1 x2 x2 (0 : Int64) G_2)) else none) else none)
  else if tin x1 1002 then (let G_12 := sA G 1104 0 (upd (gA G 1104 0) x1.toNatClampNeg (0 : Int32))
  if tin x1 1002 then (let G_13 := sA G_12 1105 0 (upd (gA G_12 1105 0) x1.toNatClampNeg (gI G_12 1103 (0)))
  let G_14 := sI G_13 1107 (0) ((0 : Int32))
  let G_15 := sI G_14 1108 (0) ((0 : Int32))
  some (none, G_15)) else none) else none := (tgo 174 rfl sk_X11_cutAll rfl).trans rfl
theorem e_X11_cutAll_70 (x1 : Int32) (x2 : Int32) (x4 : Int32) (y5 : Int64) (G : tH) : V_X11_cutAll_70 x1 x2 x4 y5 G = if x2 < (gI G 1103 (0)) then (if tin x2 1000 then (tbI (V_X11_isLetter (gA G 1101 0 x2.toNatClampNeg) G) (fun r_2 G_1 => if r_2 = 0 then V_X11_cutAll_129 x1 x2 x4 y5 G_1
  else if (x2 - x4) < (8 : Int32) then (if tin x2 1000 then tbI (V_X11_rank (gA G_1 1101 0 x2.toNatClampNeg) G_1) (fun r_4 G_3 => V_X11_cutAll_70 x1 (x2 + (1 : Int32)) x4 (((37 : Int64) * y5) + r_4.toInt64) G_3) else none)
  else V_X11_cutAll_70 x1 (x2 + (1 : Int32)) x4 y5 G_1)) else none)
  else V_X11_cutAll_129 x1 x2 x4 y5 G := (tgo 174 rfl sk_X11_cutAll rfl).trans rfl
theorem e_X11_cutAll_129 (x1 : Int32) (x2 : Int32) (x4 : Int32) (y5 : Int64) (G : tH) : V_X11_cutAll_129 x1 x2 x4 y5 G = if (8 : Int32) < (x2 - x4) then (if tin x1 1002 then (let G_1 := sA G 1104 0 (upd (gA G 1104 0) x1.toNatClampNeg (4 : Int32))
  if tin x1 1002 then (let G_2 := sB G_1 1106 0 (vp_updL (gB G_1 1106 0) x1.toNatClampNeg y5)
  V_X11_cutAll_17 (x1 + (1 : Int32)) x2 G_2) else none) else none)
  else if tin x1 1002 then (let G_3 := sA G 1104 0 (upd (gA G 1104 0) x1.toNatClampNeg (1 : Int32))
  if tin x1 1002 then (let G_4 := sB G_3 1106 0 (vp_updL (gB G_3 1106 0) x1.toNatClampNeg y5)
  V_X11_cutAll_17 (x1 + (1 : Int32)) x2 G_4) else none) else none := (tgo 174 rfl sk_X11_cutAll rfl).trans rfl
theorem e_X11_cutAll_159 (x1 : Int32) (x2 : Int32) (x4 : Int32) (y5 : Int64) (G : tH) : V_X11_cutAll_159 x1 x2 x4 y5 G = if x2 < (gI G 1103 (0)) then (if tin x2 1000 then (tbI (V_X11_isDigit (gA G 1101 0 x2.toNatClampNeg) G) (fun r_2 G_1 => if r_2 = 0 then V_X11_cutAll_218 x1 x2 x4 y5 G_1
  else if (x2 - x4) < (4 : Int32) then (if tin x2 1000 then V_X11_cutAll_159 x1 (x2 + (1 : Int32)) x4 ((((10 : Int64) * y5) + ((gA G_1 1101 0 x2.toNatClampNeg).toInt64)) - (48 : Int64)) G_1 else none)
  else V_X11_cutAll_159 x1 (x2 + (1 : Int32)) x4 y5 G_1)) else none)
  else V_X11_cutAll_218 x1 x2 x4 y5 G := (tgo 174 rfl sk_X11_cutAll rfl).trans rfl
theorem e_X11_cutAll_218 (x1 : Int32) (x2 : Int32) (x4 : Int32) (y5 : Int64) (G : tH) : V_X11_cutAll_218 x1 x2 x4 y5 G = if (4 : Int32) < (x2 - x4) then (if tin x1 1002 then (let G_1 := sA G 1104 0 (upd (gA G 1104 0) x1.toNatClampNeg (4 : Int32))
  if tin x1 1002 then (let G_2 := sB G_1 1106 0 (vp_updL (gB G_1 1106 0) x1.toNatClampNeg y5)
  V_X11_cutAll_17 (x1 + (1 : Int32)) x2 G_2) else none) else none)
  else if tin x1 1002 then (let G_3 := sA G 1104 0 (upd (gA G 1104 0) x1.toNatClampNeg (2 : Int32))
  if tin x1 1002 then (let G_4 := sB G_3 1106 0 (vp_updL (gB G_3 1106 0) x1.toNatClampNeg y5)
  V_X11_cutAll_17 (x1 + (1 : Int32)) x2 G_4) else none) else none := (tgo 174 rfl sk_X11_cutAll rfl).trans rfl
def st_X11_wrong : List (Nat × List Bool) := []
theorem sk_X11_wrong : ∀ pc bs, tstop st_X11_wrong pc = some bs → ∃ a, k_X11_wrong pc = some (aMk bs a) := tstop_ok (fun _ h => absurd h List.not_mem_nil)
theorem e_X11_wrong (x1 : Int32) (G : tH) : V_X11_wrong x1 G = if (gI G 1108 (0)) = 0 then (if tin (gI G 1107 (0)) 1002 then (let G_1 := sI G 1108 (0) (x1 + ((16 : Int32) * (gA G 1105 0 (gI G 1107 (0)).toNatClampNeg)))
  some (none, G_1)) else none)
  else some (none, G) := (tgo 20 rfl sk_X11_wrong rfl).trans rfl
def st_X11_isSign : List (Nat × List Bool) := []
theorem sk_X11_isSign : ∀ pc bs, tstop st_X11_isSign pc = some bs → ∃ a, k_X11_isSign pc = some (aMk bs a) := tstop_ok (fun _ h => absurd h List.not_mem_nil)
theorem e_X11_isSign (x1 : Int32) (G : tH) : V_X11_isSign x1 G = if (gI G 1108 (0)) = 0 then (if tin (gI G 1107 (0)) 1002 then (if (gA G 1104 0 (gI G 1107 (0)).toNatClampNeg) = (3 : Int32) then (if tin (gI G 1107 (0)) 1002 then (if (lg_cmp (gB G 1106 0 (gI G 1107 (0)).toNatClampNeg) x1.toInt64) = 0 then some (some (vI (1 : Int32)), G)
  else some (some (vI (0 : Int32)), G)) else none)
  else some (some (vI (0 : Int32)), G)) else none)
  else some (some (vI (0 : Int32)), G) := (tgo 28 rfl sk_X11_isSign rfl).trans rfl
def st_X11_isWord : List (Nat × List Bool) := []
theorem sk_X11_isWord : ∀ pc bs, tstop st_X11_isWord pc = some bs → ∃ a, k_X11_isWord pc = some (aMk bs a) := tstop_ok (fun _ h => absurd h List.not_mem_nil)
theorem e_X11_isWord (x1 : Int32) (G : tH) : V_X11_isWord x1 G = if (gI G 1108 (0)) = 0 then (if tin (gI G 1107 (0)) 1002 then (if (gA G 1104 0 (gI G 1107 (0)).toNatClampNeg) = (1 : Int32) then (if tin (gI G 1107 (0)) 1002 then (if tin x1 38 then (if (lg_cmp (gB G 1106 0 (gI G 1107 (0)).toNatClampNeg) (gB G 1109 0 x1.toNatClampNeg)) = 0 then some (some (vI (1 : Int32)), G)
  else some (some (vI (0 : Int32)), G)) else none) else none)
  else some (some (vI (0 : Int32)), G)) else none)
  else some (some (vI (0 : Int32)), G) := (tgo 30 rfl sk_X11_isWord rfl).trans rfl
def st_X11_takeSign : List (Nat × List Bool) := []
theorem sk_X11_takeSign : ∀ pc bs, tstop st_X11_takeSign pc = some bs → ∃ a, k_X11_takeSign pc = some (aMk bs a) := tstop_ok (fun _ h => absurd h List.not_mem_nil)
theorem e_X11_takeSign (x1 : Int32) (G : tH) : V_X11_takeSign x1 G = tbI (V_X11_isSign x1 G) (fun r_2 G_1 => if r_2 = 0 then tbV (V_X11_wrong (1 : Int32) G_1) (fun G_3 => some (none, G_3))
  else let G_4 := sI G_1 1107 (0) ((gI G_1 1107 (0)) + (1 : Int32))
  some (none, G_4)) := (tgo 20 rfl sk_X11_takeSign rfl).trans rfl
def st_X11_hasSign : List (Nat × List Bool) := []
theorem sk_X11_hasSign : ∀ pc bs, tstop st_X11_hasSign pc = some bs → ∃ a, k_X11_hasSign pc = some (aMk bs a) := tstop_ok (fun _ h => absurd h List.not_mem_nil)
theorem e_X11_hasSign (x1 : Int32) (G : tH) : V_X11_hasSign x1 G = tbI (V_X11_isSign x1 G) (fun r_2 G_1 => if r_2 = 0 then (let G_3 := sI G_1 1107 (0) ((gI G_1 1107 (0)) + (0 : Int32))
  if vp_nar .boolean r_2 = r_2 then some (some (vI r_2), G_3) else none)
  else let G_4 := sI G_1 1107 (0) ((gI G_1 1107 (0)) + (1 : Int32))
  if vp_nar .boolean r_2 = r_2 then some (some (vI r_2), G_4) else none) := (tgo 21 rfl sk_X11_hasSign rfl).trans rfl
def st_X11_hasWord : List (Nat × List Bool) := []
theorem sk_X11_hasWord : ∀ pc bs, tstop st_X11_hasWord pc = some bs → ∃ a, k_X11_hasWord pc = some (aMk bs a) := tstop_ok (fun _ h => absurd h List.not_mem_nil)
theorem e_X11_hasWord (x1 : Int32) (G : tH) : V_X11_hasWord x1 G = tbI (V_X11_isWord x1 G) (fun r_2 G_1 => if r_2 = 0 then (let G_3 := sI G_1 1107 (0) ((gI G_1 1107 (0)) + (0 : Int32))
  if vp_nar .boolean r_2 = r_2 then some (some (vI r_2), G_3) else none)
  else let G_4 := sI G_1 1107 (0) ((gI G_1 1107 (0)) + (1 : Int32))
  if vp_nar .boolean r_2 = r_2 then some (some (vI r_2), G_4) else none) := (tgo 21 rfl sk_X11_hasWord rfl).trans rfl
def st_X11_takeWord : List (Nat × List Bool) := []
theorem sk_X11_takeWord : ∀ pc bs, tstop st_X11_takeWord pc = some bs → ∃ a, k_X11_takeWord pc = some (aMk bs a) := tstop_ok (fun _ h => absurd h List.not_mem_nil)
theorem e_X11_takeWord (x1 : Int32) (G : tH) : V_X11_takeWord x1 G = tbI (V_X11_hasWord x1 G) (fun r_2 G_1 => if r_2 = 0 then tbV (V_X11_wrong (1 : Int32) G_1) (fun G_3 => some (none, G_3))
  else some (none, G_1)) := (tgo 13 rfl sk_X11_takeWord rfl).trans rfl
def st_X11_within : List (Nat × List Bool) := []
theorem sk_X11_within : ∀ pc bs, tstop st_X11_within pc = some bs → ∃ a, k_X11_within pc = some (aMk bs a) := tstop_ok (fun _ h => absurd h List.not_mem_nil)
theorem e_X11_within (x0 : Int32) (x1 : Int32) (x2 : Int32) (G : tH) : V_X11_within x0 x1 x2 G = if x0 < x1 then some (some (vI (0 : Int32)), G)
  else if x2 < x0 then some (some (vI (0 : Int32)), G)
  else some (some (vI (1 : Int32)), G) := (tgo 15 rfl sk_X11_within rfl).trans rfl
def st_X11_standsAsAlways : List (Nat × List Bool) := [(2, [true, true, true])]
theorem sk_X11_standsAsAlways : ∀ pc bs, tstop st_X11_standsAsAlways pc = some bs → ∃ a, k_X11_standsAsAlways pc = some (aMk bs a) := tstop_ok (List.forall_mem_cons.mpr ⟨⟨_, rfl⟩, fun _ h => absurd h List.not_mem_nil⟩)
theorem e_X11_standsAsAlways (x1 : Int32) (G : tH) : V_X11_standsAsAlways x1 G = V_X11_standsAsAlways_2 x1 (0 : Int32) G := (tgo 43 rfl sk_X11_standsAsAlways rfl).trans rfl
theorem e_X11_standsAsAlways_2 (x1 : Int32) (x2 : Int32) (G : tH) : V_X11_standsAsAlways_2 x1 x2 G = if x2 < (60 : Int32) then (if tin (x1 + x2) 120 then (let G_1 := sA G 1110 0 (upd (gA G 1110 0) (x1 + x2).toNatClampNeg (0 : Int32))
  V_X11_standsAsAlways_2 x1 (x2 + (1 : Int32)) G_1) else none)
  else if tin (x1 + (4 : Int32)) 120 then (let G_2 := sA G 1110 0 (upd (gA G 1110 0) (x1 + (4 : Int32)).toNatClampNeg (10 : Int32))
  if tin (x1 + (6 : Int32)) 120 then (let G_3 := sA G_2 1110 0 (upd (gA G_2 1110 0) (x1 + (6 : Int32)).toNatClampNeg (-1 : Int32))
  if tin ((x1 + (6 : Int32)) + (1 : Int32)) 120 then (let G_4 := sA G_3 1110 0 (upd (gA G_3 1110 0) ((x1 + (6 : Int32)) + (1 : Int32)).toNatClampNeg (-1 : Int32))
  some (none, G_4)) else none) else none) else none := (tgo 43 rfl sk_X11_standsAsAlways rfl).trans rfl
def st_X11_takeNumber : List (Nat × List Bool) := [(28, [true, true, true]), (65, [true, false, false]), (70, [true, false, false])]
theorem sk_X11_takeNumber : ∀ pc bs, tstop st_X11_takeNumber pc = some bs → ∃ a, k_X11_takeNumber pc = some (aMk bs a) := tstop_ok (List.forall_mem_cons.mpr ⟨⟨_, rfl⟩, List.forall_mem_cons.mpr ⟨⟨_, rfl⟩, List.forall_mem_cons.mpr ⟨⟨_, rfl⟩, fun _ h => absurd h List.not_mem_nil⟩⟩⟩)
theorem e_X11_takeNumber (x1 : Int32) (x2 : Int32) (G : tH) : V_X11_takeNumber x1 x2 G = if (gI G 1108 (0)) = 0 then (if tin (gI G 1107 (0)) 1002 then (if (gA G 1104 0 (gI G 1107 (0)).toNatClampNeg) = (2 : Int32) then V_X11_takeNumber_28 x1 x2 G
  else tbV (V_X11_wrong (1 : Int32) G) (fun G_1 => V_X11_takeNumber_70 G_1)) else none)
  else V_X11_takeNumber_28 x1 x2 G := (tgo 63 rfl sk_X11_takeNumber rfl).trans rfl
theorem e_X11_takeNumber_28 (x1 : Int32) (x2 : Int32) (G : tH) : V_X11_takeNumber_28 x1 x2 G = if (gI G 1108 (0)) = 0 then (if tin (gI G 1107 (0)) 1002 then (if (lg_cmp (gB G 1106 0 (gI G 1107 (0)).toNatClampNeg) x1.toInt64) < 0 then V_X11_takeNumber_65 G
  else if tin (gI G 1107 (0)) 1002 then (if 0 < (lg_cmp (gB G 1106 0 (gI G 1107 (0)).toNatClampNeg) x2.toInt64) then V_X11_takeNumber_65 G
  else V_X11_takeNumber_70 G) else none) else none)
  else V_X11_takeNumber_70 G := (tgo 63 rfl sk_X11_takeNumber rfl).trans rfl
theorem e_X11_takeNumber_65 (G : tH) : V_X11_takeNumber_65  G = tbV (V_X11_wrong (4 : Int32) G) (fun G_1 => V_X11_takeNumber_70 G_1) := (tgo 63 rfl sk_X11_takeNumber rfl).trans rfl
theorem e_X11_takeNumber_70 (G : tH) : V_X11_takeNumber_70  G = if 0 < (gI G 1108 (0)) then some (some (vI (0 : Int32)), G)
  else let G_1 := sI G 1107 (0) ((gI G 1107 (0)) + (1 : Int32))
  if tin ((gI G_1 1107 (0)) - (1 : Int32)) 1002 then some (some (vI ((gB G_1 1106 0 ((gI G_1 1107 (0)) - (1 : Int32)).toNatClampNeg).toInt32)), G_1) else none := (tgo 63 rfl sk_X11_takeNumber rfl).trans rfl
def st_X11_takeAfter : List (Nat × List Bool) := []
theorem sk_X11_takeAfter : ∀ pc bs, tstop st_X11_takeAfter pc = some bs → ∃ a, k_X11_takeAfter pc = some (aMk bs a) := tstop_ok (fun _ h => absurd h List.not_mem_nil)
theorem e_X11_takeAfter (x1 : Int32) (x2 : Int32) (x3 : Int32) (G : tH) : V_X11_takeAfter x1 x2 x3 G = tbV (V_X11_takeWord x1 G) (fun G_1 => tbI (V_X11_takeNumber x2 x3 G_1) (fun r_3 G_2 => some (some (vI r_3), G_2))) := (tgo 13 rfl sk_X11_takeAfter rfl).trans rfl
def st_X11_wordHere : List (Nat × List Bool) := [(5, [true, true, true, true, true])]
theorem sk_X11_wordHere : ∀ pc bs, tstop st_X11_wordHere pc = some bs → ∃ a, k_X11_wordHere pc = some (aMk bs a) := tstop_ok (List.forall_mem_cons.mpr ⟨⟨_, rfl⟩, fun _ h => absurd h List.not_mem_nil⟩)
theorem e_X11_wordHere (x1 : Int32) (x2 : Int32) (G : tH) : V_X11_wordHere x1 x2 G = V_X11_wordHere_5 x1 x2 (-1 : Int32) (0 : Int32) G := (tgo 26 rfl sk_X11_wordHere rfl).trans rfl
theorem e_X11_wordHere_5 (x1 : Int32) (x2 : Int32) (x3 : Int32) (x4 : Int32) (G : tH) : V_X11_wordHere_5 x1 x2 x3 x4 G = if x4 < x2 then (tbI (V_X11_isWord (x1 + x4) G) (fun r_2 G_1 => if r_2 = 0 then V_X11_wordHere_5 x1 x2 x3 (x4 + (1 : Int32)) G_1
  else V_X11_wordHere_5 x1 x2 x4 (x4 + (1 : Int32)) G_1))
  else some (some (vI x3), G) := (tgo 26 rfl sk_X11_wordHere rfl).trans rfl
def st_X11_takeOne : List (Nat × List Bool) := [(17, [true, false, false, false]), (34, [true, false, false, true]), (51, [true, false, false, true])]
theorem sk_X11_takeOne : ∀ pc bs, tstop st_X11_takeOne pc = some bs → ∃ a, k_X11_takeOne pc = some (aMk bs a) := tstop_ok (List.forall_mem_cons.mpr ⟨⟨_, rfl⟩, List.forall_mem_cons.mpr ⟨⟨_, rfl⟩, List.forall_mem_cons.mpr ⟨⟨_, rfl⟩, fun _ h => absurd h List.not_mem_nil⟩⟩⟩)
theorem e_X11_takeOne (x1 : Int32) (x2 : Int32) (G : tH) : V_X11_takeOne x1 x2 G = if 0 < (gI G 1108 (0)) then V_X11_takeOne_17 (-1 : Int32) G
  else tbI (V_X11_wordHere x1 x2 G) (fun r_2 G_1 => V_X11_takeOne_17 r_2 G_1) := (tgo 41 rfl sk_X11_takeOne rfl).trans rfl
theorem e_X11_takeOne_17 (s0 : Int32) (G : tH) : V_X11_takeOne_17 s0 G = if (gI G 1108 (0)) = 0 then (if s0 < 0 then tbV (V_X11_wrong (1 : Int32) G) (fun G_1 => V_X11_takeOne_34 s0 G_1)
  else V_X11_takeOne_34 s0 G)
  else V_X11_takeOne_34 s0 G := (tgo 41 rfl sk_X11_takeOne rfl).trans rfl
theorem e_X11_takeOne_34 (x3 : Int32) (G : tH) : V_X11_takeOne_34 x3 G = if 0 < (gI G 1108 (0)) then V_X11_takeOne_51 x3 (0 : Int32) (gI G 1107 (0)) G
  else V_X11_takeOne_51 x3 (1 : Int32) (gI G 1107 (0)) G := (tgo 41 rfl sk_X11_takeOne rfl).trans rfl
theorem e_X11_takeOne_51 (x3 : Int32) (s2 : Int32) (s1 : Int32) (G : tH) : V_X11_takeOne_51 x3 s2 s1 G = let G_1 := sI G 1107 (0) (s1 + s2)
  if 0 < (gI G_1 1108 (0)) then some (some (vI (0 : Int32)), G_1)
  else some (some (vI x3), G_1) := (tgo 41 rfl sk_X11_takeOne rfl).trans rfl
def st_X11_isName : List (Nat × List Bool) := []
theorem sk_X11_isName : ∀ pc bs, tstop st_X11_isName pc = some bs → ∃ a, k_X11_isName pc = some (aMk bs a) := tstop_ok (fun _ h => absurd h List.not_mem_nil)
theorem e_X11_isName (G : tH) : V_X11_isName  G = if (gI G 1108 (0)) = 0 then (if tin (gI G 1107 (0)) 1002 then (if (gA G 1104 0 (gI G 1107 (0)).toNatClampNeg) = (1 : Int32) then (tbI (V_X11_wordHere (0 : Int32) (35 : Int32) G) (fun r_2 G_1 => if r_2 < 0 then some (some (vI (1 : Int32)), G_1)
  else some (some (vI (0 : Int32)), G_1)))
  else some (some (vI (0 : Int32)), G)) else none)
  else some (some (vI (0 : Int32)), G) := (tgo 24 rfl sk_X11_isName rfl).trans rfl
def st_X11_find : List (Nat × List Bool) := [(2, [true, true, true]), (18, [true, true, true]), (40, [true, true, true])]
theorem sk_X11_find : ∀ pc bs, tstop st_X11_find pc = some bs → ∃ a, k_X11_find pc = some (aMk bs a) := tstop_ok (List.forall_mem_cons.mpr ⟨⟨_, rfl⟩, List.forall_mem_cons.mpr ⟨⟨_, rfl⟩, List.forall_mem_cons.mpr ⟨⟨_, rfl⟩, fun _ h => absurd h List.not_mem_nil⟩⟩⟩)
theorem e_X11_find (x1 : Int32) (G : tH) : V_X11_find x1 G = V_X11_find_2 x1 (0 : Int32) G := (tgo 50 rfl sk_X11_find rfl).trans rfl
theorem e_X11_find_2 (x1 : Int32) (x2 : Int32) (G : tH) : V_X11_find_2 x1 x2 G = if x1 = 0 then V_X11_find_18 x1 x2 (gI G 1118 (0)) x2 G
  else V_X11_find_18 x1 x2 (gI G 1119 (0)) x2 G := (tgo 50 rfl sk_X11_find rfl).trans rfl
theorem e_X11_find_18 (x1 : Int32) (x2 : Int32) (s1 : Int32) (s0 : Int32) (G : tH) : V_X11_find_18 x1 x2 s1 s0 G = if s0 < s1 then (if x1 = 0 then (if tin x2 21 then V_X11_find_40 x1 x2 (gB G 1114 0 x2.toNatClampNeg) G else none)
  else if tin x2 21 then V_X11_find_40 x1 x2 (gB G 1115 0 x2.toNatClampNeg) G else none)
  else some (some (vI (-1 : Int32)), G) := (tgo 50 rfl sk_X11_find rfl).trans rfl
theorem e_X11_find_40 (x1 : Int32) (x2 : Int32) (t0 : Int64) (G : tH) : V_X11_find_40 x1 x2 t0 G = if tin (gI G 1107 (0)) 1002 then (if (lg_cmp t0 (gB G 1106 0 (gI G 1107 (0)).toNatClampNeg)) = 0 then (if x1 = 0 then (if tin x2 21 then some (some (vI (gA G 1116 0 x2.toNatClampNeg)), G) else none)
  else if tin x2 21 then some (some (vI (gA G 1117 0 x2.toNatClampNeg)), G) else none)
  else V_X11_find_2 x1 (x2 + (1 : Int32)) G) else none := (tgo 50 rfl sk_X11_find rfl).trans rfl
def st_X11_takeTold : List (Nat × List Bool) := [(19, [true, true, true, false]), (37, [true, false, false, false]), (59, [true, false, false, true]), (76, [true, false, false, true])]
theorem sk_X11_takeTold : ∀ pc bs, tstop st_X11_takeTold pc = some bs → ∃ a, k_X11_takeTold pc = some (aMk bs a) := tstop_ok (List.forall_mem_cons.mpr ⟨⟨_, rfl⟩, List.forall_mem_cons.mpr ⟨⟨_, rfl⟩, List.forall_mem_cons.mpr ⟨⟨_, rfl⟩, List.forall_mem_cons.mpr ⟨⟨_, rfl⟩, fun _ h => absurd h List.not_mem_nil⟩⟩⟩⟩)
theorem e_X11_takeTold (x1 : Int32) (x2 : Int32) (G : tH) : V_X11_takeTold x1 x2 G = if (gI G 1108 (0)) = 0 then (tbI (V_X11_isName G) (fun r_2 G_1 => if r_2 = 0 then tbV (V_X11_wrong (1 : Int32) G_1) (fun G_3 => V_X11_takeTold_19 x1 x2 G_3)
  else V_X11_takeTold_19 x1 x2 G_1))
  else V_X11_takeTold_19 x1 x2 G := (tgo 54 rfl sk_X11_takeTold rfl).trans rfl
theorem e_X11_takeTold_19 (x1 : Int32) (x2 : Int32) (G : tH) : V_X11_takeTold_19 x1 x2 G = if 0 < (gI G 1108 (0)) then V_X11_takeTold_37 (-1 : Int32) G
  else tbI (V_X11_find x1 G) (fun r_2 G_1 => V_X11_takeTold_37 (r_2 - x2) G_1) := (tgo 54 rfl sk_X11_takeTold rfl).trans rfl
theorem e_X11_takeTold_37 (s0 : Int32) (G : tH) : V_X11_takeTold_37 s0 G = if (gI G 1108 (0)) = 0 then (tbI (V_X11_within s0 (0 : Int32) (5 : Int32) G) (fun r_2 G_1 => if r_2 = 0 then tbV (V_X11_wrong (2 : Int32) G_1) (fun G_3 => V_X11_takeTold_59 s0 G_3)
  else V_X11_takeTold_59 s0 G_1))
  else V_X11_takeTold_59 s0 G := (tgo 54 rfl sk_X11_takeTold rfl).trans rfl
theorem e_X11_takeTold_59 (x3 : Int32) (G : tH) : V_X11_takeTold_59 x3 G = if 0 < (gI G 1108 (0)) then V_X11_takeTold_76 x3 (0 : Int32) (gI G 1107 (0)) G
  else V_X11_takeTold_76 x3 (1 : Int32) (gI G 1107 (0)) G := (tgo 54 rfl sk_X11_takeTold rfl).trans rfl
theorem e_X11_takeTold_76 (x3 : Int32) (s2 : Int32) (s1 : Int32) (G : tH) : V_X11_takeTold_76 x3 s2 s1 G = let G_1 := sI G 1107 (0) (s1 + s2)
  if 0 < (gI G_1 1108 (0)) then some (some (vI (0 : Int32)), G_1)
  else some (some (vI x3), G_1) := (tgo 54 rfl sk_X11_takeTold rfl).trans rfl
def st_X11_province : List (Nat × List Bool) := [(30, [true, false]), (62, [true, false]), (76, [true, true]), (105, [true, true]), (153, [true, true])]
theorem sk_X11_province : ∀ pc bs, tstop st_X11_province pc = some bs → ∃ a, k_X11_province pc = some (aMk bs a) := tstop_ok (List.forall_mem_cons.mpr ⟨⟨_, rfl⟩, List.forall_mem_cons.mpr ⟨⟨_, rfl⟩, List.forall_mem_cons.mpr ⟨⟨_, rfl⟩, List.forall_mem_cons.mpr ⟨⟨_, rfl⟩, List.forall_mem_cons.mpr ⟨⟨_, rfl⟩, fun _ h => absurd h List.not_mem_nil⟩⟩⟩⟩⟩)
theorem e_X11_province (G : tH) : V_X11_province  G = let G_1 := sI G 1100 (0) ((0 : Int32))
  tbV (V_X11_cutAll G_1) (fun G_2 => let G_3 := sI G_2 1113 (0) ((0 : Int32))
  let G_4 := sI G_3 1119 (0) ((0 : Int32))
  let G_5 := sI G_4 1120 (0) ((0 : Int32))
  tbV (V_X11_standsAsAlways (60 : Int32) G_5) (fun G_6 => V_X11_province_30 G_6)) := (tgo 120 rfl sk_X11_province rfl).trans rfl
theorem e_X11_province_30 (G : tH) : V_X11_province_30  G = if (gI G 1108 (0)) = 0 then (if tin (gI G 1107 (0)) 1002 then (if (gA G 1104 0 (gI G 1107 (0)).toNatClampNeg) = 0 then V_X11_province_62 G
  else tbV (V_X11_readLine G) (fun G_1 => tbV (V_X11_takeSign (59 : Int32) G_1) (fun G_2 => V_X11_province_30 G_2))) else none)
  else V_X11_province_62 G := (tgo 120 rfl sk_X11_province rfl).trans rfl
theorem e_X11_province_62 (G : tH) : V_X11_province_62  G = if 0 < (gI G 1108 (0)) then some (some (vI (gI G 1108 (0))), G)
  else V_X11_province_76 (0 : Int32) G := (tgo 120 rfl sk_X11_province rfl).trans rfl
theorem e_X11_province_76 (x1 : Int32) (G : tH) : V_X11_province_76 x1 G = if x1 < (60 : Int32) then (if tin ((60 : Int32) + x1) 120 then (if tin x1 120 then (let G_1 := sA G 1110 0 (upd (gA G 1110 0) x1.toNatClampNeg (gA G 1110 0 ((60 : Int32) + x1).toNatClampNeg))
  V_X11_province_76 (x1 + (1 : Int32)) G_1) else none) else none)
  else V_X11_province_105 (0 : Int32) G := (tgo 120 rfl sk_X11_province rfl).trans rfl
theorem e_X11_province_105 (x1 : Int32) (G : tH) : V_X11_province_105 x1 G = if x1 < (gI G 1113 (0)) then (if tin ((1100 : Int32) + x1) 2200 then (if tin x1 2200 then (let G_1 := sA G 1111 0 (upd (gA G 1111 0) x1.toNatClampNeg (gA G 1111 0 ((1100 : Int32) + x1).toNatClampNeg))
  if tin ((1100 : Int32) + x1) 2200 then (if tin x1 2200 then (let G_2 := sA G_1 1112 0 (upd (gA G_1 1112 0) x1.toNatClampNeg (gA G_1 1112 0 ((1100 : Int32) + x1).toNatClampNeg))
  V_X11_province_105 (x1 + (1 : Int32)) G_2) else none) else none) else none) else none)
  else V_X11_province_153 (0 : Int32) G := (tgo 120 rfl sk_X11_province rfl).trans rfl
theorem e_X11_province_153 (x1 : Int32) (G : tH) : V_X11_province_153 x1 G = if x1 < (gI G 1119 (0)) then (if tin x1 21 then (if tin x1 21 then (let G_1 := sB G 1114 0 (vp_updL (gB G 1114 0) x1.toNatClampNeg (gB G 1115 0 x1.toNatClampNeg))
  if tin x1 21 then (if tin x1 21 then (let G_2 := sA G_1 1116 0 (upd (gA G_1 1116 0) x1.toNatClampNeg (gA G_1 1117 0 x1.toNatClampNeg))
  V_X11_province_153 (x1 + (1 : Int32)) G_2) else none) else none) else none) else none)
  else let G_3 := sI G 1118 (0) (gI G 1119 (0))
  tbV (V_X11_begins G_3) (fun G_4 => some (some (vI (0 : Int32)), G_4)) := (tgo 120 rfl sk_X11_province rfl).trans rfl
def st_X11_readLine : List (Nat × List Bool) := []
theorem sk_X11_readLine : ∀ pc bs, tstop st_X11_readLine pc = some bs → ∃ a, k_X11_readLine pc = some (aMk bs a) := tstop_ok (fun _ h => absurd h List.not_mem_nil)
theorem e_X11_readLine (G : tH) : V_X11_readLine  G = tbI (V_X11_isWord (0 : Int32) G) (fun r_2 G_1 => if r_2 = 0 then (tbI (V_X11_isWord (2 : Int32) G_1) (fun r_4 G_3 => if r_4 = 0 then (tbI (V_X11_isWord (4 : Int32) G_3) (fun r_6 G_5 => if r_6 = 0 then (tbI (V_X11_isWord (7 : Int32) G_5) (fun r_8 G_7 => if r_8 = 0 then tbV (V_X11_readOnce G_7) (fun G_9 => some (none, G_9))
  else tbI (V_X11_readName (3 : Int32) (5 : Int32) (60 : Int32) G_7) (fun r_11 G_10 => if r_11 = 0 then some (none, G_10)
  else let z_12 : Int32 := (100 : Int32) + ((2 : Int32) * (gA G_10 1110 0 (63 : Int32).toNatClampNeg))
  tbV (V_X11_takeWord (8 : Int32) G_10) (fun G_13 => tbI (V_X11_takeTold (1 : Int32) (20 : Int32) G_13) (fun r_15 G_14 => if tin z_12 120 then (let G_16 := sA G_14 1110 0 (upd (gA G_14 1110 0) z_12.toNatClampNeg r_15)
  tbI (V_X11_takeAfter (9 : Int32) (0 : Int32) (999 : Int32) G_16) (fun r_18 G_17 => if tin (z_12 + (1 : Int32)) 120 then (let G_19 := sA G_17 1110 0 (upd (gA G_17 1110 0) (z_12 + (1 : Int32)).toNatClampNeg r_18)
  let G_20 := sA G_19 1110 0 (upd (gA G_19 1110 0) (63 : Int32).toNatClampNeg ((gA G_19 1110 0 (63 : Int32).toNatClampNeg) + (1 : Int32)))
  some (none, G_20)) else none)) else none)))))
  else tbI (V_X11_readName (2 : Int32) (5 : Int32) (40 : Int32) G_5) (fun r_22 G_21 => if r_22 = 0 then some (none, G_21)
  else let z_23 : Int32 := (90 : Int32) + ((2 : Int32) * (gA G_21 1110 0 (62 : Int32).toNatClampNeg))
  tbI (V_X11_takeAfter (5 : Int32) (0 : Int32) (300 : Int32) G_21) (fun r_25 G_24 => if tin z_23 120 then (let G_26 := sA G_24 1110 0 (upd (gA G_24 1110 0) z_23.toNatClampNeg r_25)
  tbI (V_X11_takeAfter (6 : Int32) (1 : Int32) (9 : Int32) G_26) (fun r_28 G_27 => if tin (z_23 + (1 : Int32)) 120 then (let G_29 := sA G_27 1110 0 (upd (gA G_27 1110 0) (z_23 + (1 : Int32)).toNatClampNeg r_28)
  let G_30 := sA G_29 1110 0 (upd (gA G_29 1110 0) (62 : Int32).toNatClampNeg ((gA G_29 1110 0 (62 : Int32).toNatClampNeg) + (1 : Int32)))
  some (none, G_30)) else none)) else none))))
  else tbI (V_X11_readName (1 : Int32) (5 : Int32) (20 : Int32) G_3) (fun r_32 G_31 => if r_32 = 0 then some (none, G_31)
  else let z_33 : Int32 := (80 : Int32) + ((2 : Int32) * (gA G_31 1110 0 (61 : Int32).toNatClampNeg))
  tbI (V_X11_takeOne (28 : Int32) (4 : Int32) G_31) (fun r_35 G_34 => if tin z_33 120 then (let G_36 := sA G_34 1110 0 (upd (gA G_34 1110 0) z_33.toNatClampNeg r_35)
  tbI (V_X11_takeAfter (3 : Int32) (0 : Int32) (9999 : Int32) G_36) (fun r_38 G_37 => if tin (z_33 + (1 : Int32)) 120 then (let G_39 := sA G_37 1110 0 (upd (gA G_37 1110 0) (z_33 + (1 : Int32)).toNatClampNeg r_38)
  let G_40 := sA G_39 1110 0 (upd (gA G_39 1110 0) (61 : Int32).toNatClampNeg ((gA G_39 1110 0 (61 : Int32).toNatClampNeg) + (1 : Int32)))
  some (none, G_40)) else none)) else none))))
  else tbI (V_X11_readName (0 : Int32) (6 : Int32) (0 : Int32) G_1) (fun r_42 G_41 => if r_42 = 0 then some (none, G_41)
  else let z_43 : Int32 := (68 : Int32) + ((2 : Int32) * (gA G_41 1110 0 (60 : Int32).toNatClampNeg))
  tbI (V_X11_takeOne (24 : Int32) (4 : Int32) G_41) (fun r_45 G_44 => if tin z_43 120 then (let G_46 := sA G_44 1110 0 (upd (gA G_44 1110 0) z_43.toNatClampNeg r_45)
  tbI (V_X11_takeAfter (1 : Int32) (0 : Int32) (999 : Int32) G_46) (fun r_48 G_47 => if tin (z_43 + (1 : Int32)) 120 then (let G_49 := sA G_47 1110 0 (upd (gA G_47 1110 0) (z_43 + (1 : Int32)).toNatClampNeg r_48)
  let G_50 := sA G_49 1110 0 (upd (gA G_49 1110 0) (60 : Int32).toNatClampNeg ((gA G_49 1110 0 (60 : Int32).toNatClampNeg) + (1 : Int32)))
  some (none, G_50)) else none)) else none))) := (tgo 200 rfl sk_X11_readLine rfl).trans rfl
