/-! the equations: X11a -/
def st_X11_thrown : List (Nat × List Bool) := []
theorem sk_X11_thrown : ∀ pc bs, tstop st_X11_thrown pc = some bs → ∃ a, k_X11_thrown pc = some (aMk bs a) := tstop_ok (fun _ h => absurd h List.not_mem_nil)
set_option maxRecDepth 20000 in
theorem e_X11_thrown (G : tH) : V_X11_thrown  G = some (some (vI (gI G 1100 (0))), G) := (tgo 8 rfl sk_X11_thrown rfl).trans rfl
def st_X11_feed : List (Nat × List Bool) := []
theorem sk_X11_feed : ∀ pc bs, tstop st_X11_feed pc = some bs → ∃ a, k_X11_feed pc = some (aMk bs a) := tstop_ok (fun _ h => absurd h List.not_mem_nil)
set_option maxRecDepth 20000 in
theorem e_X11_feed (y1 : Int64) (y3 : Int64) (y5 : Int64) (G : tH) : V_X11_feed y1 y3 y5 G = let G_1 := sI G 1100 (0) ((nI 0))
  tbV (V_X11_lay y1 G_1) (fun G_2 => tbV (V_X11_lay y3 G_2) (fun G_3 => tbV (V_X11_lay y5 G_3) (fun G_4 => some (some (vI (gI G_4 1102 (0))), G_4)))) := (tgo 20 rfl sk_X11_feed rfl).trans rfl
def st_X11_lay : List (Nat × List Bool) := [(3, [true, true, false, true, false]), (38, [true, true, false, true, true])]
theorem sk_X11_lay : ∀ pc bs, tstop st_X11_lay pc = some bs → ∃ a, k_X11_lay pc = some (aMk bs a) := tstop_ok (List.forall_mem_cons.mpr ⟨⟨_, rfl⟩, List.forall_mem_cons.mpr ⟨⟨_, rfl⟩, fun _ h => absurd h List.not_mem_nil⟩⟩)
set_option maxRecDepth 20000 in
theorem e_X11_lay (y1 : Int64) (G : tH) : V_X11_lay y1 G = V_X11_lay_3 y1 (nI 56) G := (tgo 44 rfl sk_X11_lay rfl).trans rfl
set_option maxRecDepth 20000 in
theorem e_X11_lay_3 (y1 : Int64) (x3 : Int32) (G : tH) : V_X11_lay_3 y1 x3 G = tif (x3 < 0) (some (none, G))
  (tif ((((y1 >>> (x3.toInt64 &&& 63)).toInt32) &&& (nI 255)) = (nI 10)) (V_X11_lay_38 y1 x3 (((y1 >>> (x3.toInt64 &&& 63)).toInt32) &&& (nI 255)) G)
  (tif ((((y1 >>> (x3.toInt64 &&& 63)).toInt32) &&& (nI 255)) < (nI 32)) (V_X11_lay_3 y1 (x3 + (-8 : Int32)) G)
  (tif ((nI 126) < (((y1 >>> (x3.toInt64 &&& 63)).toInt32) &&& (nI 255))) (V_X11_lay_3 y1 (x3 + (-8 : Int32)) G)
  (V_X11_lay_38 y1 x3 (((y1 >>> (x3.toInt64 &&& 63)).toInt32) &&& (nI 255)) G)))) := (tgo 44 rfl sk_X11_lay rfl).trans rfl
set_option maxRecDepth 20000 in
theorem e_X11_lay_38 (y1 : Int64) (x3 : Int32) (x4 : Int32) (G : tH) : V_X11_lay_38 y1 x3 x4 G = tif ((gI G 1102 (0)) < (nI 1000)) (tif (tin (gI G 1102 (0)) 1000) (let G_1 := sA G 1101 0 (upd (gA G 1101 0) (gI G 1102 (0)).toNatClampNeg x4)
  let G_2 := sI G_1 1102 (0) ((gI G_1 1102 (0)) + (nI 1))
  V_X11_lay_3 y1 (x3 + (-8 : Int32)) G_2) none)
  (V_X11_lay_3 y1 (x3 + (-8 : Int32)) G) := (tgo 44 rfl sk_X11_lay rfl).trans rfl
def st_X11_isLetter : List (Nat × List Bool) := []
theorem sk_X11_isLetter : ∀ pc bs, tstop st_X11_isLetter pc = some bs → ∃ a, k_X11_isLetter pc = some (aMk bs a) := tstop_ok (fun _ h => absurd h List.not_mem_nil)
set_option maxRecDepth 20000 in
theorem e_X11_isLetter (x0 : Int32) (G : tH) : V_X11_isLetter x0 G = tif (x0 < (nI 97)) (tif (vp_nar .boolean (nI 0) = (nI 0)) (some (some (vI (nI 0)), G)) none)
  (tif ((nI 122) < x0) (tif (vp_nar .boolean (nI 0) = (nI 0)) (some (some (vI (nI 0)), G)) none)
  (tif (vp_nar .boolean (nI 1) = (nI 1)) (some (some (vI (nI 1)), G)) none)) := (tgo 15 rfl sk_X11_isLetter rfl).trans rfl
def st_X11_isDigit : List (Nat × List Bool) := []
theorem sk_X11_isDigit : ∀ pc bs, tstop st_X11_isDigit pc = some bs → ∃ a, k_X11_isDigit pc = some (aMk bs a) := tstop_ok (fun _ h => absurd h List.not_mem_nil)
set_option maxRecDepth 20000 in
theorem e_X11_isDigit (x0 : Int32) (G : tH) : V_X11_isDigit x0 G = tif (x0 < (nI 48)) (tif (vp_nar .boolean (nI 0) = (nI 0)) (some (some (vI (nI 0)), G)) none)
  (tif ((nI 57) < x0) (tif (vp_nar .boolean (nI 0) = (nI 0)) (some (some (vI (nI 0)), G)) none)
  (tif (vp_nar .boolean (nI 1) = (nI 1)) (some (some (vI (nI 1)), G)) none)) := (tgo 15 rfl sk_X11_isDigit rfl).trans rfl
def st_X11_rank : List (Nat × List Bool) := []
theorem sk_X11_rank : ∀ pc bs, tstop st_X11_rank pc = some bs → ∃ a, k_X11_rank pc = some (aMk bs a) := tstop_ok (fun _ h => absurd h List.not_mem_nil)
set_option maxRecDepth 20000 in
theorem e_X11_rank (x0 : Int32) (G : tH) : V_X11_rank x0 G = tbI (V_X11_isLetter x0 G) (fun r_2 G_1 => tif (r_2 = 0) (some (some (vI (x0 - (nI 21))), G_1))
  (some (some (vI (x0 - (nI 96))), G_1))) := (tgo 16 rfl sk_X11_rank rfl).trans rfl
def st_X11_isSignOf : List (Nat × List Bool) := []
theorem sk_X11_isSignOf : ∀ pc bs, tstop st_X11_isSignOf pc = some bs → ∃ a, k_X11_isSignOf pc = some (aMk bs a) := tstop_ok (fun _ h => absurd h List.not_mem_nil)
set_option maxRecDepth 20000 in
theorem e_X11_isSignOf (x0 : Int32) (G : tH) : V_X11_isSignOf x0 G = tif (x0 = (nI 40)) (tif (vp_nar .boolean (nI 1) = (nI 1)) (some (some (vI (nI 1)), G)) none)
  (tif (x0 = (nI 41)) (tif (vp_nar .boolean (nI 1) = (nI 1)) (some (some (vI (nI 1)), G)) none)
  (tif (x0 = (nI 59)) (tif (vp_nar .boolean (nI 1) = (nI 1)) (some (some (vI (nI 1)), G)) none)
  (tif (x0 = (nI 61)) (tif (vp_nar .boolean (nI 1) = (nI 1)) (some (some (vI (nI 1)), G)) none)
  (tif (x0 = (nI 60)) (tif (vp_nar .boolean (nI 1) = (nI 1)) (some (some (vI (nI 1)), G)) none)
  (tif (x0 = (nI 43)) (tif (vp_nar .boolean (nI 1) = (nI 1)) (some (some (vI (nI 1)), G)) none)
  (tif (x0 = (nI 45)) (tif (vp_nar .boolean (nI 1) = (nI 1)) (some (some (vI (nI 1)), G)) none)
  (tif (x0 = (nI 42)) (tif (vp_nar .boolean (nI 1) = (nI 1)) (some (some (vI (nI 1)), G)) none)
  (tif (vp_nar .boolean (nI 0) = (nI 0)) (some (some (vI (nI 0)), G)) none)))))))) := (tgo 33 rfl sk_X11_isSignOf rfl).trans rfl
def st_X11_cutAll : List (Nat × List Bool) := [(17, [true, true, true, false, false, false, false]), (70, [true, true, true, false, true, true, false]), (129, [true, true, true, false, true, true, false]), (159, [true, true, true, false, true, true, false]), (218, [true, true, true, false, true, true, false])]
theorem sk_X11_cutAll : ∀ pc bs, tstop st_X11_cutAll pc = some bs → ∃ a, k_X11_cutAll pc = some (aMk bs a) := tstop_ok (List.forall_mem_cons.mpr ⟨⟨_, rfl⟩, List.forall_mem_cons.mpr ⟨⟨_, rfl⟩, List.forall_mem_cons.mpr ⟨⟨_, rfl⟩, List.forall_mem_cons.mpr ⟨⟨_, rfl⟩, List.forall_mem_cons.mpr ⟨⟨_, rfl⟩, fun _ h => absurd h List.not_mem_nil⟩⟩⟩⟩⟩)
set_option maxRecDepth 20000 in
theorem e_X11_cutAll (G : tH) : V_X11_cutAll  G = let G_1 := sI G 1103 (0) (gI G 1102 (0))
  let G_2 := sI G_1 1102 (0) ((nI 0))
  V_X11_cutAll_17 (nI 0) (nI 0) G_2 := (tgo 174 rfl sk_X11_cutAll rfl).trans rfl
set_option maxRecDepth 20000 in
theorem e_X11_cutAll_17 (x1 : Int32) (x2 : Int32) (G : tH) : V_X11_cutAll_17 x1 x2 G = tif (x2 < (gI G 1103 (0))) (tif (tin x2 1000) (tif ((gA G 1101 0 x2.toNatClampNeg) = (nI 10)) (V_X11_cutAll_17 x1 (x2 + (nI 1)) G)
  (tif ((gA G 1101 0 x2.toNatClampNeg) = (nI 32)) (V_X11_cutAll_17 x1 (x2 + (nI 1)) G)
  (tif (tin x1 1002) (let G_1 := sA G 1105 0 (upd (gA G 1105 0) x1.toNatClampNeg x2)
  tbI (V_X11_isLetter (gA G 1101 0 x2.toNatClampNeg) G_1) (fun r_3 G_2 => tif (r_3 = 0) (tbI (V_X11_isDigit (gA G 1101 0 x2.toNatClampNeg) G_2) (fun r_5 G_4 => tif (r_5 = 0) (tbI (V_X11_isSignOf (gA G 1101 0 x2.toNatClampNeg) G_4) (fun r_7 G_6 => tif (r_7 = 0) (tif (tin x1 1002) (let G_8 := sA G_6 1104 0 (upd (gA G_6 1104 0) x1.toNatClampNeg (nI 4))
  tif (tin x1 1002) (let G_9 := sB G_8 1106 0 (vp_updL (gB G_8 1106 0) x1.toNatClampNeg ((gA G 1101 0 x2.toNatClampNeg).toInt64))
  V_X11_cutAll_17 (x1 + (nI 1)) (x2 + (nI 1)) G_9) none) none)
  (tif (tin x1 1002) (let G_10 := sA G_6 1104 0 (upd (gA G_6 1104 0) x1.toNatClampNeg (nI 3))
  tif (tin x1 1002) (let G_11 := sB G_10 1106 0 (vp_updL (gB G_10 1106 0) x1.toNatClampNeg ((gA G 1101 0 x2.toNatClampNeg).toInt64))
  V_X11_cutAll_17 (x1 + (nI 1)) (x2 + (nI 1)) G_11) none) none)))
  (V_X11_cutAll_159 x1 x2 x2 (lN 0) G_4)))
  (V_X11_cutAll_70 x1 x2 x2 (lN 0) G_2))) none))) none)
  (tif (tin x1 1002) (let G_12 := sA G 1104 0 (upd (gA G 1104 0) x1.toNatClampNeg (nI 0))
  tif (tin x1 1002) (let G_13 := sA G_12 1105 0 (upd (gA G_12 1105 0) x1.toNatClampNeg (gI G_12 1103 (0)))
  let G_14 := sI G_13 1107 (0) ((nI 0))
  let G_15 := sI G_14 1108 (0) ((nI 0))
  some (none, G_15)) none) none) := (tgo 174 rfl sk_X11_cutAll rfl).trans rfl
set_option maxRecDepth 20000 in
theorem e_X11_cutAll_70 (x1 : Int32) (x2 : Int32) (x4 : Int32) (y5 : Int64) (G : tH) : V_X11_cutAll_70 x1 x2 x4 y5 G = tif (x2 < (gI G 1103 (0))) (tif (tin x2 1000) (tbI (V_X11_isLetter (gA G 1101 0 x2.toNatClampNeg) G) (fun r_2 G_1 => tif (r_2 = 0) (V_X11_cutAll_129 x1 x2 x4 y5 G_1)
  (tif ((x2 - x4) < (nI 8)) (tif (tin x2 1000) (tbI (V_X11_rank (gA G_1 1101 0 x2.toNatClampNeg) G_1) (fun r_4 G_3 => V_X11_cutAll_70 x1 (x2 + (nI 1)) x4 (((lN 37) * y5) + r_4.toInt64) G_3)) none)
  (V_X11_cutAll_70 x1 (x2 + (nI 1)) x4 y5 G_1)))) none)
  (V_X11_cutAll_129 x1 x2 x4 y5 G) := (tgo 174 rfl sk_X11_cutAll rfl).trans rfl
set_option maxRecDepth 20000 in
theorem e_X11_cutAll_129 (x1 : Int32) (x2 : Int32) (x4 : Int32) (y5 : Int64) (G : tH) : V_X11_cutAll_129 x1 x2 x4 y5 G = tif ((nI 8) < (x2 - x4)) (tif (tin x1 1002) (let G_1 := sA G 1104 0 (upd (gA G 1104 0) x1.toNatClampNeg (nI 4))
  tif (tin x1 1002) (let G_2 := sB G_1 1106 0 (vp_updL (gB G_1 1106 0) x1.toNatClampNeg y5)
  V_X11_cutAll_17 (x1 + (nI 1)) x2 G_2) none) none)
  (tif (tin x1 1002) (let G_3 := sA G 1104 0 (upd (gA G 1104 0) x1.toNatClampNeg (nI 1))
  tif (tin x1 1002) (let G_4 := sB G_3 1106 0 (vp_updL (gB G_3 1106 0) x1.toNatClampNeg y5)
  V_X11_cutAll_17 (x1 + (nI 1)) x2 G_4) none) none) := (tgo 174 rfl sk_X11_cutAll rfl).trans rfl
set_option maxRecDepth 20000 in
theorem e_X11_cutAll_159 (x1 : Int32) (x2 : Int32) (x4 : Int32) (y5 : Int64) (G : tH) : V_X11_cutAll_159 x1 x2 x4 y5 G = tif (x2 < (gI G 1103 (0))) (tif (tin x2 1000) (tbI (V_X11_isDigit (gA G 1101 0 x2.toNatClampNeg) G) (fun r_2 G_1 => tif (r_2 = 0) (V_X11_cutAll_218 x1 x2 x4 y5 G_1)
  (tif ((x2 - x4) < (nI 4)) (tif (tin x2 1000) (V_X11_cutAll_159 x1 (x2 + (nI 1)) x4 ((((lN 10) * y5) + ((gA G_1 1101 0 x2.toNatClampNeg).toInt64)) - (lN 48)) G_1) none)
  (V_X11_cutAll_159 x1 (x2 + (nI 1)) x4 y5 G_1)))) none)
  (V_X11_cutAll_218 x1 x2 x4 y5 G) := (tgo 174 rfl sk_X11_cutAll rfl).trans rfl
set_option maxRecDepth 20000 in
theorem e_X11_cutAll_218 (x1 : Int32) (x2 : Int32) (x4 : Int32) (y5 : Int64) (G : tH) : V_X11_cutAll_218 x1 x2 x4 y5 G = tif ((nI 4) < (x2 - x4)) (tif (tin x1 1002) (let G_1 := sA G 1104 0 (upd (gA G 1104 0) x1.toNatClampNeg (nI 4))
  tif (tin x1 1002) (let G_2 := sB G_1 1106 0 (vp_updL (gB G_1 1106 0) x1.toNatClampNeg y5)
  V_X11_cutAll_17 (x1 + (nI 1)) x2 G_2) none) none)
  (tif (tin x1 1002) (let G_3 := sA G 1104 0 (upd (gA G 1104 0) x1.toNatClampNeg (nI 2))
  tif (tin x1 1002) (let G_4 := sB G_3 1106 0 (vp_updL (gB G_3 1106 0) x1.toNatClampNeg y5)
  V_X11_cutAll_17 (x1 + (nI 1)) x2 G_4) none) none) := (tgo 174 rfl sk_X11_cutAll rfl).trans rfl
def st_X11_wrong : List (Nat × List Bool) := []
theorem sk_X11_wrong : ∀ pc bs, tstop st_X11_wrong pc = some bs → ∃ a, k_X11_wrong pc = some (aMk bs a) := tstop_ok (fun _ h => absurd h List.not_mem_nil)
set_option maxRecDepth 20000 in
theorem e_X11_wrong (x1 : Int32) (G : tH) : V_X11_wrong x1 G = tif ((gI G 1108 (0)) = 0) (tif (tin (gI G 1107 (0)) 1002) (let G_1 := sI G 1108 (0) (x1 + ((nI 16) * (gA G 1105 0 (gI G 1107 (0)).toNatClampNeg)))
  some (none, G_1)) none)
  (some (none, G)) := (tgo 20 rfl sk_X11_wrong rfl).trans rfl
def st_X11_isSign : List (Nat × List Bool) := []
theorem sk_X11_isSign : ∀ pc bs, tstop st_X11_isSign pc = some bs → ∃ a, k_X11_isSign pc = some (aMk bs a) := tstop_ok (fun _ h => absurd h List.not_mem_nil)
set_option maxRecDepth 20000 in
theorem e_X11_isSign (x1 : Int32) (G : tH) : V_X11_isSign x1 G = tif ((gI G 1108 (0)) = 0) (tif (tin (gI G 1107 (0)) 1002) (tif ((gA G 1104 0 (gI G 1107 (0)).toNatClampNeg) = (nI 3)) (tif (tin (gI G 1107 (0)) 1002) (tif ((lg_cmp (gB G 1106 0 (gI G 1107 (0)).toNatClampNeg) x1.toInt64) = 0) (tif (vp_nar .boolean (nI 1) = (nI 1)) (some (some (vI (nI 1)), G)) none)
  (tif (vp_nar .boolean (nI 0) = (nI 0)) (some (some (vI (nI 0)), G)) none)) none)
  (tif (vp_nar .boolean (nI 0) = (nI 0)) (some (some (vI (nI 0)), G)) none)) none)
  (tif (vp_nar .boolean (nI 0) = (nI 0)) (some (some (vI (nI 0)), G)) none) := (tgo 28 rfl sk_X11_isSign rfl).trans rfl
def st_X11_isWord : List (Nat × List Bool) := []
theorem sk_X11_isWord : ∀ pc bs, tstop st_X11_isWord pc = some bs → ∃ a, k_X11_isWord pc = some (aMk bs a) := tstop_ok (fun _ h => absurd h List.not_mem_nil)
set_option maxRecDepth 20000 in
theorem e_X11_isWord (x1 : Int32) (G : tH) : V_X11_isWord x1 G = tif ((gI G 1108 (0)) = 0) (tif (tin (gI G 1107 (0)) 1002) (tif ((gA G 1104 0 (gI G 1107 (0)).toNatClampNeg) = (nI 1)) (tif (tin (gI G 1107 (0)) 1002) (tif (tin x1 38) (tif ((lg_cmp (gB G 1106 0 (gI G 1107 (0)).toNatClampNeg) (gB G 1109 0 x1.toNatClampNeg)) = 0) (tif (vp_nar .boolean (nI 1) = (nI 1)) (some (some (vI (nI 1)), G)) none)
  (tif (vp_nar .boolean (nI 0) = (nI 0)) (some (some (vI (nI 0)), G)) none)) none) none)
  (tif (vp_nar .boolean (nI 0) = (nI 0)) (some (some (vI (nI 0)), G)) none)) none)
  (tif (vp_nar .boolean (nI 0) = (nI 0)) (some (some (vI (nI 0)), G)) none) := (tgo 30 rfl sk_X11_isWord rfl).trans rfl
def st_X11_takeSign : List (Nat × List Bool) := []
theorem sk_X11_takeSign : ∀ pc bs, tstop st_X11_takeSign pc = some bs → ∃ a, k_X11_takeSign pc = some (aMk bs a) := tstop_ok (fun _ h => absurd h List.not_mem_nil)
set_option maxRecDepth 20000 in
theorem e_X11_takeSign (x1 : Int32) (G : tH) : V_X11_takeSign x1 G = tbI (V_X11_isSign x1 G) (fun r_2 G_1 => tif (r_2 = 0) (tbV (V_X11_wrong (nI 1) G_1) (fun G_3 => some (none, G_3)))
  (let G_4 := sI G_1 1107 (0) ((gI G_1 1107 (0)) + (nI 1))
  some (none, G_4))) := (tgo 20 rfl sk_X11_takeSign rfl).trans rfl
def st_X11_hasSign : List (Nat × List Bool) := []
theorem sk_X11_hasSign : ∀ pc bs, tstop st_X11_hasSign pc = some bs → ∃ a, k_X11_hasSign pc = some (aMk bs a) := tstop_ok (fun _ h => absurd h List.not_mem_nil)
set_option maxRecDepth 20000 in
theorem e_X11_hasSign (x1 : Int32) (G : tH) : V_X11_hasSign x1 G = tbI (V_X11_isSign x1 G) (fun r_2 G_1 => tif (r_2 = 0) (let G_3 := sI G_1 1107 (0) ((gI G_1 1107 (0)) + (nI 0))
  tif (vp_nar .boolean r_2 = r_2) (some (some (vI r_2), G_3)) none)
  (let G_4 := sI G_1 1107 (0) ((gI G_1 1107 (0)) + (nI 1))
  tif (vp_nar .boolean r_2 = r_2) (some (some (vI r_2), G_4)) none)) := (tgo 21 rfl sk_X11_hasSign rfl).trans rfl
def st_X11_hasWord : List (Nat × List Bool) := []
theorem sk_X11_hasWord : ∀ pc bs, tstop st_X11_hasWord pc = some bs → ∃ a, k_X11_hasWord pc = some (aMk bs a) := tstop_ok (fun _ h => absurd h List.not_mem_nil)
set_option maxRecDepth 20000 in
theorem e_X11_hasWord (x1 : Int32) (G : tH) : V_X11_hasWord x1 G = tbI (V_X11_isWord x1 G) (fun r_2 G_1 => tif (r_2 = 0) (let G_3 := sI G_1 1107 (0) ((gI G_1 1107 (0)) + (nI 0))
  tif (vp_nar .boolean r_2 = r_2) (some (some (vI r_2), G_3)) none)
  (let G_4 := sI G_1 1107 (0) ((gI G_1 1107 (0)) + (nI 1))
  tif (vp_nar .boolean r_2 = r_2) (some (some (vI r_2), G_4)) none)) := (tgo 21 rfl sk_X11_hasWord rfl).trans rfl
def st_X11_takeWord : List (Nat × List Bool) := []
theorem sk_X11_takeWord : ∀ pc bs, tstop st_X11_takeWord pc = some bs → ∃ a, k_X11_takeWord pc = some (aMk bs a) := tstop_ok (fun _ h => absurd h List.not_mem_nil)
set_option maxRecDepth 20000 in
theorem e_X11_takeWord (x1 : Int32) (G : tH) : V_X11_takeWord x1 G = tbI (V_X11_hasWord x1 G) (fun r_2 G_1 => tif (r_2 = 0) (tbV (V_X11_wrong (nI 1) G_1) (fun G_3 => some (none, G_3)))
  (some (none, G_1))) := (tgo 13 rfl sk_X11_takeWord rfl).trans rfl
def st_X11_within : List (Nat × List Bool) := []
theorem sk_X11_within : ∀ pc bs, tstop st_X11_within pc = some bs → ∃ a, k_X11_within pc = some (aMk bs a) := tstop_ok (fun _ h => absurd h List.not_mem_nil)
set_option maxRecDepth 20000 in
theorem e_X11_within (x0 : Int32) (x1 : Int32) (x2 : Int32) (G : tH) : V_X11_within x0 x1 x2 G = tif (x0 < x1) (tif (vp_nar .boolean (nI 0) = (nI 0)) (some (some (vI (nI 0)), G)) none)
  (tif (x2 < x0) (tif (vp_nar .boolean (nI 0) = (nI 0)) (some (some (vI (nI 0)), G)) none)
  (tif (vp_nar .boolean (nI 1) = (nI 1)) (some (some (vI (nI 1)), G)) none)) := (tgo 15 rfl sk_X11_within rfl).trans rfl
def st_X11_standsAsAlways : List (Nat × List Bool) := [(2, [true, true, true])]
theorem sk_X11_standsAsAlways : ∀ pc bs, tstop st_X11_standsAsAlways pc = some bs → ∃ a, k_X11_standsAsAlways pc = some (aMk bs a) := tstop_ok (List.forall_mem_cons.mpr ⟨⟨_, rfl⟩, fun _ h => absurd h List.not_mem_nil⟩)
set_option maxRecDepth 20000 in
theorem e_X11_standsAsAlways (x1 : Int32) (G : tH) : V_X11_standsAsAlways x1 G = V_X11_standsAsAlways_2 x1 (nI 0) G := (tgo 43 rfl sk_X11_standsAsAlways rfl).trans rfl
set_option maxRecDepth 20000 in
theorem e_X11_standsAsAlways_2 (x1 : Int32) (x2 : Int32) (G : tH) : V_X11_standsAsAlways_2 x1 x2 G = tif (x2 < (nI 60)) (tif (tin (x1 + x2) 120) (let G_1 := sA G 1110 0 (upd (gA G 1110 0) (x1 + x2).toNatClampNeg (nI 0))
  V_X11_standsAsAlways_2 x1 (x2 + (nI 1)) G_1) none)
  (tif (tin (x1 + (nI 4)) 120) (let G_2 := sA G 1110 0 (upd (gA G 1110 0) (x1 + (nI 4)).toNatClampNeg (nI 10))
  tif (tin (x1 + (nI 6)) 120) (let G_3 := sA G_2 1110 0 (upd (gA G_2 1110 0) (x1 + (nI 6)).toNatClampNeg (-1 : Int32))
  tif (tin ((x1 + (nI 6)) + (nI 1)) 120) (let G_4 := sA G_3 1110 0 (upd (gA G_3 1110 0) ((x1 + (nI 6)) + (nI 1)).toNatClampNeg (-1 : Int32))
  some (none, G_4)) none) none) none) := (tgo 43 rfl sk_X11_standsAsAlways rfl).trans rfl
def st_X11_takeNumber : List (Nat × List Bool) := [(28, [true, true, true]), (65, [true, false, false]), (70, [true, false, false])]
theorem sk_X11_takeNumber : ∀ pc bs, tstop st_X11_takeNumber pc = some bs → ∃ a, k_X11_takeNumber pc = some (aMk bs a) := tstop_ok (List.forall_mem_cons.mpr ⟨⟨_, rfl⟩, List.forall_mem_cons.mpr ⟨⟨_, rfl⟩, List.forall_mem_cons.mpr ⟨⟨_, rfl⟩, fun _ h => absurd h List.not_mem_nil⟩⟩⟩)
set_option maxRecDepth 20000 in
theorem e_X11_takeNumber (x1 : Int32) (x2 : Int32) (G : tH) : V_X11_takeNumber x1 x2 G = tif ((gI G 1108 (0)) = 0) (tif (tin (gI G 1107 (0)) 1002) (tif ((gA G 1104 0 (gI G 1107 (0)).toNatClampNeg) = (nI 2)) (V_X11_takeNumber_28 x1 x2 G)
  (tbV (V_X11_wrong (nI 1) G) (fun G_1 => V_X11_takeNumber_70 G_1))) none)
  (V_X11_takeNumber_28 x1 x2 G) := (tgo 63 rfl sk_X11_takeNumber rfl).trans rfl
set_option maxRecDepth 20000 in
theorem e_X11_takeNumber_28 (x1 : Int32) (x2 : Int32) (G : tH) : V_X11_takeNumber_28 x1 x2 G = tif ((gI G 1108 (0)) = 0) (tif (tin (gI G 1107 (0)) 1002) (tif ((lg_cmp (gB G 1106 0 (gI G 1107 (0)).toNatClampNeg) x1.toInt64) < 0) (V_X11_takeNumber_65 G)
  (tif (tin (gI G 1107 (0)) 1002) (tif (0 < (lg_cmp (gB G 1106 0 (gI G 1107 (0)).toNatClampNeg) x2.toInt64)) (V_X11_takeNumber_65 G)
  (V_X11_takeNumber_70 G)) none)) none)
  (V_X11_takeNumber_70 G) := (tgo 63 rfl sk_X11_takeNumber rfl).trans rfl
set_option maxRecDepth 20000 in
theorem e_X11_takeNumber_65 (G : tH) : V_X11_takeNumber_65  G = tbV (V_X11_wrong (nI 4) G) (fun G_1 => V_X11_takeNumber_70 G_1) := (tgo 63 rfl sk_X11_takeNumber rfl).trans rfl
set_option maxRecDepth 20000 in
theorem e_X11_takeNumber_70 (G : tH) : V_X11_takeNumber_70  G = tif (0 < (gI G 1108 (0))) (some (some (vI (nI 0)), G))
  (let G_1 := sI G 1107 (0) ((gI G 1107 (0)) + (nI 1))
  tif (tin ((gI G_1 1107 (0)) - (nI 1)) 1002) (some (some (vI ((gB G_1 1106 0 ((gI G_1 1107 (0)) - (nI 1)).toNatClampNeg).toInt32)), G_1)) none) := (tgo 63 rfl sk_X11_takeNumber rfl).trans rfl
def st_X11_takeAfter : List (Nat × List Bool) := []
theorem sk_X11_takeAfter : ∀ pc bs, tstop st_X11_takeAfter pc = some bs → ∃ a, k_X11_takeAfter pc = some (aMk bs a) := tstop_ok (fun _ h => absurd h List.not_mem_nil)
set_option maxRecDepth 20000 in
theorem e_X11_takeAfter (x1 : Int32) (x2 : Int32) (x3 : Int32) (G : tH) : V_X11_takeAfter x1 x2 x3 G = tbV (V_X11_takeWord x1 G) (fun G_1 => tbI (V_X11_takeNumber x2 x3 G_1) (fun r_3 G_2 => some (some (vI r_3), G_2))) := (tgo 13 rfl sk_X11_takeAfter rfl).trans rfl
def st_X11_wordHere : List (Nat × List Bool) := [(5, [true, true, true, true, true])]
theorem sk_X11_wordHere : ∀ pc bs, tstop st_X11_wordHere pc = some bs → ∃ a, k_X11_wordHere pc = some (aMk bs a) := tstop_ok (List.forall_mem_cons.mpr ⟨⟨_, rfl⟩, fun _ h => absurd h List.not_mem_nil⟩)
set_option maxRecDepth 20000 in
theorem e_X11_wordHere (x1 : Int32) (x2 : Int32) (G : tH) : V_X11_wordHere x1 x2 G = V_X11_wordHere_5 x1 x2 (-1 : Int32) (nI 0) G := (tgo 26 rfl sk_X11_wordHere rfl).trans rfl
set_option maxRecDepth 20000 in
theorem e_X11_wordHere_5 (x1 : Int32) (x2 : Int32) (x3 : Int32) (x4 : Int32) (G : tH) : V_X11_wordHere_5 x1 x2 x3 x4 G = tif (x4 < x2) (tbI (V_X11_isWord (x1 + x4) G) (fun r_2 G_1 => tif (r_2 = 0) (V_X11_wordHere_5 x1 x2 x3 (x4 + (nI 1)) G_1)
  (V_X11_wordHere_5 x1 x2 x4 (x4 + (nI 1)) G_1)))
  (some (some (vI x3), G)) := (tgo 26 rfl sk_X11_wordHere rfl).trans rfl
def st_X11_takeOne : List (Nat × List Bool) := [(17, [true, false, false, false]), (34, [true, false, false, true]), (51, [true, false, false, true])]
theorem sk_X11_takeOne : ∀ pc bs, tstop st_X11_takeOne pc = some bs → ∃ a, k_X11_takeOne pc = some (aMk bs a) := tstop_ok (List.forall_mem_cons.mpr ⟨⟨_, rfl⟩, List.forall_mem_cons.mpr ⟨⟨_, rfl⟩, List.forall_mem_cons.mpr ⟨⟨_, rfl⟩, fun _ h => absurd h List.not_mem_nil⟩⟩⟩)
set_option maxRecDepth 20000 in
theorem e_X11_takeOne (x1 : Int32) (x2 : Int32) (G : tH) : V_X11_takeOne x1 x2 G = tif (0 < (gI G 1108 (0))) (V_X11_takeOne_17 (-1 : Int32) G)
  (tbI (V_X11_wordHere x1 x2 G) (fun r_2 G_1 => V_X11_takeOne_17 r_2 G_1)) := (tgo 41 rfl sk_X11_takeOne rfl).trans rfl
set_option maxRecDepth 20000 in
theorem e_X11_takeOne_17 (s0 : Int32) (G : tH) : V_X11_takeOne_17 s0 G = tif ((gI G 1108 (0)) = 0) (tif (s0 < 0) (tbV (V_X11_wrong (nI 1) G) (fun G_1 => V_X11_takeOne_34 s0 G_1))
  (V_X11_takeOne_34 s0 G))
  (V_X11_takeOne_34 s0 G) := (tgo 41 rfl sk_X11_takeOne rfl).trans rfl
set_option maxRecDepth 20000 in
theorem e_X11_takeOne_34 (x3 : Int32) (G : tH) : V_X11_takeOne_34 x3 G = tif (0 < (gI G 1108 (0))) (V_X11_takeOne_51 x3 (nI 0) (gI G 1107 (0)) G)
  (V_X11_takeOne_51 x3 (nI 1) (gI G 1107 (0)) G) := (tgo 41 rfl sk_X11_takeOne rfl).trans rfl
set_option maxRecDepth 20000 in
theorem e_X11_takeOne_51 (x3 : Int32) (s2 : Int32) (s1 : Int32) (G : tH) : V_X11_takeOne_51 x3 s2 s1 G = let G_1 := sI G 1107 (0) (s1 + s2)
  tif (0 < (gI G_1 1108 (0))) (some (some (vI (nI 0)), G_1))
  (some (some (vI x3), G_1)) := (tgo 41 rfl sk_X11_takeOne rfl).trans rfl
def st_X11_isName : List (Nat × List Bool) := []
theorem sk_X11_isName : ∀ pc bs, tstop st_X11_isName pc = some bs → ∃ a, k_X11_isName pc = some (aMk bs a) := tstop_ok (fun _ h => absurd h List.not_mem_nil)
set_option maxRecDepth 20000 in
theorem e_X11_isName (G : tH) : V_X11_isName  G = tif ((gI G 1108 (0)) = 0) (tif (tin (gI G 1107 (0)) 1002) (tif ((gA G 1104 0 (gI G 1107 (0)).toNatClampNeg) = (nI 1)) (tbI (V_X11_wordHere (nI 0) (nI 35) G) (fun r_2 G_1 => tif (r_2 < 0) (tif (vp_nar .boolean (nI 1) = (nI 1)) (some (some (vI (nI 1)), G_1)) none)
  (tif (vp_nar .boolean (nI 0) = (nI 0)) (some (some (vI (nI 0)), G_1)) none)))
  (tif (vp_nar .boolean (nI 0) = (nI 0)) (some (some (vI (nI 0)), G)) none)) none)
  (tif (vp_nar .boolean (nI 0) = (nI 0)) (some (some (vI (nI 0)), G)) none) := (tgo 24 rfl sk_X11_isName rfl).trans rfl
def st_X11_find : List (Nat × List Bool) := [(2, [true, true, true]), (18, [true, true, true]), (40, [true, true, true])]
theorem sk_X11_find : ∀ pc bs, tstop st_X11_find pc = some bs → ∃ a, k_X11_find pc = some (aMk bs a) := tstop_ok (List.forall_mem_cons.mpr ⟨⟨_, rfl⟩, List.forall_mem_cons.mpr ⟨⟨_, rfl⟩, List.forall_mem_cons.mpr ⟨⟨_, rfl⟩, fun _ h => absurd h List.not_mem_nil⟩⟩⟩)
set_option maxRecDepth 20000 in
theorem e_X11_find (x1 : Int32) (G : tH) : V_X11_find x1 G = V_X11_find_2 x1 (nI 0) G := (tgo 50 rfl sk_X11_find rfl).trans rfl
set_option maxRecDepth 20000 in
theorem e_X11_find_2 (x1 : Int32) (x2 : Int32) (G : tH) : V_X11_find_2 x1 x2 G = tif (x1 = 0) (V_X11_find_18 x1 x2 (gI G 1118 (0)) x2 G)
  (V_X11_find_18 x1 x2 (gI G 1119 (0)) x2 G) := (tgo 50 rfl sk_X11_find rfl).trans rfl
set_option maxRecDepth 20000 in
theorem e_X11_find_18 (x1 : Int32) (x2 : Int32) (s1 : Int32) (s0 : Int32) (G : tH) : V_X11_find_18 x1 x2 s1 s0 G = tif (s0 < s1) (tif (x1 = 0) (tif (tin x2 21) (V_X11_find_40 x1 x2 (gB G 1114 0 x2.toNatClampNeg) G) none)
  (tif (tin x2 21) (V_X11_find_40 x1 x2 (gB G 1115 0 x2.toNatClampNeg) G) none))
  (some (some (vI (-1 : Int32)), G)) := (tgo 50 rfl sk_X11_find rfl).trans rfl
set_option maxRecDepth 20000 in
theorem e_X11_find_40 (x1 : Int32) (x2 : Int32) (t0 : Int64) (G : tH) : V_X11_find_40 x1 x2 t0 G = tif (tin (gI G 1107 (0)) 1002) (tif ((lg_cmp t0 (gB G 1106 0 (gI G 1107 (0)).toNatClampNeg)) = 0) (tif (x1 = 0) (tif (tin x2 21) (some (some (vI (gA G 1116 0 x2.toNatClampNeg)), G)) none)
  (tif (tin x2 21) (some (some (vI (gA G 1117 0 x2.toNatClampNeg)), G)) none))
  (V_X11_find_2 x1 (x2 + (nI 1)) G)) none := (tgo 50 rfl sk_X11_find rfl).trans rfl
def st_X11_takeTold : List (Nat × List Bool) := [(19, [true, true, true, false]), (37, [true, false, false, false]), (59, [true, false, false, true]), (76, [true, false, false, true])]
theorem sk_X11_takeTold : ∀ pc bs, tstop st_X11_takeTold pc = some bs → ∃ a, k_X11_takeTold pc = some (aMk bs a) := tstop_ok (List.forall_mem_cons.mpr ⟨⟨_, rfl⟩, List.forall_mem_cons.mpr ⟨⟨_, rfl⟩, List.forall_mem_cons.mpr ⟨⟨_, rfl⟩, List.forall_mem_cons.mpr ⟨⟨_, rfl⟩, fun _ h => absurd h List.not_mem_nil⟩⟩⟩⟩)
set_option maxRecDepth 20000 in
theorem e_X11_takeTold (x1 : Int32) (x2 : Int32) (G : tH) : V_X11_takeTold x1 x2 G = tif ((gI G 1108 (0)) = 0) (tbI (V_X11_isName G) (fun r_2 G_1 => tif (r_2 = 0) (tbV (V_X11_wrong (nI 1) G_1) (fun G_3 => V_X11_takeTold_19 x1 x2 G_3))
  (V_X11_takeTold_19 x1 x2 G_1)))
  (V_X11_takeTold_19 x1 x2 G) := (tgo 54 rfl sk_X11_takeTold rfl).trans rfl
set_option maxRecDepth 20000 in
theorem e_X11_takeTold_19 (x1 : Int32) (x2 : Int32) (G : tH) : V_X11_takeTold_19 x1 x2 G = tif (0 < (gI G 1108 (0))) (V_X11_takeTold_37 (-1 : Int32) G)
  (tbI (V_X11_find x1 G) (fun r_2 G_1 => V_X11_takeTold_37 (r_2 - x2) G_1)) := (tgo 54 rfl sk_X11_takeTold rfl).trans rfl
set_option maxRecDepth 20000 in
theorem e_X11_takeTold_37 (s0 : Int32) (G : tH) : V_X11_takeTold_37 s0 G = tif ((gI G 1108 (0)) = 0) (tbI (V_X11_within s0 (nI 0) (nI 5) G) (fun r_2 G_1 => tif (r_2 = 0) (tbV (V_X11_wrong (nI 2) G_1) (fun G_3 => V_X11_takeTold_59 s0 G_3))
  (V_X11_takeTold_59 s0 G_1)))
  (V_X11_takeTold_59 s0 G) := (tgo 54 rfl sk_X11_takeTold rfl).trans rfl
set_option maxRecDepth 20000 in
theorem e_X11_takeTold_59 (x3 : Int32) (G : tH) : V_X11_takeTold_59 x3 G = tif (0 < (gI G 1108 (0))) (V_X11_takeTold_76 x3 (nI 0) (gI G 1107 (0)) G)
  (V_X11_takeTold_76 x3 (nI 1) (gI G 1107 (0)) G) := (tgo 54 rfl sk_X11_takeTold rfl).trans rfl
set_option maxRecDepth 20000 in
theorem e_X11_takeTold_76 (x3 : Int32) (s2 : Int32) (s1 : Int32) (G : tH) : V_X11_takeTold_76 x3 s2 s1 G = let G_1 := sI G 1107 (0) (s1 + s2)
  tif (0 < (gI G_1 1108 (0))) (some (some (vI (nI 0)), G_1))
  (some (some (vI x3), G_1)) := (tgo 54 rfl sk_X11_takeTold rfl).trans rfl
def st_X11_province : List (Nat × List Bool) := [(30, [true, false]), (62, [true, false]), (76, [true, true]), (105, [true, true]), (153, [true, true])]
theorem sk_X11_province : ∀ pc bs, tstop st_X11_province pc = some bs → ∃ a, k_X11_province pc = some (aMk bs a) := tstop_ok (List.forall_mem_cons.mpr ⟨⟨_, rfl⟩, List.forall_mem_cons.mpr ⟨⟨_, rfl⟩, List.forall_mem_cons.mpr ⟨⟨_, rfl⟩, List.forall_mem_cons.mpr ⟨⟨_, rfl⟩, List.forall_mem_cons.mpr ⟨⟨_, rfl⟩, fun _ h => absurd h List.not_mem_nil⟩⟩⟩⟩⟩)
set_option maxRecDepth 20000 in
theorem e_X11_province (G : tH) : V_X11_province  G = let G_1 := sI G 1100 (0) ((nI 0))
  tbV (V_X11_cutAll G_1) (fun G_2 => let G_3 := sI G_2 1113 (0) ((nI 0))
  let G_4 := sI G_3 1119 (0) ((nI 0))
  let G_5 := sI G_4 1120 (0) ((nI 0))
  tbV (V_X11_standsAsAlways (nI 60) G_5) (fun G_6 => V_X11_province_30 G_6)) := (tgo 120 rfl sk_X11_province rfl).trans rfl
set_option maxRecDepth 20000 in
theorem e_X11_province_30 (G : tH) : V_X11_province_30  G = tif ((gI G 1108 (0)) = 0) (tif (tin (gI G 1107 (0)) 1002) (tif ((gA G 1104 0 (gI G 1107 (0)).toNatClampNeg) = 0) (V_X11_province_62 G)
  (tbV (V_X11_readLine G) (fun G_1 => tbV (V_X11_takeSign (nI 59) G_1) (fun G_2 => V_X11_province_30 G_2)))) none)
  (V_X11_province_62 G) := (tgo 120 rfl sk_X11_province rfl).trans rfl
set_option maxRecDepth 20000 in
theorem e_X11_province_62 (G : tH) : V_X11_province_62  G = tif (0 < (gI G 1108 (0))) (some (some (vI (gI G 1108 (0))), G))
  (V_X11_province_76 (nI 0) G) := (tgo 120 rfl sk_X11_province rfl).trans rfl
set_option maxRecDepth 20000 in
theorem e_X11_province_76 (x1 : Int32) (G : tH) : V_X11_province_76 x1 G = tif (x1 < (nI 60)) (tif (tin ((nI 60) + x1) 120) (tif (tin x1 120) (let G_1 := sA G 1110 0 (upd (gA G 1110 0) x1.toNatClampNeg (gA G 1110 0 ((nI 60) + x1).toNatClampNeg))
  V_X11_province_76 (x1 + (nI 1)) G_1) none) none)
  (V_X11_province_105 (nI 0) G) := (tgo 120 rfl sk_X11_province rfl).trans rfl
set_option maxRecDepth 20000 in
theorem e_X11_province_105 (x1 : Int32) (G : tH) : V_X11_province_105 x1 G = tif (x1 < (gI G 1113 (0))) (tif (tin ((nI 1100) + x1) 2200) (tif (tin x1 2200) (let G_1 := sA G 1111 0 (upd (gA G 1111 0) x1.toNatClampNeg (gA G 1111 0 ((nI 1100) + x1).toNatClampNeg))
  tif (tin ((nI 1100) + x1) 2200) (tif (tin x1 2200) (let G_2 := sA G_1 1112 0 (upd (gA G_1 1112 0) x1.toNatClampNeg (gA G_1 1112 0 ((nI 1100) + x1).toNatClampNeg))
  V_X11_province_105 (x1 + (nI 1)) G_2) none) none) none) none)
  (V_X11_province_153 (nI 0) G) := (tgo 120 rfl sk_X11_province rfl).trans rfl
set_option maxRecDepth 20000 in
theorem e_X11_province_153 (x1 : Int32) (G : tH) : V_X11_province_153 x1 G = tif (x1 < (gI G 1119 (0))) (tif (tin x1 21) (tif (tin x1 21) (let G_1 := sB G 1114 0 (vp_updL (gB G 1114 0) x1.toNatClampNeg (gB G 1115 0 x1.toNatClampNeg))
  tif (tin x1 21) (tif (tin x1 21) (let G_2 := sA G_1 1116 0 (upd (gA G_1 1116 0) x1.toNatClampNeg (gA G_1 1117 0 x1.toNatClampNeg))
  V_X11_province_153 (x1 + (nI 1)) G_2) none) none) none) none)
  (let G_3 := sI G 1118 (0) (gI G 1119 (0))
  tbV (V_X11_begins G_3) (fun G_4 => some (some (vI (nI 0)), G_4))) := (tgo 120 rfl sk_X11_province rfl).trans rfl
def st_X11_readLine : List (Nat × List Bool) := []
theorem sk_X11_readLine : ∀ pc bs, tstop st_X11_readLine pc = some bs → ∃ a, k_X11_readLine pc = some (aMk bs a) := tstop_ok (fun _ h => absurd h List.not_mem_nil)
set_option maxRecDepth 20000 in
theorem e_X11_readLine (G : tH) : V_X11_readLine  G = tbI (V_X11_isWord (nI 0) G) (fun r_2 G_1 => tif (r_2 = 0) (tbI (V_X11_isWord (nI 2) G_1) (fun r_4 G_3 => tif (r_4 = 0) (tbI (V_X11_isWord (nI 4) G_3) (fun r_6 G_5 => tif (r_6 = 0) (tbI (V_X11_isWord (nI 7) G_5) (fun r_8 G_7 => tif (r_8 = 0) (tbV (V_X11_readOnce G_7) (fun G_9 => some (none, G_9)))
  (tbI (V_X11_readName (nI 3) (nI 5) (nI 60) G_7) (fun r_11 G_10 => tif (r_11 = 0) (some (none, G_10))
  (tif (tin (nI 63) 120) (tbV (V_X11_takeWord (nI 8) G_10) (fun G_12 => tbI (V_X11_takeTold (nI 1) (nI 20) G_12) (fun r_14 G_13 => tif (tin ((nI 100) + ((nI 2) * (gA G_10 1110 0 (nI 63).toNatClampNeg))) 120) (let G_15 := sA G_13 1110 0 (upd (gA G_13 1110 0) ((nI 100) + ((nI 2) * (gA G_10 1110 0 (nI 63).toNatClampNeg))).toNatClampNeg r_14)
  tbI (V_X11_takeAfter (nI 9) (nI 0) (nI 999) G_15) (fun r_17 G_16 => tif (tin (((nI 100) + ((nI 2) * (gA G_10 1110 0 (nI 63).toNatClampNeg))) + (nI 1)) 120) (let G_18 := sA G_16 1110 0 (upd (gA G_16 1110 0) (((nI 100) + ((nI 2) * (gA G_10 1110 0 (nI 63).toNatClampNeg))) + (nI 1)).toNatClampNeg r_17)
  tif (tin (nI 63) 120) (tif (tin (nI 63) 120) (let G_19 := sA G_18 1110 0 (upd (gA G_18 1110 0) (nI 63).toNatClampNeg ((gA G_18 1110 0 (nI 63).toNatClampNeg) + (nI 1)))
  some (none, G_19)) none) none) none)) none))) none)))))
  (tbI (V_X11_readName (nI 2) (nI 5) (nI 40) G_5) (fun r_21 G_20 => tif (r_21 = 0) (some (none, G_20))
  (tif (tin (nI 62) 120) (tbI (V_X11_takeAfter (nI 5) (nI 0) (nI 300) G_20) (fun r_23 G_22 => tif (tin ((nI 90) + ((nI 2) * (gA G_20 1110 0 (nI 62).toNatClampNeg))) 120) (let G_24 := sA G_22 1110 0 (upd (gA G_22 1110 0) ((nI 90) + ((nI 2) * (gA G_20 1110 0 (nI 62).toNatClampNeg))).toNatClampNeg r_23)
  tbI (V_X11_takeAfter (nI 6) (nI 1) (nI 9) G_24) (fun r_26 G_25 => tif (tin (((nI 90) + ((nI 2) * (gA G_20 1110 0 (nI 62).toNatClampNeg))) + (nI 1)) 120) (let G_27 := sA G_25 1110 0 (upd (gA G_25 1110 0) (((nI 90) + ((nI 2) * (gA G_20 1110 0 (nI 62).toNatClampNeg))) + (nI 1)).toNatClampNeg r_26)
  tif (tin (nI 62) 120) (tif (tin (nI 62) 120) (let G_28 := sA G_27 1110 0 (upd (gA G_27 1110 0) (nI 62).toNatClampNeg ((gA G_27 1110 0 (nI 62).toNatClampNeg) + (nI 1)))
  some (none, G_28)) none) none) none)) none)) none)))))
  (tbI (V_X11_readName (nI 1) (nI 5) (nI 20) G_3) (fun r_30 G_29 => tif (r_30 = 0) (some (none, G_29))
  (tif (tin (nI 61) 120) (tbI (V_X11_takeOne (nI 28) (nI 4) G_29) (fun r_32 G_31 => tif (tin ((nI 80) + ((nI 2) * (gA G_29 1110 0 (nI 61).toNatClampNeg))) 120) (let G_33 := sA G_31 1110 0 (upd (gA G_31 1110 0) ((nI 80) + ((nI 2) * (gA G_29 1110 0 (nI 61).toNatClampNeg))).toNatClampNeg r_32)
  tbI (V_X11_takeAfter (nI 3) (nI 0) (nI 9999) G_33) (fun r_35 G_34 => tif (tin (((nI 80) + ((nI 2) * (gA G_29 1110 0 (nI 61).toNatClampNeg))) + (nI 1)) 120) (let G_36 := sA G_34 1110 0 (upd (gA G_34 1110 0) (((nI 80) + ((nI 2) * (gA G_29 1110 0 (nI 61).toNatClampNeg))) + (nI 1)).toNatClampNeg r_35)
  tif (tin (nI 61) 120) (tif (tin (nI 61) 120) (let G_37 := sA G_36 1110 0 (upd (gA G_36 1110 0) (nI 61).toNatClampNeg ((gA G_36 1110 0 (nI 61).toNatClampNeg) + (nI 1)))
  some (none, G_37)) none) none) none)) none)) none)))))
  (tbI (V_X11_readName (nI 0) (nI 6) (nI 0) G_1) (fun r_39 G_38 => tif (r_39 = 0) (some (none, G_38))
  (tif (tin (nI 60) 120) (tbI (V_X11_takeOne (nI 24) (nI 4) G_38) (fun r_41 G_40 => tif (tin ((nI 68) + ((nI 2) * (gA G_38 1110 0 (nI 60).toNatClampNeg))) 120) (let G_42 := sA G_40 1110 0 (upd (gA G_40 1110 0) ((nI 68) + ((nI 2) * (gA G_38 1110 0 (nI 60).toNatClampNeg))).toNatClampNeg r_41)
  tbI (V_X11_takeAfter (nI 1) (nI 0) (nI 999) G_42) (fun r_44 G_43 => tif (tin (((nI 68) + ((nI 2) * (gA G_38 1110 0 (nI 60).toNatClampNeg))) + (nI 1)) 120) (let G_45 := sA G_43 1110 0 (upd (gA G_43 1110 0) (((nI 68) + ((nI 2) * (gA G_38 1110 0 (nI 60).toNatClampNeg))) + (nI 1)).toNatClampNeg r_44)
  tif (tin (nI 60) 120) (tif (tin (nI 60) 120) (let G_46 := sA G_45 1110 0 (upd (gA G_45 1110 0) (nI 60).toNatClampNeg ((gA G_45 1110 0 (nI 60).toNatClampNeg) + (nI 1)))
  some (none, G_46)) none) none) none)) none)) none)))) := (tgo 200 rfl sk_X11_readLine rfl).trans rfl
