/-! the equations: X11d -/
def st_X11_mayBribe : List (Nat × List Bool) := []
theorem sk_X11_mayBribe : ∀ pc bs, tstop st_X11_mayBribe pc = some bs → ∃ a, k_X11_mayBribe pc = some (aMk bs a) := tstop_ok (fun _ h => absurd h List.not_mem_nil)
theorem e_X11_mayBribe (x1 : Int32) (x2 : Int32) (G : tH) : V_X11_mayBribe x1 x2 G = tbI (V_X11_isHeld x1 G) (fun r_2 G_1 => if r_2 = 0 then some (some (vI (0 : Int32)), G_1)
  else if tin ((x1 + (51 : Int32)) + x2) 1403 then (if (gA G_1 1124 0 ((x1 + (51 : Int32)) + x2).toNatClampNeg) = 0 then (if tin (x1 + (0 : Int32)) 1403 then (if tin ((x1 + (41 : Int32)) + (gA G_1 1124 0 (x1 + (0 : Int32)).toNatClampNeg)) 1403 then (if tin (((40 : Int32) + ((2 : Int32) * x2)) + (1 : Int32)) 120 then (if (gA G_1 1124 0 ((x1 + (41 : Int32)) + (gA G_1 1124 0 (x1 + (0 : Int32)).toNatClampNeg)).toNatClampNeg) < (gA G_1 1110 0 (((40 : Int32) + ((2 : Int32) * x2)) + (1 : Int32)).toNatClampNeg) then some (some (vI (0 : Int32)), G_1)
  else some (some (vI (1 : Int32)), G_1)) else none) else none) else none)
  else some (some (vI (0 : Int32)), G_1)) else none) := (tgo 46 rfl sk_X11_mayBribe rfl).trans rfl
def st_X11_bribes : List (Nat × List Bool) := []
theorem sk_X11_bribes : ∀ pc bs, tstop st_X11_bribes pc = some bs → ∃ a, k_X11_bribes pc = some (aMk bs a) := tstop_ok (fun _ h => absurd h List.not_mem_nil)
theorem e_X11_bribes (x1 : Int32) (x2 : Int32) (G : tH) : V_X11_bribes x1 x2 G = if tin (x1 + (0 : Int32)) 1403 then (if tin ((x1 + (41 : Int32)) + (gA G 1124 0 (x1 + (0 : Int32)).toNatClampNeg)) 1403 then (if tin (((40 : Int32) + ((2 : Int32) * x2)) + (1 : Int32)) 120 then (if tin ((x1 + (41 : Int32)) + (gA G 1124 0 (x1 + (0 : Int32)).toNatClampNeg)) 1403 then (let G_1 := sA G 1124 0 (upd (gA G 1124 0) ((x1 + (41 : Int32)) + (gA G 1124 0 (x1 + (0 : Int32)).toNatClampNeg)).toNatClampNeg ((gA G 1124 0 ((x1 + (41 : Int32)) + (gA G 1124 0 (x1 + (0 : Int32)).toNatClampNeg)).toNatClampNeg) - (gA G 1110 0 (((40 : Int32) + ((2 : Int32) * x2)) + (1 : Int32)).toNatClampNeg)))
  if tin ((x1 + (51 : Int32)) + x2) 1403 then (let G_2 := sA G_1 1124 0 (upd (gA G_1 1124 0) ((x1 + (51 : Int32)) + x2).toNatClampNeg (1 : Int32))
  some (none, G_2)) else none) else none) else none) else none) else none := (tgo 41 rfl sk_X11_bribes rfl).trans rfl
def st_X11_letsGo : List (Nat × List Bool) := [(33, [true, true, true, false])]
theorem sk_X11_letsGo : ∀ pc bs, tstop st_X11_letsGo pc = some bs → ∃ a, k_X11_letsGo pc = some (aMk bs a) := tstop_ok (List.forall_mem_cons.mpr ⟨⟨_, rfl⟩, fun _ h => absurd h List.not_mem_nil⟩)
theorem e_X11_letsGo (x1 : Int32) (x2 : Int32) (G : tH) : V_X11_letsGo x1 x2 G = if tin (x1 + (0 : Int32)) 1403 then (tbI (V_X11_sortOf (gA G 1124 0 (x1 + (0 : Int32)).toNatClampNeg) G) (fun r_2 G_1 => if r_2 = (3 : Int32) then V_X11_letsGo_33 x1 x2 ((2 : Int32) * (gA G_1 1110 0 (5 : Int32).toNatClampNeg)) G_1
  else V_X11_letsGo_33 x1 x2 (gA G_1 1110 0 (5 : Int32).toNatClampNeg) G_1)) else none := (tgo 64 rfl sk_X11_letsGo rfl).trans rfl
theorem e_X11_letsGo_33 (x1 : Int32) (x2 : Int32) (s0 : Int32) (G : tH) : V_X11_letsGo_33 x1 x2 s0 G = if tin ((40 : Int32) + ((2 : Int32) * x2)) 120 then (if tin (x1 + (0 : Int32)) 1403 then (if (gA G 1110 0 ((40 : Int32) + ((2 : Int32) * x2)).toNatClampNeg) = (gA G 1124 0 (x1 + (0 : Int32)).toNatClampNeg) then some (some (vI (1 : Int32)), G)
  else if tin ((x1 + (51 : Int32)) + x2) 1403 then (if (gA G 1124 0 ((x1 + (51 : Int32)) + x2).toNatClampNeg) = (1 : Int32) then some (some (vI (1 : Int32)), G)
  else if tin (x1 + (2 : Int32)) 1403 then (if s0 < (gA G 1124 0 (x1 + (2 : Int32)).toNatClampNeg) then some (some (vI (0 : Int32)), G)
  else some (some (vI (1 : Int32)), G)) else none) else none) else none) else none := (tgo 64 rfl sk_X11_letsGo rfl).trans rfl
def st_X11_isFree : List (Nat × List Bool) := [(5, [true, true, true, true, true])]
theorem sk_X11_isFree : ∀ pc bs, tstop st_X11_isFree pc = some bs → ∃ a, k_X11_isFree pc = some (aMk bs a) := tstop_ok (List.forall_mem_cons.mpr ⟨⟨_, rfl⟩, fun _ h => absurd h List.not_mem_nil⟩)
theorem e_X11_isFree (x1 : Int32) (x2 : Int32) (G : tH) : V_X11_isFree x1 x2 G = V_X11_isFree_5 x1 x2 (0 : Int32) (0 : Int32) G := (tgo 39 rfl sk_X11_isFree rfl).trans rfl
theorem e_X11_isFree_5 (x1 : Int32) (x2 : Int32) (x3 : Int32) (x4 : Int32) (G : tH) : V_X11_isFree_5 x1 x2 x3 x4 G = tbI (V_X11_jurors G) (fun r_2 G_1 => if x4 < r_2 then (tbI (V_X11_letsGo x1 x4 G_1) (fun r_4 G_3 => if r_4 = 0 then (if ((x2 >>> (x4 &&& 31)) &&& (1 : Int32)) = (1 : Int32) then V_X11_isFree_5 x1 x2 (x3 + (1 : Int32)) (x4 + (1 : Int32)) G_3
  else V_X11_isFree_5 x1 x2 (x3 + (-1 : Int32)) (x4 + (1 : Int32)) G_3)
  else V_X11_isFree_5 x1 x2 (x3 + (1 : Int32)) (x4 + (1 : Int32)) G_3))
  else if x3 < 0 then some (some (vI (0 : Int32)), G_1)
  else some (some (vI (1 : Int32)), G_1)) := (tgo 39 rfl sk_X11_isFree rfl).trans rfl
def st_X11_sues : List (Nat × List Bool) := [(64, [true, true, true, true, false]), (115, [true, true, true, true, false])]
theorem sk_X11_sues : ∀ pc bs, tstop st_X11_sues pc = some bs → ∃ a, k_X11_sues pc = some (aMk bs a) := tstop_ok (List.forall_mem_cons.mpr ⟨⟨_, rfl⟩, List.forall_mem_cons.mpr ⟨⟨_, rfl⟩, fun _ h => absurd h List.not_mem_nil⟩⟩)
theorem e_X11_sues (x1 : Int32) (G : tH) : V_X11_sues x1 G = tbI (V_X11_isFree x1 (0 : Int32) G) (fun r_2 G_1 => if r_2 = 0 then (if tin (x1 + (0 : Int32)) 1403 then (if tin (x1 + (2 : Int32)) 1403 then (if tin ((x1 + (41 : Int32)) + (gA G_1 1124 0 (x1 + (0 : Int32)).toNatClampNeg)) 1403 then (if (gA G_1 1124 0 ((x1 + (41 : Int32)) + (gA G_1 1124 0 (x1 + (0 : Int32)).toNatClampNeg)).toNatClampNeg) < ((2 : Int32) * (gA G_1 1124 0 (x1 + (2 : Int32)).toNatClampNeg)) then (if tin ((x1 + (41 : Int32)) + (gA G_1 1124 0 (x1 + (0 : Int32)).toNatClampNeg)) 1403 then V_X11_sues_64 x1 r_2 (gA G_1 1124 0 (x1 + (0 : Int32)).toNatClampNeg) (gA G_1 1124 0 ((x1 + (41 : Int32)) + (gA G_1 1124 0 (x1 + (0 : Int32)).toNatClampNeg)).toNatClampNeg) G_1 else none)
  else V_X11_sues_64 x1 r_2 (gA G_1 1124 0 (x1 + (0 : Int32)).toNatClampNeg) ((2 : Int32) * (gA G_1 1124 0 (x1 + (2 : Int32)).toNatClampNeg)) G_1) else none) else none) else none)
  else if tin (x1 + (2 : Int32)) 1403 then (let G_3 := sA G_1 1124 0 (upd (gA G_1 1124 0) (x1 + (2 : Int32)).toNatClampNeg (0 : Int32))
  V_X11_sues_115 x1 r_2 (0 : Int32) G_3) else none) := (tgo 103 rfl sk_X11_sues rfl).trans rfl
theorem e_X11_sues_64 (x1 : Int32) (x2 : Int32) (x3 : Int32) (s0 : Int32) (G : tH) : V_X11_sues_64 x1 x2 x3 s0 G = if tin ((x1 + (41 : Int32)) + x3) 1403 then (if tin ((x1 + (41 : Int32)) + x3) 1403 then (let G_1 := sA G 1124 0 (upd (gA G 1124 0) ((x1 + (41 : Int32)) + x3).toNatClampNeg ((gA G 1124 0 ((x1 + (41 : Int32)) + x3).toNatClampNeg) - s0))
  if tin (x1 + (3 : Int32)) 1403 then (if tin (x1 + (3 : Int32)) 1403 then (let G_2 := sA G_1 1124 0 (upd (gA G_1 1124 0) (x1 + (3 : Int32)).toNatClampNeg ((gA G_1 1124 0 (x1 + (3 : Int32)).toNatClampNeg) + s0))
  if tin (x1 + (0 : Int32)) 1403 then (let G_3 := sA G_2 1124 0 (upd (gA G_2 1124 0) (x1 + (0 : Int32)).toNatClampNeg (-1 : Int32))
  if tin (x1 + (2 : Int32)) 1403 then (let G_4 := sA G_3 1124 0 (upd (gA G_3 1124 0) (x1 + (2 : Int32)).toNatClampNeg (0 : Int32))
  V_X11_sues_115 x1 x2 (0 : Int32) G_4) else none) else none) else none) else none) else none) else none := (tgo 103 rfl sk_X11_sues rfl).trans rfl
theorem e_X11_sues_115 (x1 : Int32) (x2 : Int32) (x3 : Int32) (G : tH) : V_X11_sues_115 x1 x2 x3 G = if x3 < (5 : Int32) then (if tin ((x1 + (51 : Int32)) + x3) 1403 then (let G_1 := sA G 1124 0 (upd (gA G 1124 0) ((x1 + (51 : Int32)) + x3).toNatClampNeg (0 : Int32))
  V_X11_sues_115 x1 x2 (x3 + (1 : Int32)) G_1) else none)
  else if vp_nar .boolean x2 = x2 then some (some (vI x2), G) else none := (tgo 103 rfl sk_X11_sues rfl).trans rfl
def st_X11_mayClose : List (Nat × List Bool) := []
theorem sk_X11_mayClose : ∀ pc bs, tstop st_X11_mayClose pc = some bs → ∃ a, k_X11_mayClose pc = some (aMk bs a) := tstop_ok (fun _ h => absurd h List.not_mem_nil)
theorem e_X11_mayClose (x1 : Int32) (G : tH) : V_X11_mayClose x1 G = tbI (V_X11_isHeld x1 G) (fun r_2 G_1 => if r_2 = 0 then some (some (vI (0 : Int32)), G_1)
  else if tin (x1 + (1 : Int32)) 1403 then (if (gA G_1 1124 0 (x1 + (1 : Int32)).toNatClampNeg) = (5 : Int32) then some (some (vI (1 : Int32)), G_1)
  else some (some (vI (0 : Int32)), G_1)) else none) := (tgo 21 rfl sk_X11_mayClose rfl).trans rfl
def st_X11_town : List (Nat × List Bool) := []
theorem sk_X11_town : ∀ pc bs, tstop st_X11_town pc = some bs → ∃ a, k_X11_town pc = some (aMk bs a) := tstop_ok (fun _ h => absurd h List.not_mem_nil)
theorem e_X11_town (x1 : Int32) (x2 : Int32) (G : tH) : V_X11_town x1 x2 G = let G_1 := sI G 1100 (0) ((0 : Int32))
  tbI (V_X11_isTown x1 G_1) (fun r_3 G_2 => if r_3 = 0 then some (some (vI (-1 : Int32)), G_2)
  else tbI (V_X11_within x2 (0 : Int32) (6 : Int32) G_2) (fun r_5 G_4 => if r_5 = 0 then some (some (vI (-1 : Int32)), G_4)
  else if x2 = (0 : Int32) then tbI (V_X11_townOf x1 (0 : Int32) G_4) (fun r_7 G_6 => some (some (vI r_7), G_6))
  else if x2 = (1 : Int32) then (if tin ((5 : Int32) + x1) 1403 then some (some (vI (gA G_4 1124 0 ((5 : Int32) + x1).toNatClampNeg)), G_4) else none)
  else if x2 = (2 : Int32) then (if tin ((11 : Int32) + x1) 1403 then some (some (vI (gA G_4 1124 0 ((11 : Int32) + x1).toNatClampNeg)), G_4) else none)
  else if x2 = (3 : Int32) then (if tin ((29 : Int32) + x1) 1403 then some (some (vI (gA G_4 1124 0 ((29 : Int32) + x1).toNatClampNeg)), G_4) else none)
  else if x2 = (4 : Int32) then (if tin ((23 : Int32) + x1) 1403 then some (some (vI (gA G_4 1124 0 ((23 : Int32) + x1).toNatClampNeg)), G_4) else none)
  else if x2 = (5 : Int32) then (if tin ((35 : Int32) + x1) 1403 then some (some (vI (gA G_4 1124 0 ((35 : Int32) + x1).toNatClampNeg)), G_4) else none)
  else if tin ((17 : Int32) + x1) 1403 then tbI (V_X11_titheOf (gA G_4 1124 0 ((17 : Int32) + x1).toNatClampNeg) G_4) (fun r_9 G_8 => some (some (vI r_9), G_8)) else none)) := (tgo 70 rfl sk_X11_town rfl).trans rfl
def st_X11_company : List (Nat × List Bool) := []
theorem sk_X11_company : ∀ pc bs, tstop st_X11_company pc = some bs → ∃ a, k_X11_company pc = some (aMk bs a) := tstop_ok (fun _ h => absurd h List.not_mem_nil)
theorem e_X11_company (x1 : Int32) (x2 : Int32) (G : tH) : V_X11_company x1 x2 G = let G_1 := sI G 1100 (0) ((0 : Int32))
  tbI (V_X11_isCompany x1 G_1) (fun r_3 G_2 => if r_3 = 0 then some (some (vI (-1 : Int32)), G_2)
  else tbI (V_X11_within x2 (0 : Int32) (2 : Int32) G_2) (fun r_5 G_4 => if r_5 = 0 then some (some (vI (-1 : Int32)), G_4)
  else if x2 = 0 then tbI (V_X11_sortOf x1 G_4) (fun r_7 G_6 => some (some (vI r_7), G_6))
  else if x2 = (1 : Int32) then (if tin ((41 : Int32) + x1) 1403 then some (some (vI (gA G_4 1124 0 ((41 : Int32) + x1).toNatClampNeg)), G_4) else none)
  else if tin ((46 : Int32) + x1) 1403 then some (some (vI (gA G_4 1124 0 ((46 : Int32) + x1).toNatClampNeg)), G_4) else none)) := (tgo 42 rfl sk_X11_company rfl).trans rfl
def st_X11_juror : List (Nat × List Bool) := []
theorem sk_X11_juror : ∀ pc bs, tstop st_X11_juror pc = some bs → ∃ a, k_X11_juror pc = some (aMk bs a) := tstop_ok (fun _ h => absurd h List.not_mem_nil)
theorem e_X11_juror (x1 : Int32) (x2 : Int32) (G : tH) : V_X11_juror x1 x2 G = let G_1 := sI G 1100 (0) ((0 : Int32))
  tbI (V_X11_isJuror x1 G_1) (fun r_3 G_2 => if r_3 = 0 then some (some (vI (-2 : Int32)), G_2)
  else tbI (V_X11_within x2 (0 : Int32) (3 : Int32) G_2) (fun r_5 G_4 => if r_5 = 0 then some (some (vI (-2 : Int32)), G_4)
  else if x2 < (2 : Int32) then (if tin (((40 : Int32) + ((2 : Int32) * x1)) + x2) 120 then some (some (vI (gA G_4 1110 0 (((40 : Int32) + ((2 : Int32) * x1)) + x2).toNatClampNeg)), G_4) else none)
  else if x2 = (2 : Int32) then (if tin ((51 : Int32) + x1) 1403 then some (some (vI (gA G_4 1124 0 ((51 : Int32) + x1).toNatClampNeg)), G_4) else none)
  else tbI (V_X11_isHeld (0 : Int32) G_4) (fun r_7 G_6 => if r_7 = 0 then some (some (vI (-1 : Int32)), G_6)
  else tbI (V_X11_letsGo (0 : Int32) x1 G_6) (fun r_9 G_8 => if r_9 = 0 then some (some (vI (0 : Int32)), G_8)
  else some (some (vI (1 : Int32)), G_8))))) := (tgo 58 rfl sk_X11_juror rfl).trans rfl
def st_X11_holder : List (Nat × List Bool) := []
theorem sk_X11_holder : ∀ pc bs, tstop st_X11_holder pc = some bs → ∃ a, k_X11_holder pc = some (aMk bs a) := tstop_ok (fun _ h => absurd h List.not_mem_nil)
theorem e_X11_holder (G : tH) : V_X11_holder  G = let G_1 := sI G 1100 (0) ((0 : Int32))
  some (some (vI (gA G_1 1124 0 (0 : Int32).toNatClampNeg)), G_1) := (tgo 13 rfl sk_X11_holder rfl).trans rfl
def st_X11_bid : List (Nat × List Bool) := []
theorem sk_X11_bid : ∀ pc bs, tstop st_X11_bid pc = some bs → ∃ a, k_X11_bid pc = some (aMk bs a) := tstop_ok (fun _ h => absurd h List.not_mem_nil)
theorem e_X11_bid (x1 : Int32) (x2 : Int32) (G : tH) : V_X11_bid x1 x2 G = let G_1 := sI G 1100 (0) ((0 : Int32))
  tbI (V_X11_isCompany x1 G_1) (fun r_3 G_2 => if r_3 = 0 then some (some (vI (0 : Int32)), G_2)
  else tbI (V_X11_within x2 (0 : Int32) (9999 : Int32) G_2) (fun r_5 G_4 => if r_5 = 0 then some (some (vI (0 : Int32)), G_4)
  else tbI (V_X11_mayBid (0 : Int32) x1 x2 G_4) (fun r_7 G_6 => if r_7 = 0 then some (some (vI (0 : Int32)), G_6)
  else tbV (V_X11_keeps G_6) (fun G_8 => if tin ((46 : Int32) + x1) 1403 then (let G_9 := sA G_8 1124 0 (upd (gA G_8 1124 0) ((46 : Int32) + x1).toNatClampNeg x2)
  some (some (vI (1 : Int32)), G_9)) else none)))) := (tgo 36 rfl sk_X11_bid rfl).trans rfl
def st_X11_award : List (Nat × List Bool) := []
theorem sk_X11_award : ∀ pc bs, tstop st_X11_award pc = some bs → ∃ a, k_X11_award pc = some (aMk bs a) := tstop_ok (fun _ h => absurd h List.not_mem_nil)
theorem e_X11_award (G : tH) : V_X11_award  G = let G_1 := sI G 1100 (0) ((0 : Int32))
  tbI (V_X11_mayAward (0 : Int32) G_1) (fun r_3 G_2 => if r_3 = 0 then some (some (vI (-2 : Int32)), G_2)
  else tbV (V_X11_keeps G_2) (fun G_4 => tbI (V_X11_awards (0 : Int32) G_4) (fun r_6 G_5 => some (some (vI r_6), G_5)))) := (tgo 20 rfl sk_X11_award rfl).trans rfl
def st_X11_year : List (Nat × List Bool) := []
theorem sk_X11_year : ∀ pc bs, tstop st_X11_year pc = some bs → ∃ a, k_X11_year pc = some (aMk bs a) := tstop_ok (fun _ h => absurd h List.not_mem_nil)
theorem e_X11_year (x1 : Int32) (G : tH) : V_X11_year x1 G = let G_1 := sI G 1100 (0) ((0 : Int32))
  tbI (V_X11_isHarvest x1 G_1) (fun r_3 G_2 => if r_3 = 0 then some (some (vI (-1 : Int32)), G_2)
  else tbI (V_X11_mayYear (0 : Int32) G_2) (fun r_5 G_4 => if r_5 = 0 then some (some (vI (-1 : Int32)), G_4)
  else tbV (V_X11_keeps G_4) (fun G_6 => tbI (V_X11_yearBy (0 : Int32) x1 G_6) (fun r_8 G_7 => some (some (vI r_8), G_7))))) := (tgo 25 rfl sk_X11_year rfl).trans rfl
def st_X11_take : List (Nat × List Bool) := []
theorem sk_X11_take : ∀ pc bs, tstop st_X11_take pc = some bs → ∃ a, k_X11_take pc = some (aMk bs a) := tstop_ok (fun _ h => absurd h List.not_mem_nil)
theorem e_X11_take (x1 : Int32) (x2 : Int32) (G : tH) : V_X11_take x1 x2 G = let G_1 := sI G 1100 (0) ((0 : Int32))
  tbI (V_X11_isTown x1 G_1) (fun r_3 G_2 => if r_3 = 0 then some (some (vI (-1 : Int32)), G_2)
  else tbI (V_X11_within x2 (1 : Int32) (9999 : Int32) G_2) (fun r_5 G_4 => if r_5 = 0 then some (some (vI (-1 : Int32)), G_4)
  else tbI (V_X11_mayTake (0 : Int32) x1 x2 G_4) (fun r_7 G_6 => if r_7 = 0 then some (some (vI (-1 : Int32)), G_6)
  else tbV (V_X11_keeps G_6) (fun G_8 => tbI (V_X11_takes (0 : Int32) x1 x2 G_8) (fun r_10 G_9 => some (some (vI r_10), G_9)))))) := (tgo 33 rfl sk_X11_take rfl).trans rfl
def st_X11_lend : List (Nat × List Bool) := []
theorem sk_X11_lend : ∀ pc bs, tstop st_X11_lend pc = some bs → ∃ a, k_X11_lend pc = some (aMk bs a) := tstop_ok (fun _ h => absurd h List.not_mem_nil)
theorem e_X11_lend (x1 : Int32) (x2 : Int32) (G : tH) : V_X11_lend x1 x2 G = let G_1 := sI G 1100 (0) ((0 : Int32))
  tbI (V_X11_isTown x1 G_1) (fun r_3 G_2 => if r_3 = 0 then some (some (vI (-1 : Int32)), G_2)
  else tbI (V_X11_within x2 (1 : Int32) (9999 : Int32) G_2) (fun r_5 G_4 => if r_5 = 0 then some (some (vI (-1 : Int32)), G_4)
  else tbI (V_X11_mayLend (0 : Int32) x2 G_4) (fun r_7 G_6 => if r_7 = 0 then some (some (vI (-1 : Int32)), G_6)
  else tbV (V_X11_keeps G_6) (fun G_8 => tbI (V_X11_lends (0 : Int32) x1 x2 G_8) (fun r_10 G_9 => some (some (vI r_10), G_9)))))) := (tgo 32 rfl sk_X11_lend rfl).trans rfl
def st_X11_call : List (Nat × List Bool) := []
theorem sk_X11_call : ∀ pc bs, tstop st_X11_call pc = some bs → ∃ a, k_X11_call pc = some (aMk bs a) := tstop_ok (fun _ h => absurd h List.not_mem_nil)
theorem e_X11_call (x1 : Int32) (x2 : Int32) (G : tH) : V_X11_call x1 x2 G = let G_1 := sI G 1100 (0) ((0 : Int32))
  tbI (V_X11_isTown x1 G_1) (fun r_3 G_2 => if r_3 = 0 then some (some (vI (-1 : Int32)), G_2)
  else tbI (V_X11_within x2 (1 : Int32) (9999 : Int32) G_2) (fun r_5 G_4 => if r_5 = 0 then some (some (vI (-1 : Int32)), G_4)
  else tbI (V_X11_mayCall (0 : Int32) x1 x2 G_4) (fun r_7 G_6 => if r_7 = 0 then some (some (vI (-1 : Int32)), G_6)
  else tbV (V_X11_keeps G_6) (fun G_8 => tbI (V_X11_calls (0 : Int32) x1 x2 G_8) (fun r_10 G_9 => some (some (vI r_10), G_9)))))) := (tgo 33 rfl sk_X11_call rfl).trans rfl
def st_X11_spare : List (Nat × List Bool) := []
theorem sk_X11_spare : ∀ pc bs, tstop st_X11_spare pc = some bs → ∃ a, k_X11_spare pc = some (aMk bs a) := tstop_ok (fun _ h => absurd h List.not_mem_nil)
theorem e_X11_spare (x1 : Int32) (G : tH) : V_X11_spare x1 G = let G_1 := sI G 1100 (0) ((0 : Int32))
  tbI (V_X11_isTown x1 G_1) (fun r_3 G_2 => if r_3 = 0 then some (some (vI (-1 : Int32)), G_2)
  else tbI (V_X11_maySpare (0 : Int32) x1 G_2) (fun r_5 G_4 => if r_5 = 0 then some (some (vI (-1 : Int32)), G_4)
  else tbV (V_X11_keeps G_4) (fun G_6 => tbI (V_X11_spares (0 : Int32) x1 G_6) (fun r_8 G_7 => some (some (vI r_8), G_7))))) := (tgo 26 rfl sk_X11_spare rfl).trans rfl
def st_X11_bribe : List (Nat × List Bool) := []
theorem sk_X11_bribe : ∀ pc bs, tstop st_X11_bribe pc = some bs → ∃ a, k_X11_bribe pc = some (aMk bs a) := tstop_ok (fun _ h => absurd h List.not_mem_nil)
theorem e_X11_bribe (x1 : Int32) (G : tH) : V_X11_bribe x1 G = let G_1 := sI G 1100 (0) ((0 : Int32))
  tbI (V_X11_isJuror x1 G_1) (fun r_3 G_2 => if r_3 = 0 then some (some (vI (0 : Int32)), G_2)
  else tbI (V_X11_mayBribe (0 : Int32) x1 G_2) (fun r_5 G_4 => if r_5 = 0 then some (some (vI (0 : Int32)), G_4)
  else tbV (V_X11_keeps G_4) (fun G_6 => tbV (V_X11_bribes (0 : Int32) x1 G_6) (fun G_7 => some (some (vI (1 : Int32)), G_7))))) := (tgo 27 rfl sk_X11_bribe rfl).trans rfl
def st_X11_sue : List (Nat × List Bool) := []
theorem sk_X11_sue : ∀ pc bs, tstop st_X11_sue pc = some bs → ∃ a, k_X11_sue pc = some (aMk bs a) := tstop_ok (fun _ h => absurd h List.not_mem_nil)
theorem e_X11_sue (G : tH) : V_X11_sue  G = let G_1 := sI G 1100 (0) ((0 : Int32))
  tbI (V_X11_isHeld (0 : Int32) G_1) (fun r_3 G_2 => if r_3 = 0 then some (some (vI (-1 : Int32)), G_2)
  else tbV (V_X11_keeps G_2) (fun G_4 => tbI (V_X11_sues (0 : Int32) G_4) (fun r_6 G_5 => if r_6 = 0 then some (some (vI (0 : Int32)), G_5)
  else some (some (vI (1 : Int32)), G_5)))) := (tgo 24 rfl sk_X11_sue rfl).trans rfl
def st_X11_close : List (Nat × List Bool) := []
theorem sk_X11_close : ∀ pc bs, tstop st_X11_close pc = some bs → ∃ a, k_X11_close pc = some (aMk bs a) := tstop_ok (fun _ h => absurd h List.not_mem_nil)
theorem e_X11_close (G : tH) : V_X11_close  G = let G_1 := sI G 1100 (0) ((0 : Int32))
  tbI (V_X11_mayClose (0 : Int32) G_1) (fun r_3 G_2 => if r_3 = 0 then some (some (vI (0 : Int32)), G_2)
  else tbV (V_X11_keeps G_2) (fun G_4 => let G_5 := sA G_4 1124 0 (upd (gA G_4 1124 0) (0 : Int32).toNatClampNeg (-1 : Int32))
  some (some (vI (1 : Int32)), G_5))) := (tgo 23 rfl sk_X11_close rfl).trans rfl
def st_X11_undo : List (Nat × List Bool) := []
theorem sk_X11_undo : ∀ pc bs, tstop st_X11_undo pc = some bs → ∃ a, k_X11_undo pc = some (aMk bs a) := tstop_ok (fun _ h => absurd h List.not_mem_nil)
theorem e_X11_undo (G : tH) : V_X11_undo  G = let G_1 := sI G 1100 (0) ((0 : Int32))
  if (gI G_1 1125 (0)) = 0 then some (some (vI (0 : Int32)), G_1)
  else let G_2 := sI G_1 1125 (0) ((gI G_1 1125 (0)) - (1 : Int32))
  tbV (V_X11_copies ((61 : Int32) * ((5 : Int32) + (gI G_2 1125 (0)))) (0 : Int32) (56 : Int32) G_2) (fun G_3 => some (some (vI (1 : Int32)), G_3)) := (tgo 31 rfl sk_X11_undo rfl).trans rfl
def st_X11_mayDo : List (Nat × List Bool) := []
theorem sk_X11_mayDo : ∀ pc bs, tstop st_X11_mayDo pc = some bs → ∃ a, k_X11_mayDo pc = some (aMk bs a) := tstop_ok (fun _ h => absurd h List.not_mem_nil)
theorem e_X11_mayDo (x1 : Int32) (x2 : Int32) (x3 : Int32) (G : tH) : V_X11_mayDo x1 x2 x3 G = if x1 = (0 : Int32) then tbI (V_X11_mayBid (1281 : Int32) x2 x3 G) (fun r_2 G_1 => if vp_nar .boolean r_2 = r_2 then some (some (vI r_2), G_1) else none)
  else if x1 = (1 : Int32) then tbI (V_X11_mayAward (1281 : Int32) G) (fun r_4 G_3 => if vp_nar .boolean r_4 = r_4 then some (some (vI r_4), G_3) else none)
  else if x1 = (2 : Int32) then tbI (V_X11_mayYear (1281 : Int32) G) (fun r_6 G_5 => if vp_nar .boolean r_6 = r_6 then some (some (vI r_6), G_5) else none)
  else if x1 = (3 : Int32) then tbI (V_X11_mayTake (1281 : Int32) x2 x3 G) (fun r_8 G_7 => if vp_nar .boolean r_8 = r_8 then some (some (vI r_8), G_7) else none)
  else if x1 = (4 : Int32) then tbI (V_X11_mayLend (1281 : Int32) x3 G) (fun r_10 G_9 => if vp_nar .boolean r_10 = r_10 then some (some (vI r_10), G_9) else none)
  else if x1 = (5 : Int32) then tbI (V_X11_mayCall (1281 : Int32) x2 x3 G) (fun r_12 G_11 => if vp_nar .boolean r_12 = r_12 then some (some (vI r_12), G_11) else none)
  else if x1 = (6 : Int32) then tbI (V_X11_maySpare (1281 : Int32) x2 G) (fun r_14 G_13 => if vp_nar .boolean r_14 = r_14 then some (some (vI r_14), G_13) else none)
  else if x1 = (7 : Int32) then tbI (V_X11_mayBribe (1281 : Int32) x2 G) (fun r_16 G_15 => if vp_nar .boolean r_16 = r_16 then some (some (vI r_16), G_15) else none)
  else if x1 = (8 : Int32) then tbI (V_X11_isHeld (1281 : Int32) G) (fun r_18 G_17 => if vp_nar .boolean r_18 = r_18 then some (some (vI r_18), G_17) else none)
  else tbI (V_X11_mayClose (1281 : Int32) G) (fun r_20 G_19 => if vp_nar .boolean r_20 = r_20 then some (some (vI r_20), G_19) else none) := (tgo 56 rfl sk_X11_mayDo rfl).trans rfl
def st_X11_does : List (Nat × List Bool) := []
theorem sk_X11_does : ∀ pc bs, tstop st_X11_does pc = some bs → ∃ a, k_X11_does pc = some (aMk bs a) := tstop_ok (fun _ h => absurd h List.not_mem_nil)
theorem e_X11_does (x1 : Int32) (x2 : Int32) (x3 : Int32) (G : tH) : V_X11_does x1 x2 x3 G = if x1 = (0 : Int32) then (if tin ((1327 : Int32) + x2) 1403 then (let G_1 := sA G 1124 0 (upd (gA G 1124 0) ((1327 : Int32) + x2).toNatClampNeg x3)
  some (none, G_1)) else none)
  else if x1 = (1 : Int32) then tbI (V_X11_awards (1281 : Int32) G) (fun r_3 G_2 => some (none, G_2))
  else if x1 = (2 : Int32) then tbI (V_X11_yearBy (1281 : Int32) x2 G) (fun r_5 G_4 => some (none, G_4))
  else if x1 = (3 : Int32) then tbI (V_X11_takes (1281 : Int32) x2 x3 G) (fun r_7 G_6 => some (none, G_6))
  else if x1 = (4 : Int32) then tbI (V_X11_lends (1281 : Int32) x2 x3 G) (fun r_9 G_8 => some (none, G_8))
  else if x1 = (5 : Int32) then tbI (V_X11_calls (1281 : Int32) x2 x3 G) (fun r_11 G_10 => some (none, G_10))
  else if x1 = (6 : Int32) then tbI (V_X11_spares (1281 : Int32) x2 G) (fun r_13 G_12 => some (none, G_12))
  else if x1 = (7 : Int32) then tbV (V_X11_bribes (1281 : Int32) x2 G) (fun G_14 => some (none, G_14))
  else if x1 = (8 : Int32) then tbI (V_X11_sues (1281 : Int32) G) (fun r_16 G_15 => some (none, G_15))
  else let G_17 := sA G 1124 0 (upd (gA G 1124 0) (1281 : Int32).toNatClampNeg (-1 : Int32))
  some (none, G_17) := (tgo 69 rfl sk_X11_does rfl).trans rfl
def st_X11_meansOf : List (Nat × List Bool) := [(4, [true, true, true, true])]
theorem sk_X11_meansOf : ∀ pc bs, tstop st_X11_meansOf pc = some bs → ∃ a, k_X11_meansOf pc = some (aMk bs a) := tstop_ok (List.forall_mem_cons.mpr ⟨⟨_, rfl⟩, fun _ h => absurd h List.not_mem_nil⟩)
theorem e_X11_meansOf (x1 : Int32) (G : tH) : V_X11_meansOf x1 G = V_X11_meansOf_4 x1 (0 : Int32) (0 : Int32) G := (tgo 28 rfl sk_X11_meansOf rfl).trans rfl
theorem e_X11_meansOf_4 (x1 : Int32) (x2 : Int32) (x3 : Int32) (G : tH) : V_X11_meansOf_4 x1 x2 x3 G = tbI (V_X11_towns G) (fun r_2 G_1 => if x3 < r_2 then (if tin ((x1 + (5 : Int32)) + x3) 1403 then V_X11_meansOf_4 x1 (x2 + (gA G_1 1124 0 ((x1 + (5 : Int32)) + x3).toNatClampNeg)) (x3 + (1 : Int32)) G_1 else none)
  else some (some (vI x2), G_1)) := (tgo 28 rfl sk_X11_meansOf rfl).trans rfl
def st_X11_judged : List (Nat × List Bool) := [(28, [true, true, true, true, false, false]), (110, [true, true, true, true, false, true])]
theorem sk_X11_judged : ∀ pc bs, tstop st_X11_judged pc = some bs → ∃ a, k_X11_judged pc = some (aMk bs a) := tstop_ok (List.forall_mem_cons.mpr ⟨⟨_, rfl⟩, List.forall_mem_cons.mpr ⟨⟨_, rfl⟩, fun _ h => absurd h List.not_mem_nil⟩⟩)
theorem e_X11_judged (x1 : Int32) (G : tH) : V_X11_judged x1 G = let G_1 := sI G 1100 (0) ((0 : Int32))
  tbI (V_X11_within x1 (0 : Int32) (2 : Int32) G_1) (fun r_3 G_2 => if r_3 = 0 then some (some (vI (-2 : Int32)), G_2)
  else tbV (V_X11_starts (1281 : Int32) G_2) (fun G_4 => V_X11_judged_28 x1 (-1 : Int32) (0 : Int32) G_4)) := (tgo 99 rfl sk_X11_judged rfl).trans rfl
theorem e_X11_judged_28 (x1 : Int32) (x2 : Int32) (x3 : Int32) (G : tH) : V_X11_judged_28 x1 x2 x3 G = if x3 < (gA G 1121 0 (0 : Int32).toNatClampNeg) then (if tin ((1 : Int32) + ((3 : Int32) * x3)) 250 then (if tin (((1 : Int32) + ((3 : Int32) * x3)) + (1 : Int32)) 250 then (if tin (((1 : Int32) + ((3 : Int32) * x3)) + (2 : Int32)) 250 then (tbI (V_X11_mayDo (gA G 1121 0 ((1 : Int32) + ((3 : Int32) * x3)).toNatClampNeg) (gA G 1121 0 (((1 : Int32) + ((3 : Int32) * x3)) + (1 : Int32)).toNatClampNeg) (gA G 1121 0 (((1 : Int32) + ((3 : Int32) * x3)) + (2 : Int32)).toNatClampNeg) G) (fun r_2 G_1 => if r_2 = 0 then V_X11_judged_110 x1 x2 x3 r_2 G_1
  else if tin ((1 : Int32) + ((3 : Int32) * x3)) 250 then (if tin (((1 : Int32) + ((3 : Int32) * x3)) + (1 : Int32)) 250 then (if tin (((1 : Int32) + ((3 : Int32) * x3)) + (2 : Int32)) 250 then tbV (V_X11_does (gA G_1 1121 0 ((1 : Int32) + ((3 : Int32) * x3)).toNatClampNeg) (gA G_1 1121 0 (((1 : Int32) + ((3 : Int32) * x3)) + (1 : Int32)).toNatClampNeg) (gA G_1 1121 0 (((1 : Int32) + ((3 : Int32) * x3)) + (2 : Int32)).toNatClampNeg) G_1) (fun G_3 => V_X11_judged_110 x1 x2 x3 r_2 G_3) else none) else none) else none)) else none) else none) else none)
  else if x1 = 0 then some (some (vI x2), G)
  else if x1 = (1 : Int32) then some (some (vI (gA G 1124 0 (1284 : Int32).toNatClampNeg)), G)
  else tbI (V_X11_meansOf (1281 : Int32) G) (fun r_5 G_4 => some (some (vI r_5), G_4)) := (tgo 99 rfl sk_X11_judged rfl).trans rfl
theorem e_X11_judged_110 (x1 : Int32) (x2 : Int32) (x3 : Int32) (x5 : Int32) (G : tH) : V_X11_judged_110 x1 x2 x3 x5 G = if x5 = 0 then (if x2 < 0 then V_X11_judged_28 x1 x3 (x3 + (1 : Int32)) G
  else V_X11_judged_28 x1 x2 (x3 + (1 : Int32)) G)
  else V_X11_judged_28 x1 x2 (x3 + (1 : Int32)) G := (tgo 99 rfl sk_X11_judged rfl).trans rfl
