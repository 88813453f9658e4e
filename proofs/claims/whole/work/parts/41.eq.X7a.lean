/-! the equations: X7a -/
def st_X7_begin : List (Nat × List Bool) := [(7, [true, true, true]), (61, [true, true, true])]
theorem sk_X7_begin : ∀ pc bs, tstop st_X7_begin pc = some bs → ∃ a, k_X7_begin pc = some (aMk bs a) := tstop_ok (List.forall_mem_cons.mpr ⟨⟨_, rfl⟩, List.forall_mem_cons.mpr ⟨⟨_, rfl⟩, fun _ h => absurd h List.not_mem_nil⟩⟩)
theorem e_X7_begin (o0 : Nat) (o1 : Nat) (G : tH) : V_X7_begin o0 o1 G = let G_1 := sR G 700 (o0) (o1)
  V_X7_begin_7 o0 o1 (0 : Int32) G_1 := (tgo 85 rfl sk_X7_begin rfl).trans rfl
theorem e_X7_begin_7 (o0 : Nat) (o1 : Nat) (x2 : Int32) (G : tH) : V_X7_begin_7 o0 o1 x2 G = if x2 < (6 : Int32) then (if tin x2 6 then (if tin x2 6 then (let G_1 := sA G 701 o0 (upd (gA G 701 o0) x2.toNatClampNeg (gA G 505 o1 x2.toNatClampNeg))
  if tin x2 6 then (let G_2 := sA G_1 702 o0 (upd (gA G_1 702 o0) x2.toNatClampNeg (0 : Int32))
  if tin x2 6 then (let G_3 := sA G_2 703 o0 (upd (gA G_2 703 o0) x2.toNatClampNeg (0 : Int32))
  if tin x2 6 then (let G_4 := sA G_3 704 o0 (upd (gA G_3 704 o0) x2.toNatClampNeg (0 : Int32))
  if tin x2 6 then (let G_5 := sA G_4 705 o0 (upd (gA G_4 705 o0) x2.toNatClampNeg (0 : Int32))
  V_X7_begin_7 o0 o1 (x2 + (1 : Int32)) G_5) else none) else none) else none) else none) else none) else none)
  else V_X7_begin_61 o0 o1 (0 : Int32) G := (tgo 85 rfl sk_X7_begin rfl).trans rfl
theorem e_X7_begin_61 (o0 : Nat) (o1 : Nat) (x2 : Int32) (G : tH) : V_X7_begin_61 o0 o1 x2 G = if x2 < (5 : Int32) then (if tin x2 5 then (if tin x2 5 then (let G_1 := sA G 706 o0 (upd (gA G 706 o0) x2.toNatClampNeg (gA G 507 o1 x2.toNatClampNeg))
  if tin x2 5 then (let G_2 := sA G_1 707 o0 (upd (gA G_1 707 o0) x2.toNatClampNeg (0 : Int32))
  V_X7_begin_61 o0 o1 (x2 + (1 : Int32)) G_2) else none) else none) else none)
  else let G_3 := sI G 708 (o0) ((0 : Int32))
  let G_4 := sI G_3 709 (o0) ((0 : Int32))
  let G_5 := sI G_4 710 (o0) ((-1 : Int32))
  let G_6 := sI G_5 711 (o0) ((0 : Int32))
  let G_7 := sI G_6 712 (o0) ((0 : Int32))
  let G_8 := sI G_7 713 (o0) ((0 : Int32))
  let G_9 := sI G_8 714 (o0) ((0 : Int32))
  some (none, G_9) := (tgo 85 rfl sk_X7_begin rfl).trans rfl
def st_X7_copyFrom : List (Nat × List Bool) := []
theorem sk_X7_copyFrom : ∀ pc bs, tstop st_X7_copyFrom pc = some bs → ∃ a, k_X7_copyFrom pc = some (aMk bs a) := tstop_ok (fun _ h => absurd h List.not_mem_nil)
theorem e_X7_copyFrom (o0 : Nat) (o1 : Nat) (G : tH) : V_X7_copyFrom o0 o1 G = let G_1 := sR G 700 (o0) (gR G 700 (o1))
  let G_2 := sA G_1 701 o0 (va_cpy (gA G_1 701 o1) (gA G_1 701 o0) (0 : Int32).toNatClampNeg (0 : Int32).toNatClampNeg (6 : Int32).toNatClampNeg)
  let G_3 := sA G_2 702 o0 (va_cpy (gA G_2 702 o1) (gA G_2 702 o0) (0 : Int32).toNatClampNeg (0 : Int32).toNatClampNeg (6 : Int32).toNatClampNeg)
  let G_4 := sA G_3 703 o0 (va_cpy (gA G_3 703 o1) (gA G_3 703 o0) (0 : Int32).toNatClampNeg (0 : Int32).toNatClampNeg (6 : Int32).toNatClampNeg)
  let G_5 := sA G_4 704 o0 (va_cpy (gA G_4 704 o1) (gA G_4 704 o0) (0 : Int32).toNatClampNeg (0 : Int32).toNatClampNeg (6 : Int32).toNatClampNeg)
  let G_6 := sA G_5 705 o0 (va_cpy (gA G_5 705 o1) (gA G_5 705 o0) (0 : Int32).toNatClampNeg (0 : Int32).toNatClampNeg (6 : Int32).toNatClampNeg)
  let G_7 := sA G_6 706 o0 (va_cpy (gA G_6 706 o1) (gA G_6 706 o0) (0 : Int32).toNatClampNeg (0 : Int32).toNatClampNeg (5 : Int32).toNatClampNeg)
  let G_8 := sA G_7 707 o0 (va_cpy (gA G_7 707 o1) (gA G_7 707 o0) (0 : Int32).toNatClampNeg (0 : Int32).toNatClampNeg (5 : Int32).toNatClampNeg)
  let G_9 := sI G_8 708 (o0) (gI G_8 708 (o1))
  let G_10 := sI G_9 709 (o0) (gI G_9 709 (o1))
  let G_11 := sI G_10 710 (o0) (gI G_10 710 (o1))
  let G_12 := sI G_11 711 (o0) (gI G_11 711 (o1))
  let G_13 := sI G_12 712 (o0) (gI G_12 712 (o1))
  let G_14 := sI G_13 713 (o0) (gI G_13 713 (o1))
  let G_15 := sI G_14 714 (o0) (gI G_14 714 (o1))
  some (none, G_15) := (tgo 94 rfl sk_X7_copyFrom rfl).trans rfl
def st_X7_isHeld : List (Nat × List Bool) := []
theorem sk_X7_isHeld : ∀ pc bs, tstop st_X7_isHeld pc = some bs → ∃ a, k_X7_isHeld pc = some (aMk bs a) := tstop_ok (fun _ h => absurd h List.not_mem_nil)
theorem e_X7_isHeld (o0 : Nat) (G : tH) : V_X7_isHeld o0 G = if (gI G 710 (o0)) < 0 then some (some (vI (0 : Int32)), G)
  else if (gI G 710 (o0)) < (gI G 601 (4 * (gR G 700 (o0)) + 1)) then some (some (vI (1 : Int32)), G)
  else some (some (vI (0 : Int32)), G) := (tgo 19 rfl sk_X7_isHeld rfl).trans rfl
def st_X7_isSpared : List (Nat × List Bool) := []
theorem sk_X7_isSpared : ∀ pc bs, tstop st_X7_isSpared pc = some bs → ∃ a, k_X7_isSpared pc = some (aMk bs a) := tstop_ok (fun _ h => absurd h List.not_mem_nil)
theorem e_X7_isSpared (o0 : Nat) (x1 : Int32) (G : tH) : V_X7_isSpared o0 x1 G = if (((gI G 708 (o0)) >>> (x1 &&& 31)) &&& (1 : Int32)) = 0 then some (some (vI (0 : Int32)), G)
  else some (some (vI (1 : Int32)), G) := (tgo 16 rfl sk_X7_isSpared rfl).trans rfl
def st_X7_isBribed : List (Nat × List Bool) := []
theorem sk_X7_isBribed : ∀ pc bs, tstop st_X7_isBribed pc = some bs → ∃ a, k_X7_isBribed pc = some (aMk bs a) := tstop_ok (fun _ h => absurd h List.not_mem_nil)
theorem e_X7_isBribed (o0 : Nat) (x1 : Int32) (G : tH) : V_X7_isBribed o0 x1 G = if (((gI G 709 (o0)) >>> (x1 &&& 31)) &&& (1 : Int32)) = 0 then some (some (vI (0 : Int32)), G)
  else some (some (vI (1 : Int32)), G) := (tgo 16 rfl sk_X7_isBribed rfl).trans rfl
def st_X7_meansOfAll : List (Nat × List Bool) := [(4, [true, true, true])]
theorem sk_X7_meansOfAll : ∀ pc bs, tstop st_X7_meansOfAll pc = some bs → ∃ a, k_X7_meansOfAll pc = some (aMk bs a) := tstop_ok (List.forall_mem_cons.mpr ⟨⟨_, rfl⟩, fun _ h => absurd h List.not_mem_nil⟩)
theorem e_X7_meansOfAll (o0 : Nat) (G : tH) : V_X7_meansOfAll o0 G = V_X7_meansOfAll_4 o0 (0 : Int32) (0 : Int32) G := (tgo 26 rfl sk_X7_meansOfAll rfl).trans rfl
theorem e_X7_meansOfAll_4 (o0 : Nat) (x1 : Int32) (x2 : Int32) (G : tH) : V_X7_meansOfAll_4 o0 x1 x2 G = if x2 < (gI G 601 (4 * (gR G 700 (o0)) + 0)) then (if tin x2 6 then V_X7_meansOfAll_4 o0 (x1 + (gA G 701 o0 x2.toNatClampNeg)) (x2 + (1 : Int32)) G else none)
  else some (some (vI x1), G) := (tgo 26 rfl sk_X7_meansOfAll rfl).trans rfl
def st_X7_placeBid : List (Nat × List Bool) := []
theorem sk_X7_placeBid : ∀ pc bs, tstop st_X7_placeBid pc = some bs → ∃ a, k_X7_placeBid pc = some (aMk bs a) := tstop_ok (fun _ h => absurd h List.not_mem_nil)
theorem e_X7_placeBid (o0 : Nat) (x1 : Int32) (x2 : Int32) (G : tH) : V_X7_placeBid o0 x1 x2 G = tbI (V_X7_isHeld o0 G) (fun r_2 G_1 => if r_2 = 0 then (tbI (V_X6_has (4 * (gR G_1 700 (o0)) + 1) x1 G_1) (fun r_4 G_3 => if r_4 = 0 then some (some (vI (0 : Int32)), G_3)
  else if x2 < 0 then some (some (vI (0 : Int32)), G_3)
  else if (9999 : Int32) < x2 then some (some (vI (0 : Int32)), G_3)
  else if tin x1 5 then (if (gA G_3 706 o0 x1.toNatClampNeg) < x2 then some (some (vI (0 : Int32)), G_3)
  else if tin x1 5 then (let G_5 := sA G_3 707 o0 (upd (gA G_3 707 o0) x1.toNatClampNeg x2)
  some (some (vI (1 : Int32)), G_5)) else none) else none))
  else some (some (vI (0 : Int32)), G_1)) := (tgo 34 rfl sk_X7_placeBid rfl).trans rfl
def st_X7_topBidder : List (Nat × List Bool) := [(6, [true, true, true, true])]
theorem sk_X7_topBidder : ∀ pc bs, tstop st_X7_topBidder pc = some bs → ∃ a, k_X7_topBidder pc = some (aMk bs a) := tstop_ok (List.forall_mem_cons.mpr ⟨⟨_, rfl⟩, fun _ h => absurd h List.not_mem_nil⟩)
theorem e_X7_topBidder (o0 : Nat) (G : tH) : V_X7_topBidder o0 G = V_X7_topBidder_6 o0 (-1 : Int32) (0 : Int32) (0 : Int32) G := (tgo 34 rfl sk_X7_topBidder rfl).trans rfl
theorem e_X7_topBidder_6 (o0 : Nat) (x1 : Int32) (x2 : Int32) (x3 : Int32) (G : tH) : V_X7_topBidder_6 o0 x1 x2 x3 G = if x3 < (gI G 601 (4 * (gR G 700 (o0)) + 1)) then (if tin x3 5 then (if x2 < (gA G 707 o0 x3.toNatClampNeg) then (if tin x3 5 then V_X7_topBidder_6 o0 x3 (gA G 707 o0 x3.toNatClampNeg) (x3 + (1 : Int32)) G else none)
  else V_X7_topBidder_6 o0 x1 x2 (x3 + (1 : Int32)) G) else none)
  else some (some (vI x1), G) := (tgo 34 rfl sk_X7_topBidder rfl).trans rfl
def st_X7_awardTop : List (Nat × List Bool) := [(65, [true, true, false]), (93, [true, false, true])]
theorem sk_X7_awardTop : ∀ pc bs, tstop st_X7_awardTop pc = some bs → ∃ a, k_X7_awardTop pc = some (aMk bs a) := tstop_ok (List.forall_mem_cons.mpr ⟨⟨_, rfl⟩, List.forall_mem_cons.mpr ⟨⟨_, rfl⟩, fun _ h => absurd h List.not_mem_nil⟩⟩)
theorem e_X7_awardTop (o0 : Nat) (G : tH) : V_X7_awardTop o0 G = tbI (V_X7_topBidder o0 G) (fun r_2 G_1 => tbI (V_X7_isHeld o0 G_1) (fun r_4 G_3 => if r_4 = 0 then (if r_2 = (-1 : Int32) then some (some (vI (-2 : Int32)), G_3)
  else if tin r_2 5 then (if (gA G_3 506 (gR G_3 700 (o0)) r_2.toNatClampNeg) = (1 : Int32) then V_X7_awardTop_93 o0 (0 : Int32) G_3
  else if tin r_2 5 then (if (gA G_3 506 (gR G_3 700 (o0)) r_2.toNatClampNeg) = (2 : Int32) then (if tin r_2 5 then V_X7_awardTop_65 o0 r_2 (((gA G_3 707 o0 r_2.toNatClampNeg) * (3 : Int32)) / (4 : Int32)) G_3 else none)
  else if tin r_2 5 then V_X7_awardTop_65 o0 r_2 (gA G_3 707 o0 r_2.toNatClampNeg) G_3 else none) else none) else none)
  else some (some (vI (-2 : Int32)), G_3))) := (tgo 85 rfl sk_X7_awardTop rfl).trans rfl
theorem e_X7_awardTop_65 (o0 : Nat) (x1 : Int32) (s0 : Int32) (G : tH) : V_X7_awardTop_65 o0 x1 s0 G = if tin x1 5 then (if tin x1 5 then (let G_1 := sA G 706 o0 (upd (gA G 706 o0) x1.toNatClampNeg ((gA G 706 o0 x1.toNatClampNeg) - s0))
  let G_2 := sI G_1 714 (o0) ((gI G_1 714 (o0)) + s0)
  let G_3 := sI G_2 710 (o0) (x1)
  V_X7_awardTop_93 o0 (0 : Int32) G_3) else none) else none := (tgo 85 rfl sk_X7_awardTop rfl).trans rfl
theorem e_X7_awardTop_93 (o0 : Nat) (x2 : Int32) (G : tH) : V_X7_awardTop_93 o0 x2 G = if x2 < (5 : Int32) then (if tin x2 5 then (let G_1 := sA G 707 o0 (upd (gA G 707 o0) x2.toNatClampNeg (0 : Int32))
  V_X7_awardTop_93 o0 (x2 + (1 : Int32)) G_1) else none)
  else let G_2 := sI G 711 (o0) ((0 : Int32))
  let G_3 := sI G_2 713 (o0) ((0 : Int32))
  let G_4 := sI G_3 709 (o0) ((0 : Int32))
  some (some (vI (gI G_4 710 (o0))), G_4) := (tgo 85 rfl sk_X7_awardTop rfl).trans rfl
def st_X7_bringYear : List (Nat × List Bool) := [(35, [true, true, true, true])]
theorem sk_X7_bringYear : ∀ pc bs, tstop st_X7_bringYear pc = some bs → ∃ a, k_X7_bringYear pc = some (aMk bs a) := tstop_ok (List.forall_mem_cons.mpr ⟨⟨_, rfl⟩, fun _ h => absurd h List.not_mem_nil⟩)
theorem e_X7_bringYear (o0 : Nat) (x1 : Int32) (G : tH) : V_X7_bringYear o0 x1 G = tbI (V_X7_isHeld o0 G) (fun r_2 G_1 => if r_2 = 0 then some (some (vI (-1 : Int32)), G_1)
  else if (gI G_1 711 (o0)) < (5 : Int32) then (tbI (V_X6_has (4 * (gR G_1 700 (o0)) + 2) x1 G_1) (fun r_4 G_3 => if r_4 = 0 then some (some (vI (-1 : Int32)), G_3)
  else V_X7_bringYear_35 o0 x1 (0 : Int32) (0 : Int32) G_3))
  else some (some (vI (-1 : Int32)), G_1)) := (tgo 117 rfl sk_X7_bringYear rfl).trans rfl
theorem e_X7_bringYear_35 (o0 : Nat) (x1 : Int32) (x2 : Int32) (x3 : Int32) (G : tH) : V_X7_bringYear_35 o0 x1 x2 x3 G = if x3 < (gI G 601 (4 * (gR G 700 (o0)) + 0)) then (if tin x3 6 then (if tin x3 6 then (tbI (V_X5_meansWith (gR G 700 (o0)) (gA G 701 o0 x3.toNatClampNeg) (gA G 702 o0 x3.toNatClampNeg) G) (fun r_2 G_1 => if tin x3 6 then (let G_3 := sA G_1 701 o0 (upd (gA G_1 701 o0) x3.toNatClampNeg r_2)
  if tin x3 6 then (if tin x3 6 then (tbI (V_X2_valueOf (2 * (gR G_3 700 (o0)) + 1) (gA G_3 701 o0 x3.toNatClampNeg) (0 : Int32) (gA G_3 705 o0 x3.toNatClampNeg) G_3) (fun r_5 G_4 => tbI (V_X10_within r_5 (0 : Int32) (9999 : Int32) G_4) (fun r_7 G_6 => if tin x3 6 then (let G_8 := sA G_6 705 o0 (upd (gA G_6 705 o0) x3.toNatClampNeg r_7)
  if tin x3 6 then (tbI (V_X5_cropOf (gR G_8 700 (o0)) x3 (gA G_8 701 o0 x3.toNatClampNeg) x1 G_8) (fun r_10 G_9 => if tin x3 6 then (let G_11 := sA G_9 702 o0 (upd (gA G_9 702 o0) x3.toNatClampNeg r_10)
  if tin x3 6 then (if tin x3 6 then (let G_12 := sA G_11 703 o0 (upd (gA G_11 703 o0) x3.toNatClampNeg (gA G_11 702 o0 x3.toNatClampNeg))
  if tin x3 6 then (let G_13 := sA G_12 704 o0 (upd (gA G_12 704 o0) x3.toNatClampNeg (0 : Int32))
  if tin x3 6 then V_X7_bringYear_35 o0 x1 (x2 + (gA G_13 702 o0 x3.toNatClampNeg)) (x3 + (1 : Int32)) G_13 else none) else none) else none) else none) else none)) else none) else none))) else none) else none) else none)) else none) else none)
  else let G_14 := sI G 708 (o0) ((0 : Int32))
  let G_15 := sI G_14 711 (o0) ((gI G_14 711 (o0)) + (1 : Int32))
  let G_16 := sI G_15 712 (o0) ((gI G_15 712 (o0)) + (1 : Int32))
  some (some (vI x2), G_16) := (tgo 117 rfl sk_X7_bringYear rfl).trans rfl
def st_X7_takeFrom : List (Nat × List Bool) := []
theorem sk_X7_takeFrom : ∀ pc bs, tstop st_X7_takeFrom pc = some bs → ∃ a, k_X7_takeFrom pc = some (aMk bs a) := tstop_ok (fun _ h => absurd h List.not_mem_nil)
theorem e_X7_takeFrom (o0 : Nat) (x1 : Int32) (x2 : Int32) (G : tH) : V_X7_takeFrom o0 x1 x2 G = tbI (V_X7_isHeld o0 G) (fun r_2 G_1 => if r_2 = 0 then some (some (vI (-1 : Int32)), G_1)
  else tbI (V_X6_has (4 * (gR G_1 700 (o0)) + 0) x1 G_1) (fun r_4 G_3 => if r_4 = 0 then some (some (vI (-1 : Int32)), G_3)
  else tbI (V_X7_isSpared o0 x1 G_3) (fun r_6 G_5 => if r_6 = 0 then (if x2 < (1 : Int32) then some (some (vI (-1 : Int32)), G_5)
  else if (9999 : Int32) < x2 then some (some (vI (-1 : Int32)), G_5)
  else if tin x1 6 then (if (gA G_5 702 o0 x1.toNatClampNeg) < x2 then some (some (vI (-1 : Int32)), G_5)
  else if tin x1 6 then (tbI (V_X5_titheOf (gR G_5 700 (o0)) (gA G_5 703 o0 x1.toNatClampNeg) G_5) (fun r_8 G_7 => if tin x1 6 then (let z_9 : Int32 := if (0 : Int32) < ((gA G_7 704 o0 x1.toNatClampNeg) - r_8) then ((gA G_7 704 o0 x1.toNatClampNeg) - r_8) else (0 : Int32)
  if tin x1 6 then (if tin x1 6 then (let G_10 := sA G_7 704 o0 (upd (gA G_7 704 o0) x1.toNatClampNeg ((gA G_7 704 o0 x1.toNatClampNeg) + x2))
  if tin x1 6 then (let z_11 : Int32 := (if (0 : Int32) < ((gA G_10 704 o0 x1.toNatClampNeg) - r_8) then ((gA G_10 704 o0 x1.toNatClampNeg) - r_8) else (0 : Int32)) - z_9
  if tin x1 6 then (if tin x1 6 then (let G_12 := sA G_10 702 o0 (upd (gA G_10 702 o0) x1.toNatClampNeg ((gA G_10 702 o0 x1.toNatClampNeg) - x2))
  if tin (gI G_12 710 (o0)) 5 then (if tin (gI G_12 710 (o0)) 5 then (let G_13 := sA G_12 706 o0 (upd (gA G_12 706 o0) (gI G_12 710 (o0)).toNatClampNeg ((gA G_12 706 o0 (gI G_12 710 (o0)).toNatClampNeg) + x2))
  let G_14 := sI G_13 713 (o0) ((gI G_13 713 (o0)) + z_11)
  if tin x1 6 then (tbI (V_X5_meansBehind (gR G_14 700 (o0)) x1 (gA G_14 701 o0 x1.toNatClampNeg) z_11 G_14) (fun r_16 G_15 => if tin x1 6 then (let G_17 := sA G_15 701 o0 (upd (gA G_15 701 o0) x1.toNatClampNeg r_16)
  some (some (vI z_11), G_17)) else none)) else none) else none) else none) else none) else none) else none) else none) else none) else none)) else none) else none)
  else some (some (vI (-1 : Int32)), G_5)))) := (tgo 106 rfl sk_X7_takeFrom rfl).trans rfl
def st_X7_lendTo : List (Nat × List Bool) := []
theorem sk_X7_lendTo : ∀ pc bs, tstop st_X7_lendTo pc = some bs → ∃ a, k_X7_lendTo pc = some (aMk bs a) := tstop_ok (fun _ h => absurd h List.not_mem_nil)
theorem e_X7_lendTo (o0 : Nat) (x1 : Int32) (x2 : Int32) (G : tH) : V_X7_lendTo o0 x1 x2 G = tbI (V_X7_isHeld o0 G) (fun r_2 G_1 => if r_2 = 0 then some (some (vI (-1 : Int32)), G_1)
  else tbI (V_X6_has (4 * (gR G_1 700 (o0)) + 0) x1 G_1) (fun r_4 G_3 => if r_4 = 0 then some (some (vI (-1 : Int32)), G_3)
  else if x2 < (1 : Int32) then some (some (vI (-1 : Int32)), G_3)
  else if (9999 : Int32) < x2 then some (some (vI (-1 : Int32)), G_3)
  else if tin (gI G_3 710 (o0)) 5 then (if (gA G_3 706 o0 (gI G_3 710 (o0)).toNatClampNeg) < x2 then some (some (vI (-1 : Int32)), G_3)
  else if tin (gI G_3 710 (o0)) 5 then (if tin (gI G_3 710 (o0)) 5 then (let G_5 := sA G_3 706 o0 (upd (gA G_3 706 o0) (gI G_3 710 (o0)).toNatClampNeg ((gA G_3 706 o0 (gI G_3 710 (o0)).toNatClampNeg) - x2))
  if tin x1 6 then (if tin x1 6 then (let G_6 := sA G_5 701 o0 (upd (gA G_5 701 o0) x1.toNatClampNeg (if ((gA G_5 701 o0 x1.toNatClampNeg) + x2) < (9999 : Int32) then ((gA G_5 701 o0 x1.toNatClampNeg) + x2) else (9999 : Int32)))
  if tin x1 6 then (if tin x1 6 then (let G_7 := sA G_6 705 o0 (upd (gA G_6 705 o0) x1.toNatClampNeg (if ((gA G_6 705 o0 x1.toNatClampNeg) + x2) < (9999 : Int32) then ((gA G_6 705 o0 x1.toNatClampNeg) + x2) else (9999 : Int32)))
  if tin x1 6 then some (some (vI (gA G_7 705 o0 x1.toNatClampNeg)), G_7) else none) else none) else none) else none) else none) else none) else none) else none)) := (tgo 67 rfl sk_X7_lendTo rfl).trans rfl
def st_X7_callIn : List (Nat × List Bool) := []
theorem sk_X7_callIn : ∀ pc bs, tstop st_X7_callIn pc = some bs → ∃ a, k_X7_callIn pc = some (aMk bs a) := tstop_ok (fun _ h => absurd h List.not_mem_nil)
theorem e_X7_callIn (o0 : Nat) (x1 : Int32) (x2 : Int32) (G : tH) : V_X7_callIn o0 x1 x2 G = tbI (V_X7_isHeld o0 G) (fun r_2 G_1 => if r_2 = 0 then some (some (vI (-1 : Int32)), G_1)
  else tbI (V_X6_has (4 * (gR G_1 700 (o0)) + 0) x1 G_1) (fun r_4 G_3 => if r_4 = 0 then some (some (vI (-1 : Int32)), G_3)
  else if x2 < (1 : Int32) then some (some (vI (-1 : Int32)), G_3)
  else if tin x1 6 then (if (gA G_3 705 o0 x1.toNatClampNeg) < x2 then some (some (vI (-1 : Int32)), G_3)
  else if tin x1 6 then (if (gA G_3 701 o0 x1.toNatClampNeg) < x2 then some (some (vI (-1 : Int32)), G_3)
  else if tin x1 6 then (if tin x1 6 then (let G_5 := sA G_3 701 o0 (upd (gA G_3 701 o0) x1.toNatClampNeg ((gA G_3 701 o0 x1.toNatClampNeg) - x2))
  if tin x1 6 then (if tin x1 6 then (let G_6 := sA G_5 705 o0 (upd (gA G_5 705 o0) x1.toNatClampNeg ((gA G_5 705 o0 x1.toNatClampNeg) - x2))
  if tin (gI G_6 710 (o0)) 5 then (if tin (gI G_6 710 (o0)) 5 then (let G_7 := sA G_6 706 o0 (upd (gA G_6 706 o0) (gI G_6 710 (o0)).toNatClampNeg ((gA G_6 706 o0 (gI G_6 710 (o0)).toNatClampNeg) + x2))
  if tin x1 6 then some (some (vI (gA G_7 705 o0 x1.toNatClampNeg)), G_7) else none) else none) else none) else none) else none) else none) else none) else none) else none)) := (tgo 61 rfl sk_X7_callIn rfl).trans rfl
def st_X7_spareTown : List (Nat × List Bool) := [(98, [true, true, false, true])]
theorem sk_X7_spareTown : ∀ pc bs, tstop st_X7_spareTown pc = some bs → ∃ a, k_X7_spareTown pc = some (aMk bs a) := tstop_ok (List.forall_mem_cons.mpr ⟨⟨_, rfl⟩, fun _ h => absurd h List.not_mem_nil⟩)
theorem e_X7_spareTown (o0 : Nat) (x1 : Int32) (G : tH) : V_X7_spareTown o0 x1 G = tbI (V_X7_isHeld o0 G) (fun r_2 G_1 => if r_2 = 0 then some (some (vI (-1 : Int32)), G_1)
  else tbI (V_X6_has (4 * (gR G_1 700 (o0)) + 0) x1 G_1) (fun r_4 G_3 => if r_4 = 0 then some (some (vI (-1 : Int32)), G_3)
  else tbI (V_X7_isSpared o0 x1 G_3) (fun r_6 G_5 => if r_6 = 0 then (if tin x1 6 then (if tin x1 6 then (if tin x1 6 then (tbI (V_X2_valueOf (2 * (gR G_5 700 (o0)) + 0) (gA G_5 701 o0 x1.toNatClampNeg) (gA G_5 702 o0 x1.toNatClampNeg) (gA G_5 705 o0 x1.toNatClampNeg) G_5) (fun r_8 G_7 => if tin x1 6 then (tbI (V_X10_within r_8 (0 : Int32) (gA G_7 701 o0 x1.toNatClampNeg) G_7) (fun r_10 G_9 => if tin x1 6 then (if (gA G_9 504 (gR G_9 700 (o0)) x1.toNatClampNeg) = (1 : Int32) then (if tin x1 6 then (let z_11 : Int32 := if (gA G_9 701 o0 x1.toNatClampNeg) < ((2 : Int32) * r_10) then (gA G_9 701 o0 x1.toNatClampNeg) else ((2 : Int32) * r_10)
  V_X7_spareTown_98 o0 x1 z_11 G_9) else none)
  else V_X7_spareTown_98 o0 x1 r_10 G_9) else none)) else none)) else none) else none) else none)
  else some (some (vI (-1 : Int32)), G_5)))) := (tgo 88 rfl sk_X7_spareTown rfl).trans rfl
theorem e_X7_spareTown_98 (o0 : Nat) (x1 : Int32) (x3 : Int32) (G : tH) : V_X7_spareTown_98 o0 x1 x3 G = if tin x1 6 then (if tin x1 6 then (let G_1 := sA G 701 o0 (upd (gA G 701 o0) x1.toNatClampNeg ((gA G 701 o0 x1.toNatClampNeg) - x3))
  if tin (gI G_1 710 (o0)) 5 then (if tin (gI G_1 710 (o0)) 5 then (let G_2 := sA G_1 706 o0 (upd (gA G_1 706 o0) (gI G_1 710 (o0)).toNatClampNeg ((gA G_1 706 o0 (gI G_1 710 (o0)).toNatClampNeg) + x3))
  let G_3 := sI G_2 708 (o0) ((gI G_2 708 (o0)) ||| ((1 : Int32) <<< (x1 &&& 31)))
  some (some (vI x3), G_3)) else none) else none) else none) else none := (tgo 88 rfl sk_X7_spareTown rfl).trans rfl
def st_X7_bribeJuror : List (Nat × List Bool) := []
theorem sk_X7_bribeJuror : ∀ pc bs, tstop st_X7_bribeJuror pc = some bs → ∃ a, k_X7_bribeJuror pc = some (aMk bs a) := tstop_ok (fun _ h => absurd h List.not_mem_nil)
theorem e_X7_bribeJuror (o0 : Nat) (x1 : Int32) (G : tH) : V_X7_bribeJuror o0 x1 G = tbI (V_X7_isHeld o0 G) (fun r_2 G_1 => if r_2 = 0 then some (some (vI (0 : Int32)), G_1)
  else tbI (V_X6_has (4 * (gR G_1 700 (o0)) + 3) x1 G_1) (fun r_4 G_3 => if r_4 = 0 then some (some (vI (0 : Int32)), G_3)
  else tbI (V_X7_isBribed o0 x1 G_3) (fun r_6 G_5 => if r_6 = 0 then (if tin x1 5 then (if tin (gI G_5 710 (o0)) 5 then (if (gA G_5 706 o0 (gI G_5 710 (o0)).toNatClampNeg) < (gA G_5 511 (gR G_5 700 (o0)) x1.toNatClampNeg) then some (some (vI (0 : Int32)), G_5)
  else if tin (gI G_5 710 (o0)) 5 then (if tin x1 5 then (if tin (gI G_5 710 (o0)) 5 then (let G_7 := sA G_5 706 o0 (upd (gA G_5 706 o0) (gI G_5 710 (o0)).toNatClampNeg ((gA G_5 706 o0 (gI G_5 710 (o0)).toNatClampNeg) - (gA G_5 511 (gR G_5 700 (o0)) x1.toNatClampNeg)))
  let G_8 := sI G_7 709 (o0) ((gI G_7 709 (o0)) ||| ((1 : Int32) <<< (x1 &&& 31)))
  some (some (vI (1 : Int32)), G_8)) else none) else none) else none) else none) else none)
  else some (some (vI (0 : Int32)), G_5)))) := (tgo 54 rfl sk_X7_bribeJuror rfl).trans rfl
def st_X7_letsGo : List (Nat × List Bool) := [(58, [true, true, false])]
theorem sk_X7_letsGo : ∀ pc bs, tstop st_X7_letsGo pc = some bs → ∃ a, k_X7_letsGo pc = some (aMk bs a) := tstop_ok (List.forall_mem_cons.mpr ⟨⟨_, rfl⟩, fun _ h => absurd h List.not_mem_nil⟩)
theorem e_X7_letsGo (o0 : Nat) (x1 : Int32) (G : tH) : V_X7_letsGo o0 x1 G = tbI (V_X7_isHeld o0 G) (fun r_2 G_1 => if r_2 = 0 then some (some (vI (0 : Int32)), G_1)
  else tbI (V_X6_has (4 * (gR G_1 700 (o0)) + 3) x1 G_1) (fun r_4 G_3 => if r_4 = 0 then some (some (vI (0 : Int32)), G_3)
  else if tin (gI G_3 710 (o0)) 5 then (if (gA G_3 506 (gR G_3 700 (o0)) (gI G_3 710 (o0)).toNatClampNeg) = (3 : Int32) then V_X7_letsGo_58 o0 x1 ((2 : Int32) * (gI G_3 513 (gR G_3 700 (o0)))) G_3
  else V_X7_letsGo_58 o0 x1 (gI G_3 513 (gR G_3 700 (o0))) G_3) else none)) := (tgo 54 rfl sk_X7_letsGo rfl).trans rfl
theorem e_X7_letsGo_58 (o0 : Nat) (x1 : Int32) (s0 : Int32) (G : tH) : V_X7_letsGo_58 o0 x1 s0 G = if tin x1 5 then (if (gA G 510 (gR G 700 (o0)) x1.toNatClampNeg) = (gI G 710 (o0)) then some (some (vI (1 : Int32)), G)
  else tbI (V_X7_isBribed o0 x1 G) (fun r_2 G_1 => if r_2 = 0 then (if s0 < (gI G_1 713 (o0)) then some (some (vI (0 : Int32)), G_1)
  else some (some (vI (1 : Int32)), G_1))
  else some (some (vI (1 : Int32)), G_1))) else none := (tgo 54 rfl sk_X7_letsGo rfl).trans rfl
def st_X7_friends : List (Nat × List Bool) := [(4, [true, true, true])]
theorem sk_X7_friends : ∀ pc bs, tstop st_X7_friends pc = some bs → ∃ a, k_X7_friends pc = some (aMk bs a) := tstop_ok (List.forall_mem_cons.mpr ⟨⟨_, rfl⟩, fun _ h => absurd h List.not_mem_nil⟩)
theorem e_X7_friends (o0 : Nat) (G : tH) : V_X7_friends o0 G = V_X7_friends_4 o0 (0 : Int32) (0 : Int32) G := (tgo 29 rfl sk_X7_friends rfl).trans rfl
theorem e_X7_friends_4 (o0 : Nat) (x1 : Int32) (x2 : Int32) (G : tH) : V_X7_friends_4 o0 x1 x2 G = if x2 < (gI G 601 (4 * (gR G 700 (o0)) + 3)) then (tbI (V_X7_letsGo o0 x2 G) (fun r_2 G_1 => if r_2 = 0 then V_X7_friends_4 o0 x1 (x2 + (1 : Int32)) G_1
  else V_X7_friends_4 o0 (x1 ||| ((1 : Int32) <<< (x2 &&& 31))) (x2 + (1 : Int32)) G_1))
  else some (some (vI x1), G) := (tgo 29 rfl sk_X7_friends rfl).trans rfl
def st_X7_isEnough : List (Nat × List Bool) := []
theorem sk_X7_isEnough : ∀ pc bs, tstop st_X7_isEnough pc = some bs → ∃ a, k_X7_isEnough pc = some (aMk bs a) := tstop_ok (fun _ h => absurd h List.not_mem_nil)
theorem e_X7_isEnough (o0 : Nat) (x1 : Int32) (G : tH) : V_X7_isEnough o0 x1 G = tbI (V_J6_bitCount_0f7a4 x1 G) (fun r_2 G_1 => if ((2 : Int32) * r_2) < (gI G_1 601 (4 * (gR G_1 700 (o0)) + 3)) then some (some (vI (0 : Int32)), G_1)
  else some (some (vI (1 : Int32)), G_1)) := (tgo 18 rfl sk_X7_isEnough rfl).trans rfl
