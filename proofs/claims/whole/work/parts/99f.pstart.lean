/-! PURE: a province: the beginnings of both, the joint run -/
theorem c_start {z : mZ} {G : tH} (hz : okZ z) (h : T4 G z) : ∃ G', V_X8_start G = some (none, G') ∧ CT G' z 0 ∧ gI G' 808 0 = nI 0 ∧ tfr (fun f _ => 802 ≤ f ∧ f ≤ 808) G G' := by
  have hT : T4 (sI (sI G 802 0 (nI 0)) 808 0 (nI 0)) z := ⟨by rw [gI_ne (by omega), gI_ne (by omega)]; exact h.1, h.2⟩
  obtain ⟨G', e, h1, f1⟩ := c_advp (p := 0) hz (Nat.zero_le _) hT (by rw [gI_ne (by omega), gI_eq])
  refine ⟨G', ?_, h1, ?_, (tfrI (tfr.sI (by omega)) (by omega)).tr (f1.mono fun f o w => by unfold zTk at w; omega)⟩
  · rw [e_X8_start]
    dsimp only
    rw [e, tbV_v]
  · rw [(f1 808 0 (by unfold zTk; omega)).1, gI_eq]
def pr0 : mP := fun r i => if r = 8 then (if i = 0 then 10 else 0) else 0
theorem pr0_c (j : Nat) : cntP pr0 j = 0 := by
  show (if (8 : Nat) = 8 then (if 2 + j = 0 then 10 else 0) else 0) = 0
  rw [if_pos rfl, if_neg (by omega)]
theorem pr0_ok : okP pr0 := by
  have c0 : nT pr0 = 0 := rfl
  have c1 : nC pr0 = 0 := rfl
  have c2 : nH pr0 = 0 := rfl
  have c3 : nJ pr0 = 0 := rfl
  refine ⟨by omega, by omega, by omega, by omega, by decide, by decide, fun t ht => by omega, fun t ht => by omega, fun t ht => by omega, fun t ht => by omega⟩
theorem pr0_nu (nm : Nat → Nat → List Nat) : NU (cntP pr0) nm := by
  refine ⟨by rw [pr0_c]; omega, by rw [pr0_c]; omega, by rw [pr0_c]; omega, by rw [pr0_c]; omega, fun j i _ hi => by rw [pr0_c] at hi; omega, fun j i j' i' _ hi => by rw [pr0_c] at hi; omega⟩
theorem be_l {G : tH} {q : Nat} {c : mC} : CL (addG (sI G 201 q (nI 0)) q 0 (stp c)) q [c] := by
  refine ⟨gI_eq, fun i hi => ?_⟩
  have hi : i < 1 := hi
  unfold addG
  rw [show i = 0 by omega, gA_sI, gA_eq, upd_eq]
  rfl
theorem c_beN {G : tH} {q : Nat} : V_X2_beNumber q (nI 20) G = some (none, addG (sI G 201 q (nI 0)) q 0 (stp (1, 20))) := by
  rw [e_X2_beNumber]
  dsimp only
  rw [show nI 20 = stp (1, 20) from rfl, c_add (n := 0) gI_eq (by omega), tbV_v]
theorem c_beD {G : tH} {q : Nat} : V_X2_beDebt q G = some (none, addG (sI G 201 q (nI 0)) q 0 (stp (2, 2))) := by
  rw [e_X2_beDebt]
  dsimp only
  rw [show (-11 : Int32) = stp (2, 2) by decide +kernel, c_add (n := 0) gI_eq (by omega), tbV_v]
def zCl (p : Nat) : Nat → Nat → Prop := fun f o => (500 ≤ f ∧ f < 600 ∧ o = p) ∨ (f = 601 ∧ o / 4 = p) ∨ ((f = 200 ∨ f = 201) ∧ o / 2 = p)
theorem c_clear {G : tH} {p : Nat} {nm : Nat → Nat → List Nat} : ∃ G', V_X5_clear p G = some (none, G') ∧ DC G' p pr0 nm 0 ∧ CL G' (2 * p + 0) [(1, 20)] ∧ CL G' (2 * p + 1) [(2, 2)] ∧ tfr (zCl p) G G' := by
  obtain ⟨G6, hG6⟩ : ∃ g, g = sI (sI (sI (sI (sI (sI G 601 (4 * p + 0) (nI 0)) 601 (4 * p + 1) (nI 0)) 601 (4 * p + 2) (nI 0)) 601 (4 * p + 3) (nI 0)) 512 p (nI 10)) 513 p (nI 0) := ⟨_, rfl⟩
  obtain ⟨G7, hG7⟩ : ∃ g, g = addG (sI G6 201 (2 * p + 0) (nI 0)) (2 * p + 0) 0 (stp (1, 20)) := ⟨_, rfl⟩
  obtain ⟨G8, hG8⟩ : ∃ g, g = addG (sI G7 201 (2 * p + 1) (nI 0)) (2 * p + 1) 0 (stp (2, 2)) := ⟨_, rfl⟩
  have f6 : tfr (zCl p) G G6 := by
    rw [hG6]
    exact tfrI (tfrI (tfrI (tfrI (tfrI (tfr.sI (by unfold zCl; omega)) (by unfold zCl; omega)) (by unfold zCl; omega)) (by unfold zCl; omega)) (by unfold zCl; omega)) (by unfold zCl; omega)
  have f7 : tfr (fun f o => (f = 200 ∨ f = 201) ∧ o = 2 * p + 0) G6 G7 := by rw [hG7]; exact (tfr.sI ⟨Or.inr rfl, rfl⟩).tr add_fr
  have f8 : tfr (fun f o => (f = 200 ∨ f = 201) ∧ o = 2 * p + 1) G7 G8 := by rw [hG8]; exact (tfr.sI ⟨Or.inr rfl, rfl⟩).tr add_fr
  have f68 : tfr (fun f _ => f = 200 ∨ f = 201) G6 G8 := (f7.mono fun f o w => w.1).tr (f8.mono fun f o w => w.1)
  have l7 : CL G7 (2 * p + 0) [(1, 20)] := by rw [hG7]; exact be_l
  have l8 : CL G8 (2 * p + 1) [(2, 2)] := by rw [hG8]; exact be_l
  have f9 : tfr (fun f o => f = 516 ∧ o = p) G8 (sI G8 516 p (nI 0)) := tfr.sI ⟨rfl, rfl⟩
  have g601 : ∀ j, j < 4 → gI G6 601 (4 * p + j) = nI 0 := by
    intro j hj
    rw [hG6, gI_ne (by omega), gI_ne (by omega)]
    rcases (show j = 0 ∨ j = 1 ∨ j = 2 ∨ j = 3 by omega) with e | e | e | e <;> subst e
    · rw [gI_no (by omega), gI_no (by omega), gI_no (by omega), gI_eq]
    · rw [gI_no (by omega), gI_no (by omega), gI_eq]
    · rw [gI_no (by omega), gI_eq]
    · rw [gI_eq]
  refine ⟨sI G8 516 p (nI 0), ?_, ⟨fun j hj => ⟨?_, fun i hi => by rw [pr0_c] at hi; omega⟩, ?_, ?_, ?_⟩, ?_, ?_, ?_⟩
  · rw [e_X5_clear]
    dsimp only
    rw [← hG6, c_beN, tbV_v, ← hG7, c_beD, tbV_v, ← hG8]
  · rw [gI_ne (by omega), (f68 601 _ (by omega)).1, g601 j hj, pr0_c]
  · rw [gI_ne (by omega), (f68 512 _ (by omega)).1, hG6, gI_ne (by omega), gI_eq]; rfl
  · rw [gI_ne (by omega), (f68 513 _ (by omega)).1, hG6, gI_eq]; rfl
  · rw [gI_eq]
  · exact (l7.kept f8 (by omega) (by omega)).kept f9 (by omega) (by omega)
  · exact l8.kept f9 (by omega) (by omega)
  · exact tfrI (f6.tr (((f7.mono fun f o w => by unfold zCl; omega).tr (f8.mono fun f o w => by unfold zCl; omega)))) (by unfold zCl; omega)
def zRq : Nat → Nat → Prop := fun f _ => f = 1100 ∨ (1102 ≤ f ∧ f ≤ 1108) ∨ (1110 ≤ f ∧ f ≤ 1113) ∨ f = 1115 ∨ f = 1117 ∨ f = 1119 ∨ f = 1120
/-- what the reference keeps while it reads -/
def RKP (G G' : tH) : Prop := tfr zRq G G' ∧ (∀ i, i < 60 → gA G' 1110 0 i = gA G 1110 0 i) ∧ (∀ i, i < 1100 → gA G' 1111 0 i = gA G 1111 0 i ∧ gA G' 1112 0 i = gA G 1112 0 i) ∧ gI G' 1102 0 = nI 0
theorem CUT.rt {G G' : tH} {z : mZ} {N : Nat} (hz : okZ z) (h : CUT G G' z N) (hW : RW G') : TK z N ∧ RT G' z N 0 := ⟨⟨hz, h.1, h.2.1, h.2.2.1⟩, ⟨h.2.2.2.1, Nat.zero_le _, h.2.2.2.2.1, h.2.2.2.2.2.1, hW⟩⟩
theorem r_cutS {z : mZ} {G : tH} (hz : okZ z) (hS : S4 G z) (hW : RW G) : ∃ N G', V_X11_cutAll (sI G 1100 0 (nI 0)) = some (none, G') ∧ TK z N ∧ RT G' z N 0 ∧ gI G' 1102 0 = nI 0 ∧ tfr (fun f _ => f = 1100 ∨ (1102 ≤ f ∧ f ≤ 1108)) G G' := by
  have hS1 : S4 (sI G 1100 0 (nI 0)) z := ⟨by rw [gI_ne (by omega)]; exact hS.1, hS.2⟩
  obtain ⟨N, G', e, c⟩ := r_cutAll hz hS1
  have hf := c.2.2.2.2.2.2
  have f1 : tfr (fun f _ => f = 1100 ∨ (1102 ≤ f ∧ f ≤ 1108)) G G' := (tfrI (tfrI (tfr.sI (by omega)) (by omega)) (by omega)).tr (hf.mono fun f o w => by unfold zCut at w; omega)
  obtain ⟨t1, t2⟩ := c.rt hz (hW.kept f1 (by omega))
  refine ⟨N, G', e, t1, t2, ?_, f1⟩
  rw [(hf 1102 0 (by unfold zCut; omega)).1, gI_eq]
theorem r_pstart {z : mZ} {G : tH} {nm : Nat → Nat → List Nat} (hz : okZ z) (hS : S4 G z) (hW : RW G) : ∃ N G', V_X11_province G = V_X11_province_30 G' ∧ TK z N ∧ RT G' z N 0 ∧ DR G' pr0 nm 0 0 ∧ gI G' 1113 0 = nI 0 ∧ gA G' 1110 0 66 = -1 ∧ gA G' 1110 0 67 = -1 ∧ RKP G G' := by
  obtain ⟨N, G2, e2, t1, t2, g2, f2⟩ := r_cutS hz hS hW
  obtain ⟨G5, hG5⟩ : ∃ g, g = sI (sI (sI G2 1113 0 (nI 0)) 1119 0 (nI 0)) 1120 0 (nI 0) := ⟨_, rfl⟩
  obtain ⟨a', e6, h1, h3⟩ := r_stands (b := 60) (by omega) (G := G5)
  have f5 : tfr (fun f _ => f = 1113 ∨ f = 1119 ∨ f = 1120) G2 G5 := by rw [hG5]; exact tfrI (tfrI (tfr.sI (by omega)) (by omega)) (by omega)
  have f6 : tfr (fun f _ => f = 1110) G5 (sA G5 1110 0 a') := tfr.sA rfl
  refine ⟨N, sA G5 1110 0 a', ?_, t1, (t2.kept f5 (fun f _ _ => by omega)).kept f6 (fun f _ _ => by omega), ⟨fun j hj => ⟨?_, fun i hi => by rw [pr0_c] at hi; omega⟩, ?_, ?_, ?_, ?_, ⟨by omega, fun k hk => by omega, fun j i hj hi => by rw [pr0_c] at hi; omega⟩, by rw [pr0_c, pr0_c, pr0_c, pr0_c]⟩, ?_, ?_, ?_, ?_, fun i hi => ?_, fun i _ => ?_, ?_⟩
  · rw [e_X11_province]
    dsimp only
    rw [e2, tbV_v]
    rw [← hG5, e6, tbV_v]
  · rw [gA_eq, h1 _ (by omega) (by omega), if_neg (by omega), if_neg (by omega), if_neg (by omega), pr0_c]
  · rw [gA_eq, h1 _ (by omega) (by omega), if_pos rfl]; rfl
  · rw [gA_eq, h1 _ (by omega) (by omega), if_neg (by omega), if_neg (by omega), if_neg (by omega)]; rfl
  · rw [gI_sA, hG5, gI_eq]
  · rw [gI_sA, hG5, gI_ne (by omega), gI_eq]
  · rw [gI_sA, hG5, gI_ne (by omega), gI_ne (by omega), gI_eq]
  · rw [gA_eq, h1 _ (by omega) (by omega), if_neg (by omega), if_pos rfl]
  · rw [gA_eq, h1 _ (by omega) (by omega), if_neg (by omega), if_neg (by omega), if_pos rfl]
  · exact ((f2.mono fun f o w => by unfold zRq; omega).tr (f5.mono fun f o w => by unfold zRq; omega)).tr (f6.mono fun f o w => by unfold zRq; omega)
  · rw [gA_eq, h3 i (by omega), (f5 1110 0 (by omega)).2.2.2.1, (f2 1110 0 (by omega)).2.2.2.1]
  · rw [(f6 1111 0 (by omega)).2.2.2.1, (f6 1112 0 (by omega)).2.2.2.1, (f5 1111 0 (by omega)).2.2.2.1, (f5 1112 0 (by omega)).2.2.2.1, (f2 1111 0 (by omega)).2.2.2.1, (f2 1112 0 (by omega)).2.2.2.1]
    exact ⟨rfl, rfl⟩
  · rw [gI_sA, (f5 1102 0 (by omega)).1]; exact g2
theorem RKP.fp {p : Nat} {G Gc Gr Gc' Gr' : tH} (h : RKP G Gr) (h2 : FP p Gc Gr Gc' Gr') : RKP G Gr' := by
  obtain ⟨a1, a2, a3, a4⟩ := h
  obtain ⟨b1, b2, b3, b4⟩ := h2
  refine ⟨a1.tr (b2.mono fun f o w => by unfold zPr at w; unfold zRq; omega), fun i hi => (b3 i hi).trans (a2 i hi), fun i hi => ⟨(b4 i hi).1.trans (a3 i hi).1, (b4 i hi).2.trans (a3 i hi).2⟩, ?_⟩
  rw [(b2 1102 0 (by unfold zPr; omega)).1]; exact a4
/-- both read a province -/
theorem prov_joint {z : mZ} {p : Nat} {Gc Gr : tH} (hz : okZ z) (hc : T4 Gc z) (hS : S4 Gr z) (hW : RW Gr) : (∃ Gc' Gr' N k pr nm ob mn cd, tbV (V_X8_start Gc) (fun G1 => V_X5_tellFrom p G1) = some (some (vI (nI 1)), Gc') ∧ V_X11_province Gr = V_X11_province_62 Gr' ∧ TK z N ∧ PV z N p Gc' Gr' k pr nm ob mn cd ∧ tfr (zPc p) Gc Gc' ∧ RKP Gr Gr') ∨ (∃ Gc' Gr' v, tbV (V_X8_start Gc) (fun G1 => V_X5_tellFrom p G1) = some (some (vI (nI 0)), Gc') ∧ gI Gc' 808 0 = nI v ∧ V_X11_province Gr = V_X11_province_62 Gr' ∧ RF Gr' v ∧ tfr (zPc p) Gc Gc' ∧ RKP Gr Gr') := by
  obtain ⟨Gc1, e1, c1, c10, f1⟩ := c_start hz hc
  obtain ⟨Gc2, e2, d2, l20, l21, f2⟩ := c_clear (G := Gc1) (p := p) (nm := fun _ _ => [])
  obtain ⟨N, Gr2, e3, hT, hR, hD, h13, h66, h67, hK⟩ := r_pstart (nm := fun _ _ => []) hz hS hW
  have f12 : tfr (zPc p) Gc Gc2 := (f1.mono fun f o w => by unfold zPc; omega).tr (f2.mono fun f o w => by unfold zCl at w; unfold zPc; omega)
  have hP : PV z N p Gc2 Gr2 0 pr0 (fun _ _ => []) 0 0 0 := by
    refine ⟨c1.kept f2 (fun f _ _ => by unfold zCl; omega), ?_, hR, d2, hD, pr0_ok, pr0_nu _, by omega, h13, by omega, ⟨[(1, 20)], l20, by decide, fun x hx => ?_, by decide, Or.inl ⟨h66, rfl⟩⟩, ⟨[(2, 2)], l21, by decide, fun x hx => ?_, by decide, Or.inl ⟨h67, rfl⟩⟩⟩
    · rw [(f2 808 0 (by unfold zCl; omega)).1]; exact c10
    · rw [List.mem_singleton.mp hx]; exact Or.inl ⟨rfl, by decide⟩
    · rw [List.mem_singleton.mp hx]; exact Or.inr (Or.inl ⟨rfl, by decide⟩)
  have ec : tbV (V_X8_start Gc) (fun G1 => V_X5_tellFrom p G1) = V_X5_tellFrom_6 p (nI 0) Gc2 := by rw [e1, tbV_v, e_X5_tellFrom, e2, tbV_v]
  rw [ec, e3]
  rcases pair_all hT _ 0 0 Gc2 Gr2 _ _ _ _ _ (Nat.le_refl _) hP (Nat.le_refl _) FP.rf with ⟨Gc', Gr', k', pr', nm', ob', mn', cd', a1, a2, a3, a4⟩ | ⟨Gc', Gr', v, a1, a2, a3, a4, a5⟩
  · exact Or.inl ⟨Gc', Gr', N, k', pr', nm', ob', mn', cd', a1, a2, hT, a3, f12.tr a4.1, hK.fp a4⟩
  · exact Or.inr ⟨Gc', Gr', v, a1, a2, a3, a4, f12.tr a5.1, hK.fp a5⟩
