/-! PURE: past: both answer alike -/
theorem r_cp131 {n : Nat} (hn : n ≤ 40) {G : tH} : ∀ m i a, i + m = 3 * n → ∃ a', V_X11_past_131 (nI n) (nI i) (sA G 1121 0 a) = some (some (vI (nI 0)), sA G 1121 0 a') ∧ (∀ k, i ≤ k → k < 3 * n → a' (1 + k) = a (125 + k)) ∧ ∀ k, k < 1 + i ∨ 1 + 3 * n ≤ k → a' k = a k := by
  intro m
  induction m with
  | zero =>
    intro i a hi
    refine ⟨a, ?_, fun k h1 h2 => by omega, fun k _ => rfl⟩
    rw [e_X11_past_131, pk_mul, tltM (by omega) (by omega) (by omega)]
  | succ m ih =>
    intro i a hi
    obtain ⟨a', e, h1, h2⟩ := ih (i + 1) (upd a (1 + i) (a (125 + i))) (by omega)
    refine ⟨a', ?_, fun k h3 h4 => ?_, fun k h3 => ?_⟩
    · rw [e_X11_past_131, pk_mul, tltP (by omega) (by omega) (by omega), nI_add, nI_add, nI_add, ttin (by omega) (by omega), ttin (by omega) (by omega), nI_clamp (by omega), nI_clamp (by omega), gA_eq]
      dsimp only
      rw [sA_sA]
      exact e
    · by_cases w : k = i
      · rw [h2 _ (by omega), w, upd_eq]
      · rw [h1 k (by omega) h4, upd_ne (by omega)]
    · rw [h2 k (by omega), upd_ne (by omega)]
/-- what the reference keeps while it reads a past -/
def RKW (G G' : tH) : Prop := tfr (fun f _ => f = 1100 ∨ (1102 ≤ f ∧ f ≤ 1108) ∨ f = 1121) G G' ∧ (∀ i, i < 125 → gA G' 1121 0 i = gA G 1121 0 i) ∧ gI G' 1102 0 = nI 0
theorem past_joint {z : mZ} {o p : Nat} {pr : mP} {nm : Nat → Nat → List Nat} {Gc Gr : tH} (hz : okZ z) (hU : NU (cntP pr) nm) (hc : T4 Gc z) (hS : S4 Gr z) (hW : RW Gr) (hNC : ∀ j, j < 4 → NC Gc (4 * p + j) (cntP pr j) (nm j)) (hNR : ∃ mn, gI Gr 1118 0 = nI mn ∧ NR (gB Gr 1114 0) (gA Gr 1116 0) mn (cntP pr) nm) : (∃ Gc' Gr' N k n L, tbV (V_X8_start Gc) (fun G1 => V_X4_tellFrom o p G1) = some (some (vI (nI 1)), Gc') ∧ V_X11_past Gr = V_X11_past_110 (nI n) Gr' ∧ PW z N o p pr nm Gc' Gr' k n L ∧ tfr (zWb o) Gc Gc' ∧ RKW Gr Gr') ∨ (∃ v Gc' Gr' n, tbV (V_X8_start Gc) (fun G1 => V_X4_tellFrom o p G1) = some (some (vI (nI 0)), Gc') ∧ gI Gc' 808 0 = nI v ∧ V_X11_past Gr = V_X11_past_110 (nI n) Gr' ∧ RF Gr' v ∧ tfr (zWb o) Gc Gc' ∧ RKW Gr Gr') := by
  obtain ⟨Gc1, e1, c1, c10, f1⟩ := c_start hz hc
  obtain ⟨N, Gr2, e2, hT, hR, g2, f2⟩ := r_cutS hz hS hW
  have f12 : tfr (fun f o' => (802 ≤ f ∧ f ≤ 808) ∨ (f = 400 ∧ o' = o)) Gc (sI Gc1 400 o (nI 0)) := tfrI (f1.mono fun f o w => Or.inl w) (Or.inr ⟨rfl, rfl⟩)
  have hP : PW z N o p pr nm (sI Gc1 400 o (nI 0)) Gr2 0 0 (fun _ _ => 0) := by
    refine ⟨c1.kept (tfr.sI (S := fun f o' => f = 400 ∧ o' = o) ⟨rfl, rfl⟩) (fun f _ _ => by omega), ?_, hR, gI_eq, by omega, fun i hi => by omega, fun i hi => by omega, fun i hi => by omega, fun j hj => (hNC j hj).kept f12 (by omega) (by omega), ?_⟩
    · rw [gI_ne (by omega)]; exact c10
    · obtain ⟨mn, b1, b2⟩ := hNR
      refine ⟨mn, ?_, ?_⟩
      · rw [(f2 1118 0 (by omega)).1]; exact b1
      · rw [(f2 1114 0 (by omega)).2.2.2.2, (f2 1116 0 (by omega)).2.2.2.1]; exact b2
  have ec : tbV (V_X8_start Gc) (fun G1 => V_X4_tellFrom o p G1) = V_X4_tellFrom_7 o p (nI 0) (sI Gc1 400 o (nI 0)) := by rw [e1, tbV_v, e_X4_tellFrom]
  have er : V_X11_past Gr = V_X11_past_11 (nI 0) Gr2 := by
    rw [e_X11_past]
    dsimp only
    rw [e2, tbV_v]
  have kw : ∀ Gc' Gr', FW o (sI Gc1 400 o (nI 0)) Gr2 Gc' Gr' → tfr (zWb o) Gc Gc' ∧ RKW Gr Gr' := fun Gc' Gr' h => ⟨(f12.mono fun f o w => by unfold zWb; omega).tr h.1, (f2.mono fun f o w => by omega).tr (h.2.1.mono fun f o w => by omega), fun i hi => by rw [h.2.2 i hi, (f2 1121 0 (by omega)).2.2.2.1], by rw [(h.2.1 1102 0 (by omega)).1]; exact g2⟩
  rw [ec, er]
  rcases past_all hT hU _ 0 0 0 _ _ _ (Nat.le_refl _) hP (Nat.le_refl _) FW.rf with ⟨Gc', Gr', k', n', L', a1, a2, a3, a4⟩ | ⟨v, Gc', Gr', n', a1, a2, a3, a4, a5⟩
  · exact Or.inl ⟨Gc', Gr', N, k', n', L', a1, a2, a3, (kw _ _ a4).1, (kw _ _ a4).2⟩
  · exact Or.inr ⟨v, Gc', Gr', n', a1, a2, a3, a4, (kw _ _ a5).1, (kw _ _ a5).2⟩
theorem p_past {G : tH} (h : INV G) : PAIR (V_X10_past) (V_X11_past) G := by
  obtain ⟨p, fr, q, pr, lw, σ, τ, ν, L, tx, nm, hM, hN, hC, hR⟩ := id h
  obtain ⟨ho, hs, hu, hM4, hM5, hM6, hM7, hM8, hM9, hM10, hM11, hM12⟩ := id hM
  have k0 : okZ (ν 3, tx) := ⟨hM11, hM12⟩
  have hT4 : T4 G (ν 3, tx) := hC.2.2.2.1
  have hq : q ≤ 1 := hC.2.2.1.1
  have g1 : gR G 1001 0 = p := hC.1.2.1
  have g3 : gR G 1003 0 = q := hC.2.2.1.2.1
  have g4 : gR G 1004 0 = 1 - q := hC.2.2.1.2.2.1
  have hU : NU (cntP pr) nm := ⟨ho.1, ho.2.1, ho.2.2.1, ho.2.2.2.1, hN.1, hN.2⟩
  have hNC : ∀ j, j < 4 → NC G (4 * p + j) (cntP pr j) (nm j) := by
    intro j hj
    refine ⟨?_, ?_, fun i hi => ⟨hC.2.2.2.2 j i hj hi, hN.1 j i hj hi⟩⟩
    · obtain ⟨b1, b2, b3, b4, _⟩ := hC.1.2.2.2.1
      rcases (show j = 0 ∨ j = 1 ∨ j = 2 ∨ j = 3 by omega) with e | e | e | e <;> subst e
      · exact b1
      · exact b2
      · exact b3
      · exact b4
    · rw [tal_mx hj]
      rcases (show j = 0 ∨ j = 1 ∨ j = 2 ∨ j = 3 by omega) with e | e | e | e <;> subst e
      · exact ho.1
      · exact ho.2.1
      · exact ho.2.2.1
      · exact ho.2.2.2.1
  have nrOf : ∀ G', R5 G' pr nm → ∃ mn, gI G' 1118 0 = nI mn ∧ NR (gB G' 1114 0) (gA G' 1116 0) mn (cntP pr) nm := fun G' ⟨mn, b1, b2, b3, b4⟩ => ⟨mn, b2, b1, b3, b4⟩
  have e0 : V_X10_past G = tbI (tbV (V_X8_start G) (fun G1 => V_X4_tellFrom (1 - q) p G1)) (fun r_3 G_2 => tif (r_3 = 0) (V_X10_past_43 G_2) (V_X10_past_43 (sR (sR G_2 1003 0 (gR G_2 1004 0)) 1004 0 (gR G_2 1003 0)))) := by
    obtain ⟨G1, e1, c1, c2, f1⟩ := c_start k0 hT4
    rw [e_X10_past, e1, tbV_v, tbV_v, (f1 1004 0 (by omega)).2.2.1, (f1 1001 0 (by omega)).2.2.1, g4, g1]
  have icK : ∀ (G1 : tH) (S : Nat → Nat → Prop), tfr S G G1 → (∀ f o, S f o → (802 ≤ f ∧ f ≤ 808) ∨ ((400 ≤ f ∧ f ≤ 403) ∧ o = 1 - q) ∨ f = 801 ∨ f = 1003 ∨ f = 1004) → C1 G1 p fr pr lw σ (uX ν 3 0) ∧ C2 G1 τ (uX ν 3 0) ∧ C5 G1 p pr nm := by
    intro G1 S hf hS
    have c1 : C1 G1 p fr pr lw σ ν := hC.1.kept hf (fun f o w => by have := hS f o w; omega)
    refine ⟨?_, (hC.2.1.kept hf (fun f o w => by have := hS f o w; omega)).nu (uX_ne (by omega)), hC.2.2.2.2.kept hf (fun f o w => by have := hS f o w; omega)⟩
    exact c1
  rcases past_joint (o := 1 - q) (Gr := G) k0 hU hT4 hR.2.2.2.1 hR.2.2.2.2.2 hNC (nrOf G hR.2.2.2.2.1) with ⟨Gc, Gr0, N0, j0, n0, L0, a1, _, a3, a5, _⟩ | ⟨v0, Gc, Gr0, n0, a1, a2, _, a4, a5, _⟩
  · obtain ⟨Gf, hGf⟩ : ∃ g, g = sI (sR (sR Gc 1003 0 (gR Gc 1004 0)) 1004 0 (gR Gc 1003 0)) 801 0 (nI 0) := ⟨_, rfl⟩
    have gc3 : gR Gc 1003 0 = q := by rw [(a5 1003 0 (by unfold zWb; omega)).2.2.1]; exact g3
    have gc4 : gR Gc 1004 0 = 1 - q := by rw [(a5 1004 0 (by unfold zWb; omega)).2.2.1]; exact g4
    have ff : tfr (fun f _ => f = 801 ∨ f = 1003 ∨ f = 1004) Gc Gf := by rw [hGf]; exact tfrI (tfrR (tfr.sR (by omega)) (by omega)) (by omega)
    have g808 : gI (sR (sR Gc 1003 0 (gR Gc 1004 0)) 1004 0 (gR Gc 1003 0)) 808 0 = nI 0 := a3.2.1
    have ec : V_X10_past G = some (some (vI (nI 0)), Gf) := by
      rw [e0, a1, tbI_v, tn1, e_X10_past_43, c_empty g808, tbI_v, hGf]
    have fcl : tfr zCls G Gf := (a5.mono fun f o w => by unfold zWb at w; unfold zCls; omega).tr (ff.mono fun f o w => by unfold zCls; omega)
    have hRf := hR.kept fcl
    rcases past_joint (o := 1 - q) (Gr := Gf) k0 hU hT4 hRf.2.2.2.1 hRf.2.2.2.2.2 hNC (nrOf Gf hRf.2.2.2.2.1) with ⟨Gc', Gr', N', j', n', L', c1, c2, c3, c5, c6⟩ | ⟨v', Gc', Gr', n', c1, c2, c3, c4, c5, c6⟩
    · rw [a1] at c1
      have ee : Gc = Gc' := congrArg Prod.snd (Option.some.inj c1)
      subst ee
      obtain ⟨p1, p2, p3, p4, p5, p6, p7, p8, p9, p10⟩ := c3
      obtain ⟨k1, k2, k3⟩ := c6
      obtain ⟨a', e7, x1, x2⟩ := r_cp131 (n := n') p5 (G := Gr') (3 * n') 0 (upd (gA Gr' 1121 0) 0 (nI n')) (by omega)
      have er : V_X11_past Gf = some (some (vI (nI 0)), sA Gr' 1121 0 a') := by
        rw [c2, e_X11_past_110, p3.2.2.2.1, tl0M rfl, ttin (by omega) (by omega), nI_clamp (by omega)]
        exact e7
      have frz : tfr (fun f _ => f = 1100 ∨ (1102 ≤ f ∧ f ≤ 1108) ∨ f = 1121) Gf (sA Gr' 1121 0 a') := tfrA k1 (by omega)
      obtain ⟨d1, d2, d5⟩ := icK Gf _ ((a5.mono fun f o w => Or.inl w).tr (ff.mono fun f o w => Or.inr w)) (fun f o w => by rcases w with w | w <;> (try unfold zWb at w) <;> omega)
      refine ⟨nI 0, Gf, _, ec, er, p, fr, 1 - q, pr, lw, σ, τ, uX (uX ν 3 0) 2 n', L', tx, nm, ?_, hN, ?_, ?_⟩
      · exact ⟨ho, hs, hu, hM4, hM5, hM6, hM7, hM8, by rw [uX_eq]; exact p5, fun i hi => p8 i (by rw [uX_eq] at hi; exact hi), by rw [uX_ne (by omega), uX_eq]; omega, fun i hi => absurd hi (by rw [uX_ne (by omega), uX_eq]; omega)⟩
      · refine IC.kept ?_ (frz.mono fun f o w => by unfold zRef; omega)
        refine ⟨d1, d2.nu (uX_ne (by omega)), ⟨by omega, ?_, ?_, ?_, fun i hi => ?_⟩, ⟨?_, fun i hi => absurd hi (by rw [uX_ne (by omega), uX_eq]; omega)⟩, d5⟩
        · rw [hGf, gR_sI, gR_ne (by omega), gR_eq, gc4]
        · rw [hGf, gR_sI, gR_eq, gc3]; omega
        · rw [uX_eq, (ff 400 _ (by omega)).1]; exact p4
        · rw [uX_eq] at hi
          rw [(ff 401 _ (by omega)).2.2.2.1, (ff 402 _ (by omega)).2.2.2.1, (ff 403 _ (by omega)).2.2.2.1]
          exact p6 i hi
        · rw [hGf, gI_eq, uX_ne (by omega), uX_eq]
      · obtain ⟨r1, r2, r3, r4, r5, r6⟩ := hRf
        have r1' := r1.kept frz (by omega) (by omega) (by omega) (by omega) (by omega)
        refine ⟨r1', ?_, ⟨?_, fun i hi => ?_⟩, ⟨?_, fun i hi => absurd hi (by rw [uX_ne (by omega), uX_eq]; omega)⟩, r5.kept frz (by omega) (by omega) (by omega), r6.kept frz (by omega)⟩
        · exact r2.ext (by rw [uX_ne (by omega), uX_ne (by omega)]) (frz 1126 0 (by omega)).2.2.2.1 (fun k _ _ => by rw [(frz 1124 0 (by omega)).2.2.2.1])
        · rw [gA_eq, x2 0 (by omega), upd_eq, uX_eq]
        · rw [uX_eq] at hi
          have b := p7 i hi
          rw [gA_eq, show 1 + 3 * i + 1 = 1 + (3 * i + 1) by omega, show 1 + 3 * i + 2 = 1 + (3 * i + 2) by omega, x1 _ (by omega) (by omega), x1 _ (by omega) (by omega), x1 _ (by omega) (by omega), upd_ne (by omega), upd_ne (by omega), upd_ne (by omega), ← Nat.add_assoc, ← Nat.add_assoc]
          exact b
        · rw [gI_sA, uX_ne (by omega), uX_eq]; exact k3
    · rw [a1] at c1
      have ee : some (vI (nI 1)) = some (vI (nI 0)) := congrArg Prod.fst (Option.some.inj c1)
      have : nI 1 = nI 0 := Sum.inl.inj (Option.some.inj ee)
      exact absurd this (by decide +kernel)
  · obtain ⟨Gf, hGf⟩ : ∃ g, g = sI Gc 801 0 (nI 0) := ⟨_, rfl⟩
    have ff : tfr (fun f _ => f = 801) Gc Gf := by rw [hGf]; exact tfr.sI rfl
    have ec : V_X10_past G = some (some (vI (nI v0)), Gf) := by
      rw [e0, a1, tbI_v, tn0, e_X10_past_43, c_empty a2, tbI_v, hGf]
    have fcl : tfr zCls G Gf := (a5.mono fun f o w => by unfold zWb at w; unfold zCls; omega).tr (ff.mono fun f o w => by unfold zCls; omega)
    have hRf := hR.kept fcl
    rcases past_joint (o := 1 - q) (Gr := Gf) k0 hU hT4 hRf.2.2.2.1 hRf.2.2.2.2.2 hNC (nrOf Gf hRf.2.2.2.2.1) with ⟨Gc', Gr', N', j', n', L', c1, c2, c3, c5, c6⟩ | ⟨v', Gc', Gr', n', c1, c2, c3, c4, c5, c6⟩
    · rw [a1] at c1
      have ee : some (vI (nI 0)) = some (vI (nI 1)) := congrArg Prod.fst (Option.some.inj c1)
      have : nI 0 = nI 1 := Sum.inl.inj (Option.some.inj ee)
      exact absurd this (by decide +kernel)
    · rw [a1] at c1
      have ee : Gc = Gc' := congrArg Prod.snd (Option.some.inj c1)
      subst ee
      have ev : nI v0 = nI v' := by rw [← a2, ← c2]
      obtain ⟨k1, k2, k3⟩ := c6
      obtain ⟨d1, d2, d5⟩ := icK Gf _ ((a5.mono fun f o w => Or.inl w).tr (ff.mono fun f o w => Or.inr w)) (fun f o w => by rcases w with w | w <;> (try unfold zWb at w) <;> omega)
      refine ⟨nI v0, Gf, Gr', ec, ?_, p, fr, q, pr, lw, σ, τ, uX ν 3 0, L, tx, nm, hM.tape, hN, ?_, ?_⟩
      · rw [c3, e_X11_past_110, c4.1, tl0P c4.2.2 c4.2.1, ev]
      · refine IC.kept ?_ (k1.mono fun f o w => by unfold zRef; omega)
        refine ⟨d1, d2, ⟨hq, ?_, ?_, ?_, fun i hi => ?_⟩, ⟨?_, fun i hi => absurd hi (by rw [uX_eq]; omega)⟩, d5⟩
        · rw [(ff 1003 0 (by omega)).2.2.1, (a5 1003 0 (by unfold zWb; omega)).2.2.1]; exact g3
        · rw [(ff 1004 0 (by omega)).2.2.1, (a5 1004 0 (by unfold zWb; omega)).2.2.1]; exact g4
        · rw [(ff 400 _ (by omega)).1, (a5 400 q (by unfold zWb; omega)).1, uX_ne (by omega)]; exact hC.2.2.1.2.2.2.1
        · rw [(ff 401 _ (by omega)).2.2.2.1, (ff 402 _ (by omega)).2.2.2.1, (ff 403 _ (by omega)).2.2.2.1, (a5 401 q (by unfold zWb; omega)).2.2.2.1, (a5 402 q (by unfold zWb; omega)).2.2.2.1, (a5 403 q (by unfold zWb; omega)).2.2.2.1]
          rw [uX_ne (by omega)] at hi
          exact hC.2.2.1.2.2.2.2 i hi
        · rw [hGf, gI_eq, uX_eq]
      · obtain ⟨r1, r2, r3, r4, r5, r6⟩ := hRf
        have r1' := r1.kept k1 (by omega) (by omega) (by omega) (by omega) (by omega)
        refine ⟨r1', ?_, ⟨?_, fun i hi => ?_⟩, ⟨by rw [uX_eq]; exact k3, fun i hi => absurd hi (by rw [uX_eq]; omega)⟩, r5.kept k1 (by omega) (by omega) (by omega), r6.kept k1 (by omega)⟩
        · exact r2.ext (uX_ne (by omega)) (k1 1126 0 (by omega)).2.2.2.1 (fun k _ _ => by rw [(k1 1124 0 (by omega)).2.2.2.1])
        · rw [k2 0 (by omega), uX_ne (by omega)]; exact r3.1
        · rw [uX_ne (by omega)] at hi
          have := hM9
          rw [k2 _ (by omega), k2 _ (by omega), k2 _ (by omega)]
          exact r3.2 i hi
