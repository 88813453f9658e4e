/-! PURE: province: both answer alike -/
theorem RKP.s {G G' : tH} (h : RKP G G') : tfr zRef G G' := h.1.mono fun f o w => by unfold zRq at w; unfold zRef; omega
theorem IR.kept2 {G G' : tH} {pr : mP} {lw : mL} {σ : Nat → mS} {τ : Nat → Nat → Int32} {ν : Nat → Nat} {L : Nat → Nat → Nat} {tx : Nat → Nat} {nm : Nat → Nat → List Nat} (ho : okP pr) (h : IR G pr lw σ τ ν L tx nm) (hK : RKP G G') : IR G' pr lw σ τ (uX ν 3 0) L tx nm := by
  obtain ⟨⟨a1, a2, a3, a4, a5, a6, a7⟩, h2, h3, h4, h5, h6⟩ := h
  obtain ⟨f, k1, k2, k3⟩ := hK
  have n : ∀ g o, (g = 1101 ∨ g = 1109 ∨ g = 1114 ∨ g = 1116 ∨ g = 1118 ∨ 1121 ≤ g) → ¬ zRq g o := fun g o w => by unfold zRq; omega
  refine ⟨⟨a1.ext ho k1, a2.ext (by omega) k1 k2, a3.ext (by omega) k1 k2, ?_, ?_, fun k hk => ?_, fun m hm => ?_⟩, ?_, ?_, ⟨k3, fun i hi => absurd hi (by rw [uX_eq]; omega)⟩, h5.kept f (n _ _ (by omega)) (n _ _ (by omega)) (n _ _ (by omega)), h6.kept f (n _ _ (by omega))⟩
  · rw [(f 1124 0 (n _ _ (by omega))).2.2.2.1]; exact a4
  · rw [(f 1125 0 (n _ _ (by omega))).1, uX_ne (by omega)]; exact a5
  · rw [(f 1124 0 (n _ _ (by omega))).2.2.2.1]; exact a6 k hk
  · rw [(f 1124 0 (n _ _ (by omega))).2.2.2.1]; exact a7 m hm
  · exact h2.ext (uX_ne (by omega)) (f 1126 0 (n _ _ (by omega))).2.2.2.1 (fun k _ _ => by rw [(f 1124 0 (n _ _ (by omega))).2.2.2.1])
  · exact (h3.kept f (n _ _ (by omega))).nu (uX_ne (by omega))
theorem okM.tape {pr : mP} {σ : Nat → mS} {τ : Nat → Nat → Int32} {ν : Nat → Nat} {L : Nat → Nat → Nat} {tx : Nat → Nat} (h : okM pr σ τ ν L tx) : okM pr σ τ (uX ν 3 0) L tx := by
  obtain ⟨ho, hs, hu, hM4, hM5, hM6, hM7, hM8, hM9, hM10, hM11, hM12⟩ := h
  exact ⟨ho, hs, hu, hM4, hM5, hM6, hM7, hM8, hM9, hM10, by rw [uX_eq]; omega, fun i hi => absurd hi (by rw [uX_eq]; omega)⟩
theorem c_empty {G : tH} {v : Nat} (h : gI G 808 0 = nI v) : V_X8_empty G = some (some (vI (nI v)), sI G 801 0 (nI 0)) := by
  rw [e_X8_empty]
  dsimp only
  rw [gI_ne (by omega), h]
theorem IC.fail {G G1 : tH} {p fr q : Nat} {pr : mP} {lw : mL} {σ : Nat → mS} {τ : Nat → Nat → Int32} {ν : Nat → Nat} {L : Nat → Nat → Nat} {tx : Nat → Nat} {nm : Nat → Nat → List Nat} (h : IC G p fr q pr lw σ τ ν L tx nm) (hf : tfr (zPc (1 - p)) G G1) : IC (sI G1 801 0 (nI 0)) p fr q pr lw σ τ (uX ν 3 0) L tx nm := by
  obtain ⟨⟨h1, h2, h3, h4, h5, h6, h7, h8, h9, h10, h11, h12⟩, d2, d3, d4, d5⟩ := h
  have f : tfr (fun f o => zPc (1 - p) f o ∨ f = 801) G (sI G1 801 0 (nI 0)) := tfrI (hf.mono fun f o w => Or.inl w) (Or.inr rfl)
  refine ⟨⟨h1, ?_, ?_, h4.kept2 f (fun g _ _ => by unfold zPc; omega) (fun j _ => by unfold zPc; omega), h5.kept f (by unfold zPc; omega) (by unfold zPc; omega), h6.kept f (by unfold zPc; omega) (by unfold zPc; omega), h7.kept f (fun g _ _ => by unfold zPc; omega), h8, ?_, ?_, fun k hk => ?_, fun m hm => ?_⟩, ?_, ?_, ⟨?_, fun i hi => absurd hi (by rw [uX_eq]; omega)⟩, fun j i hj hi => ?_⟩
  · rw [(f 1001 0 (by unfold zPc; omega)).2.2.1]; exact h2
  · rw [(f 1002 0 (by unfold zPc; omega)).2.2.1]; exact h3
  · rw [(f 901 0 (by unfold zPc; omega)).1]; exact h9
  · rw [(f 902 0 (by unfold zPc; omega)).1, uX_ne (by omega)]; exact h10
  · exact (h11 k hk).kept f (fun g _ _ => by unfold zPc; omega)
  · exact (h12 m hm).kept f (fun g _ _ => by unfold zPc; omega)
  · exact (d2.kept f (fun g o w => by unfold zPc at w; omega)).nu (uX_ne (by omega))
  · exact (d3.kept f (fun g o w => by unfold zPc at w; omega)).nu (uX_ne (by omega))
  · rw [gI_eq, uX_eq]
  · rw [(f 600 _ (by unfold zPc; omega)).2.2.2.2]; exact d5 j i hj hi
def nuZ : Nat → Nat := fun _ => 0
theorem nuZ_m {m : Nat} (h : mkB nuZ m) : False := by
  have h2 : 0 / 2 ^ m % 2 = 1 := h.2
  rw [Nat.zero_div] at h2
  omega
theorem nuZ_l {i k : Nat} (h : k < nuZ i) : False := Nat.not_lt_zero k h
theorem p_province {G : tH} (h : INV G) : PAIR (V_X10_province) (V_X11_province) G := by
  obtain ⟨p, fr, q, pr, lw, σ, τ, ν, L, tx, nm, hM, hN, hC, hR⟩ := id h
  obtain ⟨ho, hs, hu, hM4, hM5, hM6, hM7, hM8, hM9, hM10, hM11, hM12⟩ := id hM
  have k0 : okZ (ν 3, tx) := ⟨hM11, hM12⟩
  have hT4 : T4 G (ν 3, tx) := hC.2.2.2.1
  have hp : p ≤ 1 := hC.1.1
  have g1 : gR G 1001 0 = p := hC.1.2.1
  have g2 : gR G 1002 0 = 1 - p := hC.1.2.2.1
  have e0 : V_X10_province G = tbI (tbV (V_X8_start G) (fun G1 => V_X5_tellFrom (1 - p) G1)) (fun r_3 G_2 => tif (r_3 = 0) (V_X10_province_43 G_2) (tbV (V_X10_startAnew (sR (sR G_2 1001 0 (gR G_2 1002 0)) 1002 0 (gR G_2 1001 0))) (fun G_6 => V_X10_province_43 G_6))) := by
    obtain ⟨G1, e1, c1, c2, f1⟩ := c_start k0 hT4
    rw [e_X10_province, e1, tbV_v, tbV_v, (f1 1002 0 (by omega)).2.2.1, g2]
  rcases prov_joint (p := 1 - p) (Gr := G) k0 hT4 hR.2.2.2.1 hR.2.2.2.2.2 with ⟨Gc, Gr0, N0, j0, pr00, nm00, ob00, mn00, cd00, a1, _, _, _, a5, _⟩ | ⟨Gc, Gr0, v0, a1, a2, _, a4, a5, _⟩
  · -- it is one
    obtain ⟨Gt, hGt⟩ : ∃ g, g = sR (sR Gc 1001 0 (gR Gc 1002 0)) 1002 0 (gR Gc 1001 0) := ⟨_, rfl⟩
    have gc1 : gR Gc 1001 0 = p := by rw [(a5 1001 0 (by unfold zPc; omega)).2.2.1]; exact g1
    have gc2 : gR Gc 1002 0 = 1 - p := by rw [(a5 1002 0 (by unfold zPc; omega)).2.2.1]; exact g2
    have gc3 : gR Gc 1003 0 = q := by rw [(a5 1003 0 (by unfold zPc; omega)).2.2.1]; exact hC.2.2.1.2.1
    have ft : tfr (fun f _ => f = 1001 ∨ f = 1002) Gc Gt := by rw [hGt]; exact tfrR (tfr.sR (Or.inl rfl)) (Or.inr rfl)
    have gt1 : gR Gt 1001 0 = 1 - p := by rw [hGt, gR_ne (by omega), gR_eq, gc2]
    have gt2 : gR Gt 1002 0 = p := by rw [hGt, gR_eq, gc1]
    have gt3 : gR Gt 1003 0 = q := by rw [(ft 1003 0 (by omega)).2.2.1]; exact gc3
    -- the class alone, then both
    have hcp : ∀ pr' nm' ob', DC Gc (1 - p) pr' nm' ob' → cP Gt (1 - p) pr' := fun pr' nm' ob' hd => hd.cP.kept2 ft (fun f _ _ => by omega) (fun j _ => by omega)
    have any : ∀ Gr, S4 Gr (ν 3, tx) → RW Gr → ∃ Gr' N k pr' nm' ob' mn' cd', V_X11_province Gr = V_X11_province_62 Gr' ∧ TK (ν 3, tx) N ∧ PV (ν 3, tx) N (1 - p) Gc Gr' k pr' nm' ob' mn' cd' ∧ RKP Gr Gr' := by
      intro Gr b1 b2
      rcases prov_joint (p := 1 - p) (Gr := Gr) k0 hT4 b1 b2 with ⟨Gc', Gr', N', j', pr', nm', ob', mn', cd', c1, c2, c3, c4, c5, c6⟩ | ⟨Gc', Gr', v', c1, c2, c3, c4, c5, c6⟩
      · rw [a1] at c1
        have ee : Gc = Gc' := congrArg Prod.snd (Option.some.inj c1)
        subst ee
        exact ⟨Gr', N', j', pr', nm', ob', mn', cd', c2, c3, c4, c6⟩
      · rw [a1] at c1
        have ee : some (vI (nI 1)) = some (vI (nI 0)) := congrArg Prod.fst (Option.some.inj c1)
        have : nI 1 = nI 0 := Sum.inl.inj (Option.some.inj ee)
        exact absurd this (by decide +kernel)
    obtain ⟨Gr1, N1, j1, pr1, nm1, ob1, mn1, cd1, b1, b2, b3, b4⟩ := any G hR.2.2.2.1 hR.2.2.2.2.2
    obtain ⟨Ga, e3, s3, w1, w2, w3, w4, f3⟩ := c_anew (hcp _ _ _ b3.2.2.2.1) b3.2.2.2.2.2.1 gt1 gt3
    have ft2 : tfr (fun f o => zSN q f o ∨ f = 1001 ∨ f = 1002) Gc Ga := (ft.mono fun f o w => Or.inr w).tr (f3.mono fun f o w => Or.inl w)
    have g808 : gI Ga 808 0 = nI 0 := by rw [(ft2 808 0 (by unfold zSN; omega)).1]; exact b3.2.1
    obtain ⟨Gf, hGf⟩ : ∃ g, g = sI Ga 801 0 (nI 0) := ⟨_, rfl⟩
    have ff : tfr (fun f o => zSN q f o ∨ f = 1001 ∨ f = 1002 ∨ f = 801) Gc Gf := by rw [hGf]; exact tfrI (ft2.mono fun f o w => by unfold zSN at w ⊢; omega) (by omega)
    have ec : V_X10_province G = some (some (vI (nI 0)), Gf) := by
      rw [e0, a1, tbI_v, tn1, ← hGt, e3, tbV_v, e_X10_province_43, c_empty g808, tbI_v, hGf]
    have fcl : tfr zCls G Gf := (a5.mono fun f o w => by unfold zPc at w; unfold zCls; omega).tr (ff.mono fun f o w => by unfold zSN at w; unfold zCls; omega)
    have hRf := hR.kept fcl
    obtain ⟨Gr2, N2, j2, pr2, nm2, ob2, mn2, cd2, d1, d2, d3, d4⟩ := any Gf hRf.2.2.2.1 hRf.2.2.2.2.2
    obtain ⟨Gz, z0, z1, z2, z3, z4, z5, z6, z7, z8, z9, z10⟩ := r_pend d2 d3
    -- the two readings of the class are of one province
    obtain ⟨p1, p2, p3, p4, p5, p6, p7, p8, p9, p10, p11, p12⟩ := id d3
    obtain ⟨Ga2, e3', s3', _, _, _, _, _⟩ := c_anew (hcp _ _ _ p4) p6 gt1 gt3
    have eGa : Ga2 = Ga := by
      rw [e3] at e3'
      exact (congrArg Prod.snd (Option.some.inj e3')).symm
    rw [eGa] at s3'
    have hN2 := d2.le
    have hk2 := p3.2.1
    obtain ⟨l0, l0a, l0b⟩ := p11.vals (by omega) (by omega)
    obtain ⟨l1, l1a, l1b⟩ := p12.vals (by omega) (by omega)
    have frz : tfr zRef Gf Gz := d4.s.tr (z10.mono fun f o w => by unfold zRef; omega)
    have hsS : ∀ f o, zSN q f o → ¬ (f = 200 ∨ f = 201 ∨ (500 ≤ f ∧ f < 700)) := fun f o w => by unfold zSN at w; omega
    refine ⟨nI 0, Gf, Gz, ec, by rw [d1, z0], 1 - p, fr, q, pr2, fun i => if i = 0 then l0 else l1, fun _ => fBegin pr2, fun _ _ => -1, nuZ, L, tx, nm2, ?_, ⟨p7.2.2.2.2.1, p7.2.2.2.2.2⟩, ?_, ?_⟩
    · exact ⟨p6, ok_begin p6, Nat.zero_le _, fun k hk => (nuZ_l hk).elim, (show 0 < 16 by omega), fun m hm => (nuZ_m hm).elim, fun c _ => Or.inl rfl, fun m hm => (nuZ_m hm).elim, Nat.zero_le _, fun i hi => (nuZ_l hi).elim, Nat.zero_le _, fun i hi => (nuZ_l hi).elim⟩
    · refine IC.kept ?_ frz
      obtain ⟨⟨h1, h2, h3, h4, h5, h6, h7, h8, h9, h10, h11, h12⟩, q2, q3, q4, q5⟩ := hC
      refine ⟨⟨by omega, ?_, ?_, ?_, ?_, ?_, ?_, h8, ?_, ?_, fun k hk => (nuZ_l hk).elim, fun m hm => (nuZ_m hm).elim⟩, ⟨fun c hc => ?_, fun m hm => (nuZ_m hm).elim, ?_⟩, ⟨q3.1, ?_, ?_, ?_, fun i hi => (nuZ_l hi).elim⟩, ⟨?_, fun i hi => (nuZ_l hi).elim⟩, fun j i hj hi => ?_⟩
      · rw [hGf, gR_sI, (f3 1001 0 (by unfold zSN; omega)).2.2.1]; exact gt1
      · rw [hGf, gR_sI, (f3 1002 0 (by unfold zSN; omega)).2.2.1, gt2]; omega
      · exact p4.cP.kept2 ff (fun f _ _ => by unfold zSN; omega) (fun j _ => by unfold zSN; omega)
      · exact l0a.kept ff (by unfold zSN; omega) (by unfold zSN; omega)
      · exact l1a.kept ff (by unfold zSN; omega) (by unfold zSN; omega)
      · rw [hGf]; exact s3'.kept (tfr.sI (S := fun f _ => f = 801) rfl) (fun f _ _ => by omega)
      · rw [(ff 901 0 (by unfold zSN; omega)).1, (a5 901 0 (by unfold zPc; omega)).1]; exact h9
      · rw [hGf, gI_ne (by omega)]; exact w1
      · rw [hGf, gA_sI]; exact w4 c hc
      · rw [hGf, gI_ne (by omega)]; exact w3
      · rw [(ff 1003 0 (by unfold zSN; omega)).2.2.1]; exact gc3
      · rw [(ff 1004 0 (by unfold zSN; omega)).2.2.1, (a5 1004 0 (by unfold zPc; omega)).2.2.1]; exact q3.2.2.1
      · rw [hGf, gI_ne (by omega)]; exact w2
      · rw [hGf, gI_eq]; rfl
      · rw [(ff 600 _ (by unfold zSN; omega)).2.2.2.2]; exact p4.C5 j i hj hi
    · obtain ⟨⟨r1, r2, r3, r4, r5, r6, r7⟩, q2, q3, q4, q5, q6⟩ := hRf
      refine ⟨⟨z1, ?_, ?_, z2, z5, fun k hk => (nuZ_l hk).elim, fun m hm => (nuZ_m hm).elim⟩, ⟨fun c hc => z3 c hc, fun m hm => (nuZ_m hm).elim, fun m hm => ?_⟩, ⟨z4, fun i hi => (nuZ_l hi).elim⟩, ⟨?_, fun i hi => (nuZ_l hi).elim⟩, z7, ?_⟩
      · exact l0b Gz (z8 6 (by omega)) z9
      · exact l1b Gz (z8 7 (by omega)) z9
      · rw [show nuZ 1 = 0 from rfl, Nat.zero_div]; exact z6 m hm
      · rw [(z10 1102 0 (by omega)).1]; exact d4.2.2.2
      · exact (q6.kept d4.1 (by unfold zRq; omega)).kept z10 (by omega)
  · -- it is none
    have hf0 := hC.fail a5
    have ec : V_X10_province G = some (some (vI (nI v0)), sI Gc 801 0 (nI 0)) := by
      rw [e0, a1, tbI_v, tn0, e_X10_province_43, c_empty a2, tbI_v]
    have fcl : tfr zCls G (sI Gc 801 0 (nI 0)) := tfrI (a5.mono fun f o w => by unfold zPc at w; unfold zCls; omega) (by unfold zCls; omega)
    have hRf := hR.kept fcl
    rcases prov_joint (p := 1 - p) (Gr := sI Gc 801 0 (nI 0)) k0 hT4 hRf.2.2.2.1 hRf.2.2.2.2.2 with ⟨Gc', Gr', N', j', pr', nm', ob', mn', cd', c1, c2, c3, c4, c5, c6⟩ | ⟨Gc', Gr', v', c1, c2, c3, c4, c5, c6⟩
    · rw [a1] at c1
      have ee : some (vI (nI 0)) = some (vI (nI 1)) := congrArg Prod.fst (Option.some.inj c1)
      have : nI 0 = nI 1 := Sum.inl.inj (Option.some.inj ee)
      exact absurd this (by decide +kernel)
    · rw [a1] at c1
      have ee : Gc = Gc' := congrArg Prod.snd (Option.some.inj c1)
      subst ee
      have ev : nI v0 = nI v' := by rw [← a2, ← c2]
      refine ⟨nI v0, _, Gr', ec, ?_, p, fr, q, pr, lw, σ, τ, uX ν 3 0, L, tx, nm, hM.tape, hN, hf0.kept c6.s, IR.kept2 ho hRf c6⟩
      rw [c3, e_X11_province_62, c4.1, tl0P c4.2.2 c4.2.1, ev]
