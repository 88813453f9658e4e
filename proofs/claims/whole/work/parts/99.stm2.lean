/-! PURE: a name is entered by both, its two numbers are read -/
def zSc (p j : Nat) : Nat → Nat → Prop := fun f o => (802 ≤ f ∧ f ≤ 808) ∨ ((f = 600 ∨ f = 601) ∧ o = 4 * p + j) ∨ ((f = 504 + 2 * j ∨ f = 505 + 2 * j) ∧ o = p)
def zSr : Nat → Nat → Prop := fun f _ => f = 1107 ∨ f = 1108 ∨ f = 1110 ∨ f = 1115 ∨ f = 1117 ∨ f = 1119
theorem zSc_p {p j : Nat} (hj : j < 4) : ∀ f o, zSc p j f o → zPc p f o := fun f o w => by unfold zSc at w; unfold zPc; omega
theorem zSr_p : ∀ f o, zSr f o → zPr f o := fun f o w => by unfold zSr at w; unfold zPr; omega
/-- the name stands in both -/
def MD (z : mZ) (N p k j n mn : Nat) (l : List Nat) (Gc0 Gr0 Gc Gr : tH) : Prop := CT Gc z k ∧ gI Gc 808 0 = nI 0 ∧ RT Gr z N k ∧ tfr (zSc p j) Gc0 Gc ∧ gI Gc 601 (4 * p + j) = nI (n + 1) ∧ (∀ i, i ≠ n → gB Gc 600 (4 * p + j) i = gB Gc0 600 (4 * p + j) i) ∧ gB Gc 600 (4 * p + j) n = lN (wcode 32 l) ∧ (gA Gc (504 + 2 * j) p = gA Gc0 (504 + 2 * j) p ∧ gA Gc (505 + 2 * j) p = gA Gc0 (505 + 2 * j) p) ∧ tfr zSr Gr0 Gr ∧ gI Gr 1119 0 = nI (mn + 1) ∧ (∀ i, i ≠ mn → gB Gr 1115 0 i = gB Gr0 1115 0 i ∧ gA Gr 1117 0 i = gA Gr0 1117 0 i) ∧ gB Gr 1115 0 mn = lN (wcode 37 l) ∧ gA Gr 1117 0 mn = nI (20 * j + n) ∧ gA Gr 1110 0 = gA Gr0 1110 0
theorem FP.of {p j a n : Nat} {Gc0 Gr0 Gc' Gr' : tH} {A : Nat → Int32} (hj : j < 4) (h1 : tfr (zSc p j) Gc0 Gc') (h2 : tfr zSr Gr0 Gr') (h3 : ∀ i, i < 60 → gA Gr' 1110 0 i = gA Gr0 1110 0 i) : FP p Gc0 Gr0 Gc' Gr' := ⟨h1.mono (zSc_p hj), h2.mono zSr_p, h3, fun i _ => ⟨by rw [(h2 1111 0 (by unfold zSr; omega)).2.2.2.1], by rw [(h2 1112 0 (by unfold zSr; omega)).2.2.2.1]⟩⟩
theorem pair_tail {z : mZ} {N p k0 k1 j n mn ob cd : Nat} {pr : mP} {nm : Nat → Nat → List Nat} {l : List Nat} {Gc0 Gr0 Gc1 Gr1 Gi : tH} {F1c F1r F2c F2r : tH → Option tRes} {Ec Er : tH → Prop} {P1 P2 : Nat → Prop} (hPV : PV z N p Gc0 Gr0 k0 pr nm ob mn cd) (hk : k0 < k1) (hj : j < 4) (hn : cntP pr j = n) (hm : n < mx j) (hl : okW l) (hne : ∀ j' i', j' < 4 → i' < cntP pr j' → nm j' i' ≠ l) (hM : MD z N p k1 j n mn l Gc0 Gr0 Gc1 Gr1) (hGi : gA Gi 1110 0 = gA Gr0 1110 0) (R1 : RD z N Ec Er F1c F1r P1) (hEc : Ec Gc1) (hEr : Er Gr1) (R2 : RD z N (fun _ => True) (fun _ => True) F2c F2r P2) (hv : ∀ x y, P1 x → P2 y → okV j x y (cntP pr 1)) :
    SUP z N p (cTail F1c F2c (504 + 2 * j) (505 + 2 * j) p (mx j) (nI n) Gc1) (rTail F1r F2r (60 + lb j) (60 + j) Gi Gr1) Gc0 Gr0 k0 ∨ FAP p (cTail F1c F2c (504 + 2 * j) (505 + 2 * j) p (mx j) (nI n) Gc1) (rTail F1r F2r (60 + lb j) (60 + j) Gi Gr1) Gc0 Gr0 := by
  obtain ⟨m1, m2, m3, m4, m5, m6, m7, m8, m9, m10, m11, m12, m13, m14⟩ := hM
  obtain ⟨v1, v2, v3, v4, v5, v6, v7, v8, v9, v10, v11, v12⟩ := hPV
  have hmx := mx_in (j := j)
  have hlb := lb_in hj
  have hC0 : gA Gr0 1110 0 (60 + j) = nI n := by rw [(v5.1 j hj).1, hn]
  have hCi : gA Gi 1110 0 (60 + j) = nI n := by rw [hGi]; exact hC0
  rcases R1.1 Gc1 Gr1 k1 m1 m2 m3 hEc hEr with ⟨x, k2, Gc2, Gr2, a1, a2, a3, a4, a5, a6, a7, a8, a9⟩ | ⟨v, Gc2, Gr2, a1, a2, a3, a4, a5, a6⟩
  · -- the first is read
    obtain ⟨Gc3, hGc3⟩ : ∃ g, g = sA Gc2 (504 + 2 * j) p (upd (gA Gc2 (504 + 2 * j) p) n (nI x)) := ⟨_, rfl⟩
    obtain ⟨Gr3, hGr3⟩ : ∃ g, g = sA Gr2 1110 0 (upd (gA Gr2 1110 0) (60 + lb j + 2 * n) (nI x)) := ⟨_, rfl⟩
    have fc3 : tfr (fun f o => (f = 504 + 2 * j ∨ f = 505 + 2 * j) ∧ o = p) Gc2 Gc3 := by rw [hGc3]; exact tfr.sA ⟨Or.inl rfl, rfl⟩
    have fr3 : tfr (fun f _ => f = 1110) Gr2 Gr3 := by rw [hGr3]; exact tfr.sA rfl
    have c3 : CT Gc3 z k2 := a5.kept fc3 (fun f _ _ => by omega)
    have c30 : gI Gc3 808 0 = nI 0 := by rw [(fc3 808 0 (by omega)).1, (a8 808 0 (by unfold zTk; omega)).1]; exact m2
    have r3 : RT Gr3 z N k2 := a6.kept fr3 (fun f _ _ => by omega)
    have g2 : gA Gr2 1110 0 = gA Gr0 1110 0 := by rw [(a9 1110 0 (by omega)).2.2.2.1]; exact m14
    have g3 : gA Gr3 1110 0 = upd (gA Gr0 1110 0) (60 + lb j + 2 * n) (nI x) := by rw [hGr3, gA_eq, g2]
    have frc : tfr (zSc p j) Gc0 Gc3 := (m4.tr (a8.mono fun f o w => by unfold zTk at w; unfold zSc; omega)).tr (fc3.mono fun f o w => by unfold zSc; omega)
    have frr : tfr zSr Gr0 Gr3 := (m9.tr (a9.mono fun f o w => by unfold zSr; omega)).tr (fr3.mono fun f o w => by unfold zSr; omega)
    rcases R2.1 Gc3 Gr3 k2 c3 c30 r3 trivial trivial with ⟨y, k4, Gc4, Gr4, b1, b2, b3, b4, b5, b6, b7, b8, b9⟩ | ⟨v, Gc4, Gr4, b1, b2, b3, b4, b5, b6⟩
    · -- both are read
      refine Or.inl ?_
      have g4 : gA Gr4 1110 0 = upd (gA Gr0 1110 0) (60 + lb j + 2 * n) (nI x) := by rw [(b9 1110 0 (by omega)).2.2.2.1]; exact g3
      rw [hGc3] at b1
      rw [hGr3] at b2
      have ec := cT_2 (fb := 505 + 2 * j) hm (by omega) a4 b4 a1 b1
      have er := rT_v (Gi := Gi) (n := n) (B := 60 + lb j) (C := 60 + j) (by omega) (by omega) hCi a2 b2 (by rw [g4, upd_ne (by omega)]; exact hC0)
      rw [ec, er]
      obtain ⟨Gc5, hGc5⟩ : ∃ g, g = sA Gc4 (505 + 2 * j) p (upd (gA Gc4 (505 + 2 * j) p) n (nI y)) := ⟨_, rfl⟩
      obtain ⟨Gr5, hGr5⟩ : ∃ g, g = finG Gr4 (60 + lb j + 2 * n + 1) (60 + j) n (nI y) := ⟨_, rfl⟩
      rw [← hGc5, ← hGr5]
      have fc5 : tfr (fun f o => f = 505 + 2 * j ∧ o = p) Gc4 Gc5 := by rw [hGc5]; exact tfr.sA ⟨rfl, rfl⟩
      have fr5 : tfr (fun f _ => f = 1110) Gr4 Gr5 := by rw [hGr5]; exact fin_fr
      have g5 : gA Gr5 1110 0 = upd (upd (upd (gA Gr0 1110 0) (60 + lb j + 2 * n) (nI x)) (60 + lb j + 2 * n + 1) (nI y)) (60 + j) (nI (n + 1)) := by rw [hGr5, fin_at, g4]
      have frc5 : tfr (zSc p j) Gc0 Gc5 := (frc.tr (b8.mono fun f o w => by unfold zTk at w; unfold zSc; omega)).tr (fc5.mono fun f o w => by unfold zSc; omega)
      have frr5 : tfr zSr Gr0 Gr5 := (frr.tr (b9.mono fun f o w => by unfold zSr; omega)).tr (fr5.mono fun f o w => by unfold zSr; omega)
      have frc15 : tfr (fun f o => (802 ≤ f ∧ f ≤ 808) ∨ ((f = 504 + 2 * j ∨ f = 505 + 2 * j) ∧ o = p)) Gc1 Gc5 := (((a8.mono fun f o w => by unfold zTk at w; omega).tr (fc3.mono fun f o w => by omega)).tr (b8.mono fun f o w => by unfold zTk at w; omega)).tr (fc5.mono fun f o w => by omega)
      have frr15 : tfr (fun f _ => f = 1107 ∨ f = 1110) Gr1 Gr5 := (((a9.mono fun f o w => by omega).tr (fr3.mono fun f o w => by omega)).tr (b9.mono fun f o w => by omega)).tr (fr5.mono fun f o w => by omega)
      have gA5 : gA Gc5 (504 + 2 * j) p = upd (gA Gc0 (504 + 2 * j) p) n (nI x) := by
        rw [(fc5 (504 + 2 * j) p (by omega)).2.2.2.1, (b8 (504 + 2 * j) p (by unfold zTk; omega)).2.2.2.1, hGc3, gA_eq, (a8 (504 + 2 * j) p (by unfold zTk; omega)).2.2.2.1, m8.1]
      have gB5 : gA Gc5 (505 + 2 * j) p = upd (gA Gc0 (505 + 2 * j) p) n (nI y) := by
        rw [hGc5, gA_eq, (b8 (505 + 2 * j) p (by unfold zTk; omega)).2.2.2.1, hGc3, gA_ne (by omega), (a8 (505 + 2 * j) p (by unfold zTk; omega)).2.2.2.1, m8.2]
      have lwk : ∀ i, i < 2 → LW Gc0 Gr0 p cd i → LW Gc5 Gr5 p cd i := fun i hi h => h.kept (by rw [(frc5 200 (2 * p + i) (by unfold zSc; omega)).2.2.2.1]) (by rw [(frc5 201 (2 * p + i) (by unfold zSc; omega)).1]) (by rw [g5, upd_ne (by omega), upd_ne (by omega), upd_ne (by omega)]) (fun m _ => ⟨by rw [(frr5 1111 0 (by unfold zSr; omega)).2.2.2.1], by rw [(frr5 1112 0 (by unfold zSr; omega)).2.2.2.1]⟩) (Nat.le_refl _)
      refine ⟨Gc5, Gr5, k4, addP pr j n x y, addN nm j n l, ob, mn + 1, cd, rfl, rfl, ⟨?_, ?_, ?_, ?_, ?_, v6.add hj hn hm (hv x y a3 b3), ?_, v8, ?_, by omega, lwk 0 (by omega) v11, lwk 1 (by omega) v12⟩, by omega, FP.of (a := 0) (n := 0) (A := fun _ => 0) hj frc5 frr5 (fun i hi => by rw [g5, upd_ne (by omega), upd_ne (by omega), upd_ne (by omega)])⟩
      · exact b5.kept fc5 (fun f _ _ => by omega)
      · rw [(fc5 808 0 (by omega)).1, (b8 808 0 (by unfold zTk; omega)).1]; exact c30
      · exact b6.kept fr5 (fun f _ _ => by omega)
      · refine v4.add hj hn frc5 ?_ (fun i hi => ?_) ?_ (fun i hi => ?_) ?_ ?_
        · rw [(frc15 601 _ (by omega)).1]; exact m5
        · rw [(frc15 600 _ (by omega)).2.2.2.2]; exact m6 i hi
        · rw [(frc15 600 _ (by omega)).2.2.2.2]; exact m7
        · rw [gA5, gB5, upd_ne hi, upd_ne hi]; exact ⟨rfl, rfl⟩
        · rw [gA5, upd_eq]
        · rw [gB5, upd_eq]
      · refine v5.add v7 hj hn hm ?_ ?_ (fun i hi => ?_) ?_ ?_ (fun i h1 h2 h3 => ?_) ?_ ?_ ?_
        · rw [(frr5 1120 0 (by unfold zSr; omega)).1]
        · rw [(frr15 1119 0 (by omega)).1]; exact m10
        · rw [(frr15 1115 0 (by omega)).2.2.2.2, (frr15 1117 0 (by omega)).2.2.2.1]; exact m11 i hi
        · rw [(frr15 1115 0 (by omega)).2.2.2.2]; exact m12
        · rw [(frr15 1117 0 (by omega)).2.2.2.1]; exact m13
        · rw [g5, upd_ne h3, upd_ne h2, upd_ne h1]
        · rw [g5, upd_eq]
        · rw [g5, upd_ne (by omega), upd_ne (by omega), upd_eq]
        · rw [g5, upd_ne (by omega), upd_eq]
      · rw [addP_c hj]; exact v7.add hj hn hm hl hne
      · rw [(frr5 1113 0 (by unfold zSr; omega)).1]; exact v9
    · -- the second is wrong
      refine Or.inr ?_
      have g4 : gA Gr4 1110 0 = upd (gA Gr0 1110 0) (60 + lb j + 2 * n) (nI x) := by rw [(b6 1110 0 (by omega)).2.2.2.1]; exact g3
      rw [hGc3] at b1
      rw [hGr3] at b3
      have ec := cT_1 (fb := 505 + 2 * j) hm (by omega) a4 a1 b1
      have er := rT_v (Gi := Gi) (n := n) (B := 60 + lb j) (C := 60 + j) (by omega) (by omega) hCi a2 b3 (by rw [g4, upd_ne (by omega)]; exact hC0)
      rw [ec, er]
      refine ⟨_, _, v, rfl, ?_, rfl, b4.kept fin_fr (by omega), FP.of (a := 0) (n := 0) (A := fun _ => 0) hj ((frc.tr (b5.mono fun f o w => by unfold zSc; omega)).tr (tfr.sA (by unfold zSc; omega))) ((frr.tr (b6.mono fun f o w => by unfold zSr; omega)).tr (fin_fr.mono fun f o w => by unfold zSr; omega)) (fun i hi => by rw [fin_at, g4, upd_ne (by omega), upd_ne (by omega), upd_ne (by omega)])⟩
      rw [gI_sA]; exact b2
  · -- the first is wrong
    refine Or.inr ?_
    have g2 : gA Gr2 1110 0 = gA Gr0 1110 0 := by rw [(a6 1110 0 (by omega)).2.2.2.1]; exact m14
    have hF3 : RF (sA Gr2 1110 0 (upd (gA Gr2 1110 0) (60 + lb j + 2 * n) (nI 0))) v := a4
    have ec := cT_0 (F2 := F2c) (fa := 504 + 2 * j) (fb := 505 + 2 * j) (p := p) hm (by omega) a1
    have er := rT_v (Gi := Gi) (n := n) (B := 60 + lb j) (C := 60 + j) (by omega) (by omega) hCi a3 (R2.2 _ v hF3) (by rw [gA_eq, g2, upd_ne (by omega)]; exact hC0)
    rw [ec, er]
    refine ⟨_, _, v, rfl, ?_, rfl, hF3.kept fin_fr (by omega), FP.of (a := 0) (n := 0) (A := fun _ => 0) hj ((m4.tr (a5.mono fun f o w => by unfold zSc; omega)).tr (tfr.sA (by unfold zSc; omega))) (((m9.tr (a6.mono fun f o w => by unfold zSr; omega)).tr (tfr.sA (by unfold zSr; omega))).tr (fin_fr.mono fun f o w => by unfold zSr; omega)) (fun i hi => by rw [fin_at, gA_eq, g2, upd_ne (by omega), upd_ne (by omega), upd_ne (by omega)])⟩
    rw [gI_sA]; exact a2
