/-! PURE: knew, secret -/
theorem zF_N {G G' : tH} (h : tfr zF G G') : tfr zN G G' := h.mono fun f o z => by unfold zF at z; unfold zN; omega
theorem kP_0 {pr : mP} {s : mS} {w : Nat} : ¬ kP pr s w 0 := fun q => by have := q.1; omega
theorem kC_zero {pr : mP} {s : mS} {w : Nat} (ho : okP pr) : kB (kP pr s w) (2 ^ nH pr) = 0 ↔ kC (kP pr s w) (2 ^ nH pr) = 0 := by
  have h32 := p2_32 ho
  have hpop := kB_pop (kP pr s w) h32
  constructor
  · intro h
    rw [← hpop, h]
    rfl
  · intro h
    rw [h] at hpop
    have hz : ∀ n, n ≤ 32 → sumN (bitN (kB (kP pr s w) (2 ^ nH pr))) n = 0 := fun n hn => by
      have := sumN_mono (bitN (kB (kP pr s w) (2 ^ nH pr))) n (32 - n)
      rw [show n + (32 - n) = 32 by omega] at this
      omega
    have hno : ∀ i, i < 2 ^ nH pr → ¬ kP pr s w i := by
      intro i hi hk
      have h1 := hz (i + 1) (by omega)
      have h2 := kB_bit (kP pr s w) (2 ^ nH pr) i
      rw [if_pos hi, kF_1 hk] at h2
      rw [sumN] at h1
      omega
    have hb : ∀ n, n ≤ 2 ^ nH pr → kB (kP pr s w) n = 0 := by
      intro n
      induction n with
      | zero => intro _; rfl
      | succ n ih => intro hn; rw [kB_0 (hno n (by omega))]; exact ih (by omega)
    exact hb _ (Nat.le_refl _)
theorem p_knew (x1 x2 : Int32) {G : tH} (h : INV G) : PAIR (V_X10_knew x1 x2) (V_X11_knew x1 x2) G := by
  obtain ⟨p, fr, q, pr, lw, σ, τ, ν, L, tx, nm, hM, hN, hC, hR⟩ := id h
  obtain ⟨ho, hs, hu, hM4, hM5, hM6, hM7, _⟩ := id hM
  obtain ⟨c1, c2, c3, hP, c5, c6, hS, _⟩ := hC.1
  have hR0 := hR.1.thr (nI 0)
  have hT := ho.2.1
  have h32 := p2_32 ho
  rcases has_cases (x := x1) (n := nC pr) (by omega) with ⟨t, ht, rfl, hz⟩ | ⟨hno, hz⟩
  · rcases within_c (a := 0) (b := 2) x2 (by omega) (by omega) with ⟨k, _, hk, rfl, hw⟩ | ⟨hno, hw⟩
    · rcases hM7 t (by omega) with hq | ⟨_, w, hw9, hq⟩
      · refine PAIR.read h (r := -1) ?_ ?_
        · rw [e_X10_knew, c2, v_has, hP.2.1, hz, tbI_v, tn1, tlt0 (by omega), tltM (by omega) (by omega) hk, ttin (by omega) (by omega), nI_clamp (by omega), hC.2.1.1 t (by omega), tif_pos hq]
        · rw [e_X11_knew]
          dsimp only
          rw [r_isC hR0.1 ho ht, tbI_v, tn1, r_win (by omega) (by omega) hk, tbI_v, tn1, nI_add, ttin (by omega) (by omega), nI_clamp (by omega), gA_sI, hR.2.1.1 t (by omega), hq, tif_pos m1_lt]
      · obtain ⟨Ga, e1, o1, f1⟩ := c_foresee (r := 0) hP ho hS hs (by omega)
        have ht1 : gA Ga 1011 0 t = nI w := by rw [(f1 1011 0 (by unfold zO; omega)).2.2.2.1, hC.2.1.1 t (by omega), hq]
        have hkb := kB_lt (kP pr (σ 0) w) (2 ^ nH pr)
        have hkb2 : 2 ^ 2 ^ nH pr ≤ 2 ^ 32 := Nat.pow_le_pow_right (by omega) h32
        have hkc := kC_le (kP pr (σ 0) w) (2 ^ nH pr)
        have hpop := kB_pop (kP pr (σ 0) w) h32
        refine PAIR.scr (r := if k = 0 then nI (kC (kP pr (σ 0) w) (2 ^ nH pr)) else if kC (kP pr (σ 0) w) (2 ^ nH pr) = 0 then -1 else if k = 1 then nI (kA (kP pr (σ 0) w) (2 ^ nH pr - 1) (2 ^ nH pr)) else nI (kO (kP pr (σ 0) w) (2 ^ nH pr))) hM hN hC hR ?_ (zO_V f1) fun hR1 => ?_
        · rw [e_X10_knew, c2, v_has, hP.2.1, hz, tbI_v, tn1, tlt0 (by omega), tltM (by omega) (by omega) hk, ttin (by omega) (by omega), nI_clamp (by omega), hC.2.1.1 t (by omega), hq, teqm1 (by omega), show (-1 : Int32) = hI 0 from rfl, e1, tbV_v, ttin (by omega) (by omega), ht1, v_setsWorth ho o1 hw9, tbI_v]
          by_cases k0 : k = 0
          · rw [if_pos k0, k0, tn0, v_bits (by omega), hpop, tbI_v]
          · rw [if_neg k0, tz0M (by omega) k0]
            by_cases hc0 : kC (kP pr (σ 0) w) (2 ^ nH pr) = 0
            · rw [if_pos hc0, (kC_zero ho).mpr hc0, tn0]
            · have hb0 : kB (kP pr (σ 0) w) (2 ^ nH pr) ≠ 0 := fun q => hc0 ((kC_zero ho).mp q)
              have hne : ¬ nI (kB (kP pr (σ 0) w) (2 ^ nH pr)) = 0 := by
                intro q2
                have q3 := congrArg (fun z : Int32 => z.toBitVec.toNat) q2
                have q4 : (BitVec.ofNat 32 (kB (kP pr (σ 0) w) (2 ^ nH pr))).toNat = 0 := q3
                rw [BitVec.toNat_ofNat, Nat.mod_eq_of_lt (by omega)] at q4
                exact hb0 q4
              rw [if_neg hc0, tif_neg hne]
              by_cases k1 : k = 1
              · rw [if_pos k1, teqP k1, v_inAll ho o1 kP_0 kP_end, tbI_v]
              · rw [if_neg k1, teqM (by omega) (by omega) k1, v_inSome ho kP_0 kP_end, tbI_v]
        · have hR2 := hR1.1.thr (nI 0)
          obtain ⟨G2, e2, x1, x2, x3, x4, f2⟩ := r_findKnew (c := t) (w := w) hR2.1 ho hR2.2.2.2.1 hs (by omega) hw9 (by rw [gA_sI, hR1.2.1.1 t (by omega), hq])
          have f3 : tfr zN Ga G2 := (tfr.sI (by unfold zN; omega)).tr (zF_N f2)
          refine ⟨G2, ?_, zN_X f3, fun i _ => by rw [zN_a f3]⟩
          rw [e_X11_knew]
          dsimp only
          rw [r_isC hR2.1 ho ht, tbI_v, tn1, r_win (by omega) (by omega) hk, tbI_v, tn1, nI_add, ttin (by omega) (by omega), nI_clamp (by omega), gA_sI, hR1.2.1.1 t (by omega), hq, tlt0 (by omega), e2, tbV_v, x1, x2, x3]
          by_cases k0 : k = 0
          · rw [if_pos k0, k0, tn0]
          · rw [if_neg k0, tz0M (by omega) k0, teq0 (by omega)]
            by_cases hc0 : kC (kP pr (σ 0) w) (2 ^ nH pr) = 0
            · rw [if_pos hc0, if_pos hc0]
            · rw [if_neg hc0, if_neg hc0]
              by_cases k1 : k = 1
              · rw [if_pos k1, teqP k1]
              · rw [if_neg k1, teqM (by omega) (by omega) k1]
    · refine PAIR.read h (r := -1) ?_ ?_
      · rw [e_X10_knew, c2, v_has, hP.2.1, hz, tbI_v, tn1]
        by_cases h1 : x2 < 0
        · rw [tif_pos h1]
        · obtain ⟨k, hk, rfl⟩ := nI_of h1
          rw [tif_neg h1, tltP (by omega) hk (Nat.lt_of_not_le fun q => hno ⟨k, by omega, q, rfl⟩)]
      · rw [e_X11_knew]
        dsimp only
        rw [r_isC hR0.1 ho ht, tbI_v, tn1, r_within, hw, tbI_v, tn0]
  · refine PAIR.read h (r := -1) ?_ ?_
    · rw [e_X10_knew, c2, v_has, hP.2.1, hz, tbI_v, tn0]
    · rw [e_X11_knew]
      dsimp only
      rw [r_isCompany _ hR0.1, hz, tbI_v, tn0]
/-! secret -/
def twN (t : Nat → Int32) (c : Nat) : Nat := (t c).toNatClampNeg
noncomputable def scN (pr : mP) (s : mS) (t : Nat → Int32) : Nat → Nat
  | 0 => 2 ^ nH pr - 1
  | n + 1 => if t n = -1 then scN pr s t n else scN pr s t n &&& kO (kP pr s (twN t n)) (2 ^ nH pr)
theorem okT_tw {pr : mP} {t : Nat → Int32} (h : okT pr t) {c : Nat} (hc : c < 5) (h1 : t c ≠ -1) : t c = nI (twN t c) ∧ twN t c ≤ 99999 := by
  rcases h c hc with q | ⟨_, w, hw, q⟩
  · exact absurd q h1
  · have : twN t c = w := by unfold twN; rw [q, nI_clamp (by omega)]
    rw [this]
    exact ⟨q, hw⟩
theorem p_secret {G : tH} (h : INV G) : PAIR (V_X10_secret) (V_X11_secret) G := by
  obtain ⟨p, fr, q, pr, lw, σ, τ, ν, L, tx, nm, hM, hN, hC, hR⟩ := id h
  obtain ⟨ho, hs, hu, hM4, hM5, hM6, hM7, _⟩ := id hM
  obtain ⟨c1, c2, c3, hP, c5, c6, hS, _⟩ := hC.1
  have hT := ho.2.1
  have h32 := p2_32 ho
  obtain ⟨Ga, e1, o1, f1⟩ := c_foresee (r := 0) hP ho hS hs (by omega)
  refine PAIR.scr (r := nI (scN pr (σ 0) (τ 0) (nC pr))) hM hN hC hR (G1 := Ga) ?_ (zO_V f1) fun hR1 => ?_
  · have hCa := hC.scr ((zO_V f1).mono fun f o z => z.1)
    have key : ∀ n i, i + n = nC pr → V_X10_secret_22 (nI (scN pr (σ 0) (τ 0) i)) (nI i) Ga = some (some (vI (nI (scN pr (σ 0) (τ 0) (nC pr)))), Ga) := by
      intro n
      induction n with
      | zero =>
        intro i hi
        rw [e_X10_secret_22, hCa.1.2.1, hCa.1.2.2.2.1.2.1, tltM (by omega) (by omega) (by omega), show i = nC pr by omega]
      | succ n ih =>
        intro i hi
        have h2 := ih (i + 1) (by omega)
        rw [scN] at h2
        rw [e_X10_secret_22, hCa.1.2.1, hCa.1.2.2.2.1.2.1, tltP (by omega) (by omega) (by omega), ttin (by omega) (by omega), nI_clamp (by omega), hCa.2.1.1 i (by omega), nI_add]
        by_cases hq : τ 0 i = -1
        · rw [tif_pos hq]; rw [if_pos hq] at h2; exact h2
        · obtain ⟨q1, q2⟩ := okT_tw hM7 (show i < 5 by omega) hq
          rw [tif_neg hq, ttin (by omega) (by omega), q1, v_setsWorth ho o1 q2, tbI_v, v_inSome ho kP_0 kP_end, tbI_v, nI_and]
          rw [if_neg hq] at h2
          exact h2
    rw [e_X10_secret, c2, v_all hP ho, tbI_v, show (-1 : Int32) = hI 0 from rfl, e1, tbV_v]
    exact key (nC pr) 0 (by omega)
  · have hR2 := hR1.1.thr (nI 0)
    have key : ∀ n i G1, i + n = nC pr → tfr zN Ga G1 → ∃ G2, V_X11_secret_16 (nI (scN pr (σ 0) (τ 0) i)) (nI i) G1 = some (some (vI (nI (scN pr (σ 0) (τ 0) (nC pr)))), G2) ∧ tfr zN Ga G2 := by
      intro n
      induction n with
      | zero =>
        intro i G1 hi g1
        have hR3 := hR1.1.sc g1
        refine ⟨G1, ?_, g1⟩
        rw [e_X11_secret_16, r_companies hR3.1, tbI_v, tltM (by omega) (by omega) (by omega), show i = nC pr by omega]
      | succ n ih =>
        intro i G1 hi g1
        have hR3 := hR1.1.sc g1
        have hta : gA G1 1124 0 (56 + i) = τ 0 i := by rw [zN_a g1, hR1.2.1.1 i (by omega)]
        rw [e_X11_secret_16, r_companies hR3.1, tbI_v, tltP (by omega) (by omega) (by omega)]
        simp (disch := omega) only [nI_add, ttin, nI_clamp, hta]
        by_cases hq : τ 0 i = -1
        · rw [hq, tif_pos m1_lt]
          have h2 := ih (i + 1) G1 (by omega) g1
          rw [scN, if_pos hq] at h2
          exact h2
        · obtain ⟨q1, q2⟩ := okT_tw hM7 (show i < 5 by omega) hq
          obtain ⟨G2, e2, y1, y2, y3, y4, f2⟩ := r_findKnew (c := i) (w := twN (τ 0) i) hR3.1 ho hR3.2.2.2.1 hs (by omega) q2 (by rw [hta, q1])
          rw [q1, tlt0 (by omega), e2, tbV_v, y3, nI_and]
          have h2 := ih (i + 1) G2 (by omega) (g1.tr (zF_N f2))
          rw [scN, if_neg hq] at h2
          exact h2
    obtain ⟨G2, e2, f2⟩ := key (nC pr) 0 (sI Ga 1100 0 (nI 0)) (by omega) (tfr.sI (by unfold zN; omega))
    refine ⟨G2, ?_, zN_X f2, fun i _ => by rw [zN_a f2]⟩
    rw [e_X11_secret]
    dsimp only
    rw [r_harvests hR2.1, tbI_v, r_all (G := Ga) ho]
    exact e2
