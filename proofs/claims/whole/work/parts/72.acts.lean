/-! PURE: the acts of both, with what can be undone -/
theorem teqm1 {a : Nat} {x y : Option tRes} (ha : a < 2 ^ 31) : tif (nI a = -1) x y = y := tif_neg (m1_ne ha)
theorem hI_m2 {h : Nat} (hh : h < 2 ^ 30) : hI h ≠ (-2 : Int32) := by
  intro e
  unfold hI at e
  by_cases h0 : h = 0
  · rw [if_pos h0] at e
    exact absurd e (by decide +kernel)
  · rw [if_neg h0] at e
    have h1 := nI_pos (show h - 1 < 2 ^ 31 by omega)
    rw [e] at h1
    exact h1 (by decide +kernel)
theorem R1.thr {G : tH} {pr : mP} {lw : mL} {σ : Nat → mS} {ν : Nat → Nat} (h : R1 G pr lw σ ν) (v : Int32) : R1 (sI G 1100 0 v) pr lw σ ν := by
  obtain ⟨h1, h2, h3, h4, h5, h6, h7⟩ := h
  refine ⟨h1, h2, h3, h4, ?_, h6, h7⟩
  rw [gI_ne (by omega)]
  exact h5
def zQ : Nat → Nat → Prop := fun f _ => f = 1100 ∨ f = 1122 ∨ f = 1123 ∨ f = 1124 ∨ f = 1125
theorem r_within (x : Int32) (a b : Nat) (G : tH) : V_X11_within x (nI a) (nI b) G = some (some (vI (if x < nI a then nI 0 else if nI b < x then nI 0 else nI 1)), G) := by
  rw [e_X11_within]
  simp only [tz0, tz1]
  simp only [tif_ite]
  split
  · rfl
  · split <;> rfl
theorem within_c {a b : Nat} (x : Int32) (hb : b < 2 ^ 31) (ha : a < 2 ^ 31) : (∃ k, a ≤ k ∧ k ≤ b ∧ x = nI k ∧ (if x < nI a then nI 0 else if nI b < x then nI 0 else nI 1) = nI 1) ∨ ((¬ ∃ k, a ≤ k ∧ k ≤ b ∧ x = nI k) ∧ (if x < nI a then nI 0 else if nI b < x then nI 0 else nI 1) = nI 0) := by
  by_cases h1 : x < nI a
  · refine Or.inr ⟨?_, if_pos h1⟩
    rintro ⟨k, k1, k2, rfl⟩
    rw [nI_ltI (by omega) ha] at h1
    omega
  · rw [if_neg h1]
    by_cases h2 : nI b < x
    · refine Or.inr ⟨?_, if_pos h2⟩
      rintro ⟨k, k1, k2, rfl⟩
      rw [nI_ltI hb (by omega)] at h2
      omega
    · rw [if_neg h2]
      have h0 : ¬ x < 0 := fun q => h1 (Int32.lt_of_lt_of_le q (nI_pos' ha))
      obtain ⟨k, hk, rfl⟩ := nI_of h0
      rw [nI_ltI hk ha] at h1
      rw [nI_ltI hb hk] at h2
      exact Or.inl ⟨k, by omega, by omega, rfl, rfl⟩
def RQ (G G' : tH) (pr : mP) (lw : mL) (σ : Nat → mS) (ν : Nat → Nat) : Prop := R1 G' pr lw σ ν ∧ tfr zQ G G' ∧ ∀ k, 56 ≤ k → k < 305 → gA G' 1124 0 k = gA G 1124 0 k
theorem RQ.same {G : tH} {pr : mP} {lw : mL} {σ : Nat → mS} {ν : Nat → Nat} (h : R1 G pr lw σ ν) : RQ G (sI G 1100 0 (nI 0)) pr lw σ ν := ⟨h.thr _, tfr.sI (Or.inl rfl), fun _ _ _ => rfl⟩
theorem r_kept {G : tH} {pr : mP} {lw : mL} {σ : Nat → mS} {ν : Nat → Nat} (h : R1 G pr lw σ ν) (ho : okP pr) (hu : ν 0 ≤ 16) : ∃ G1, V_X11_keeps (sI G 1100 0 (nI 0)) = some (none, G1) ∧ rP G1 pr ∧ rL G1 0 (lw 0) ∧ rL G1 1 (lw 1) ∧ rS (gA G1 1124 0) 0 pr (σ 0) ∧ ∀ G2 s, rD G1 G2 0 pr s → RQ G G2 pr lw (psS σ (ν 0) s) (psN ν) := by
  obtain ⟨h1, h2, h3, h4, h5, h6, h7⟩ := h
  obtain ⟨G1, e, f1, g1, x1, x2⟩ := r_keeps (G := sI G 1100 0 (nI 0)) hu (by rw [gI_ne (by omega)]; exact h5)
  rw [gA_sI] at x1 x2
  have f01 : tfr zQ G G1 := (tfr.sI (Or.inl rfl)).tr (f1.mono fun f o q => by unfold zK at q; unfold zQ; omega)
  have n0 : ¬ zQ 1110 0 := by unfold zQ; omega
  have n1 : ¬ zQ 1111 0 := by unfold zQ; omega
  have n2 : ¬ zQ 1112 0 := by unfold zQ; omega
  refine ⟨G1, e, h1.kept f01 n0, h2.kept f01 n0 n1 n2, h3.kept f01 n0 n1 n2, h4.ext ho fun i _ hi => x2 i (by omega), fun G2 s hd => ?_⟩
  obtain ⟨d1, d2, d3⟩ := hd
  have f02 : tfr zQ G G2 := f01.tr (d3.mono fun f o q => by unfold zR at q; unfold zQ; omega)
  refine ⟨⟨h1.kept f02 n0, h2.kept f02 n0 n1 n2, h3.kept f02 n0 n1 n2, ?_, ?_, fun k hk => ?_, fun m hm => ?_⟩, f02, fun k k1 k2 => ?_⟩
  · rw [psS_0]; exact d1
  · rw [(d3 1125 0 (by unfold zR; omega)).1, g1, psN_0]
  · rw [psN_0] at hk
    unfold psS
    rw [if_neg (by omega), if_neg (by omega)]
    have hx : ∀ j, j < 56 → gA G2 1124 0 (61 * (5 + k) + j) = _ := fun j hj => (d2 _ (by omega)).trans (x1 k hk j hj)
    by_cases h16 : ν 0 = 16
    · rw [if_pos h16]
      by_cases hk2 : 5 + k = 20
      · rw [if_pos hk2]
        refine h4.move ho fun j hj => ?_
        rw [hx j hj, if_pos h16, if_pos (by omega), Nat.zero_add]
      · rw [if_neg hk2]
        refine (h6 (k + 1) (by omega)).move ho fun j hj => ?_
        rw [hx j hj, if_pos h16, if_neg (by omega)]
    · rw [if_neg h16]
      by_cases hk2 : 5 + k = 5 + ν 0
      · rw [if_pos hk2]
        refine h4.move ho fun j hj => ?_
        rw [hx j hj, if_neg h16, if_pos (by omega), Nat.zero_add]
      · rw [if_neg hk2]
        refine (h6 k (by omega)).move ho fun j hj => ?_
        rw [hx j hj, if_neg h16, if_neg (by omega)]
  · rw [psS_m hm.1]
    have hm4 := hm.1
    refine (h7 m (mkB_ps.mp hm)).ext ho fun i i1 i2 => ?_
    rw [d2 _ (by omega), x2 _ (by omega)]
  · rw [d2 _ (by omega), x2 _ (by omega)]

theorem k_bid {G : tH} {p fr : Nat} {pr : mP} {lw : mL} {σ : Nat → mS} {ν : Nat → Nat} (h : C1 G p fr pr lw σ ν) (ho : okP pr) (hs : okS pr (σ 0)) (hu : ν 0 ≤ 16) {c x : Nat} (hm : mayBid pr (σ 0) c x) : ∃ G' fr', V_X10_bid (nI c) (nI x) G = some (some (vI (nI 1)), G') ∧ C1 G' p fr' pr lw (psS σ (ν 0) (fBid (σ 0) c x)) (psN ν) ∧ tfr zC G G' := by
  obtain ⟨G1, e1, k, k0, f1⟩ := c_lay h ho hu
  obtain ⟨k1, k2, k3, k4, k5, k6, k7, k8, k9, k10, k11, k12⟩ := id k
  obtain ⟨G2, e2, s2, f2⟩ := c_bid k4 ho k7 hs hm
  obtain ⟨G3, fr', e3, c3, f3⟩ := c_did k k0 f1 hu s2 f2
  refine ⟨G3, fr', ?_, c3, f3⟩
  rw [e_X10_bid, e1, tbV_v, e2, tbI_v, e3, tbI_v, tz1]
theorem k_bid_n {G : tH} {p fr : Nat} {pr : mP} {lw : mL} {σ : Nat → mS} {ν : Nat → Nat} (h : C1 G p fr pr lw σ ν) (ho : okP pr) (hs : okS pr (σ 0)) (hu : ν 0 ≤ 16) {x1 x2 : Int32} (hn : ∀ c x, x1 = nI c → x2 = nI x → ¬ mayBid pr (σ 0) c x) : ∃ G', V_X10_bid x1 x2 G = some (some (vI (nI 0)), G') ∧ C1 G' p fr pr lw σ ν ∧ tfr zC G G' := by
  obtain ⟨G1, e1, k, k0, f1⟩ := c_lay h ho hu
  refine ⟨G1, ?_, k, f1⟩
  obtain ⟨k1, k2, k3, k4, k5, k6, k7, k8, k9, k10, k11, k12⟩ := k
  rw [e_X10_bid, e1, tbV_v, n_bid k4 ho k7 hs hn, tbI_v, c_settle0, tbI_v, tz0]
theorem k_award {G : tH} {p fr : Nat} {pr : mP} {lw : mL} {σ : Nat → mS} {ν : Nat → Nat} (h : C1 G p fr pr lw σ ν) (ho : okP pr) (hs : okS pr (σ 0)) (hu : ν 0 ≤ 16) (hm : mayAward pr (σ 0)) : ∃ G' fr', V_X10_award  G = some (some (vI (hI ((fAward pr (σ 0)).1 10 0))), G') ∧ C1 G' p fr' pr lw (psS σ (ν 0) (fAward pr (σ 0))) (psN ν) ∧ tfr zC G G' := by
  obtain ⟨G1, e1, k, k0, f1⟩ := c_lay h ho hu
  obtain ⟨k1, k2, k3, k4, k5, k6, k7, k8, k9, k10, k11, k12⟩ := id k
  obtain ⟨G2, e2, s2, f2⟩ := c_award k4 ho k7 hs hm
  obtain ⟨G3, fr', e3, c3, f3⟩ := c_did k k0 f1 hu s2 f2
  refine ⟨G3, fr', ?_, c3, f3⟩
  have q : (fAward pr (σ 0)).1 10 0 < 2 ^ 30 := by
    have := (ok_award hs hm).2.2.2.2.1
    have := ho.2.1
    omega
  rw [e_X10_award, e1, tbV_v, e2, tbI_v, tif_neg (hI_m2 q), e_X10_award_34, e3, tbI_v]
theorem k_award_n {G : tH} {p fr : Nat} {pr : mP} {lw : mL} {σ : Nat → mS} {ν : Nat → Nat} (h : C1 G p fr pr lw σ ν) (ho : okP pr) (hs : okS pr (σ 0)) (hu : ν 0 ≤ 16) (hn : ¬ mayAward pr (σ 0)) : ∃ G', V_X10_award  G = some (some (vI (-2)), G') ∧ C1 G' p fr pr lw σ ν ∧ tfr zC G G' := by
  obtain ⟨G1, e1, k, k0, f1⟩ := c_lay h ho hu
  refine ⟨G1, ?_, k, f1⟩
  obtain ⟨k1, k2, k3, k4, k5, k6, k7, k8, k9, k10, k11, k12⟩ := k
  rw [e_X10_award, e1, tbV_v, n_award k4 ho k7 hs hn, tbI_v, tif_pos rfl, e_X10_award_34, c_settle0, tbI_v]
theorem k_year {G : tH} {p fr : Nat} {pr : mP} {lw : mL} {σ : Nat → mS} {ν : Nat → Nat} (h : C1 G p fr pr lw σ ν) (ho : okP pr) (hs : okS pr (σ 0)) (hu : ν 0 ≤ 16) {h1 : Nat} (hm : mayYear pr (σ 0) h1) : ∃ G' fr', V_X10_year (nI h1) G = some (some (vI (nI (sumN (yC pr (σ 0) h1) (nT pr)))), G') ∧ C1 G' p fr' pr lw (psS σ (ν 0) (fYear pr lw (σ 0) h1)) (psN ν) ∧ tfr zC G G' := by
  obtain ⟨G1, e1, k, k0, f1⟩ := c_lay h ho hu
  obtain ⟨k1, k2, k3, k4, k5, k6, k7, k8, k9, k10, k11, k12⟩ := id k
  obtain ⟨G2, e2, s2, f2⟩ := c_year k4 ho k7 hs k6 hm
  obtain ⟨G3, fr', e3, c3, f3⟩ := c_did k k0 f1 hu s2 f2
  refine ⟨G3, fr', ?_, c3, f3⟩
  have hbd : sumN (yC pr (σ 0) h1) (nT pr) < 2 ^ 31 := by
    have q1 := sumN_le (f := yC pr (σ 0) h1) (M := 9999) (nT pr) fun i _ => yC_le pr (σ 0) h1 i
    have q2 := Nat.mul_le_mul_right 9999 ho.1
    omega
  rw [e_X10_year, e1, tbV_v, e2, tbI_v, teqm1 hbd, e_X10_year_34, e3, tbI_v]
theorem k_year_n {G : tH} {p fr : Nat} {pr : mP} {lw : mL} {σ : Nat → mS} {ν : Nat → Nat} (h : C1 G p fr pr lw σ ν) (ho : okP pr) (hs : okS pr (σ 0)) (hu : ν 0 ≤ 16) {x1 : Int32} (hn : ∀ h1, x1 = nI h1 → ¬ mayYear pr (σ 0) h1) : ∃ G', V_X10_year x1 G = some (some (vI (-1)), G') ∧ C1 G' p fr pr lw σ ν ∧ tfr zC G G' := by
  obtain ⟨G1, e1, k, k0, f1⟩ := c_lay h ho hu
  refine ⟨G1, ?_, k, f1⟩
  obtain ⟨k1, k2, k3, k4, k5, k6, k7, k8, k9, k10, k11, k12⟩ := k
  rw [e_X10_year, e1, tbV_v, n_year k4 ho k7 hs hn, tbI_v, tif_pos rfl, e_X10_year_34, c_settle0, tbI_v]
theorem k_take {G : tH} {p fr : Nat} {pr : mP} {lw : mL} {σ : Nat → mS} {ν : Nat → Nat} (h : C1 G p fr pr lw σ ν) (ho : okP pr) (hs : okS pr (σ 0)) (hu : ν 0 ≤ 16) {t x : Nat} (hm : mayTake pr (σ 0) t x) : ∃ G' fr', V_X10_take (nI t) (nI x) G = some (some (vI (nI (aTake pr (σ 0) t x))), G') ∧ C1 G' p fr' pr lw (psS σ (ν 0) (fTake pr (σ 0) t x)) (psN ν) ∧ tfr zC G G' := by
  obtain ⟨G1, e1, k, k0, f1⟩ := c_lay h ho hu
  obtain ⟨k1, k2, k3, k4, k5, k6, k7, k8, k9, k10, k11, k12⟩ := id k
  obtain ⟨G2, e2, s2, f2⟩ := c_take k4 ho k7 hs hm
  obtain ⟨G3, fr', e3, c3, f3⟩ := c_did k k0 f1 hu s2 f2
  refine ⟨G3, fr', ?_, c3, f3⟩
  have hbd : aTake pr (σ 0) t x < 2 ^ 31 := by
    have q := hs.1 t hm.2.1
    have := hm.2.2.2.2.1
    unfold aTake
    omega
  rw [e_X10_take, e1, tbV_v, e2, tbI_v, teqm1 hbd, e_X10_take_35, e3, tbI_v]
theorem k_take_n {G : tH} {p fr : Nat} {pr : mP} {lw : mL} {σ : Nat → mS} {ν : Nat → Nat} (h : C1 G p fr pr lw σ ν) (ho : okP pr) (hs : okS pr (σ 0)) (hu : ν 0 ≤ 16) {x1 x2 : Int32} (hn : ∀ t x, x1 = nI t → x2 = nI x → ¬ mayTake pr (σ 0) t x) : ∃ G', V_X10_take x1 x2 G = some (some (vI (-1)), G') ∧ C1 G' p fr pr lw σ ν ∧ tfr zC G G' := by
  obtain ⟨G1, e1, k, k0, f1⟩ := c_lay h ho hu
  refine ⟨G1, ?_, k, f1⟩
  obtain ⟨k1, k2, k3, k4, k5, k6, k7, k8, k9, k10, k11, k12⟩ := k
  rw [e_X10_take, e1, tbV_v, n_take k4 ho k7 hs hn, tbI_v, tif_pos rfl, e_X10_take_35, c_settle0, tbI_v]
theorem k_lend {G : tH} {p fr : Nat} {pr : mP} {lw : mL} {σ : Nat → mS} {ν : Nat → Nat} (h : C1 G p fr pr lw σ ν) (ho : okP pr) (hs : okS pr (σ 0)) (hu : ν 0 ≤ 16) {t x : Nat} (hm : mayLend pr (σ 0) t x) : ∃ G' fr', V_X10_lend (nI t) (nI x) G = some (some (vI (nI (min 9999 ((σ 0).1 5 t + x)))), G') ∧ C1 G' p fr' pr lw (psS σ (ν 0) (fLend (σ 0) t x)) (psN ν) ∧ tfr zC G G' := by
  obtain ⟨G1, e1, k, k0, f1⟩ := c_lay h ho hu
  obtain ⟨k1, k2, k3, k4, k5, k6, k7, k8, k9, k10, k11, k12⟩ := id k
  obtain ⟨G2, e2, s2, f2⟩ := c_lend k4 ho k7 hs hm
  obtain ⟨G3, fr', e3, c3, f3⟩ := c_did k k0 f1 hu s2 f2
  refine ⟨G3, fr', ?_, c3, f3⟩
  have hbd : min 9999 ((σ 0).1 5 t + x) < 2 ^ 31 := by omega
  rw [e_X10_lend, e1, tbV_v, e2, tbI_v, teqm1 hbd, e_X10_lend_35, e3, tbI_v]
theorem k_lend_n {G : tH} {p fr : Nat} {pr : mP} {lw : mL} {σ : Nat → mS} {ν : Nat → Nat} (h : C1 G p fr pr lw σ ν) (ho : okP pr) (hs : okS pr (σ 0)) (hu : ν 0 ≤ 16) {x1 x2 : Int32} (hn : ∀ t x, x1 = nI t → x2 = nI x → ¬ mayLend pr (σ 0) t x) : ∃ G', V_X10_lend x1 x2 G = some (some (vI (-1)), G') ∧ C1 G' p fr pr lw σ ν ∧ tfr zC G G' := by
  obtain ⟨G1, e1, k, k0, f1⟩ := c_lay h ho hu
  refine ⟨G1, ?_, k, f1⟩
  obtain ⟨k1, k2, k3, k4, k5, k6, k7, k8, k9, k10, k11, k12⟩ := k
  rw [e_X10_lend, e1, tbV_v, n_lend k4 ho k7 hs hn, tbI_v, tif_pos rfl, e_X10_lend_35, c_settle0, tbI_v]
theorem k_call {G : tH} {p fr : Nat} {pr : mP} {lw : mL} {σ : Nat → mS} {ν : Nat → Nat} (h : C1 G p fr pr lw σ ν) (ho : okP pr) (hs : okS pr (σ 0)) (hu : ν 0 ≤ 16) {t x : Nat} (hm : mayCall pr (σ 0) t x) : ∃ G' fr', V_X10_call (nI t) (nI x) G = some (some (vI (nI ((σ 0).1 5 t - x))), G') ∧ C1 G' p fr' pr lw (psS σ (ν 0) (fCall (σ 0) t x)) (psN ν) ∧ tfr zC G G' := by
  obtain ⟨G1, e1, k, k0, f1⟩ := c_lay h ho hu
  obtain ⟨k1, k2, k3, k4, k5, k6, k7, k8, k9, k10, k11, k12⟩ := id k
  obtain ⟨G2, e2, s2, f2⟩ := c_call k4 ho k7 hs hm
  obtain ⟨G3, fr', e3, c3, f3⟩ := c_did k k0 f1 hu s2 f2
  refine ⟨G3, fr', ?_, c3, f3⟩
  have hbd : (σ 0).1 5 t - x < 2 ^ 31 := by
    have q := hs.1 t hm.2.1
    omega
  rw [e_X10_call, e1, tbV_v, e2, tbI_v, teqm1 hbd, e_X10_call_35, e3, tbI_v]
theorem k_call_n {G : tH} {p fr : Nat} {pr : mP} {lw : mL} {σ : Nat → mS} {ν : Nat → Nat} (h : C1 G p fr pr lw σ ν) (ho : okP pr) (hs : okS pr (σ 0)) (hu : ν 0 ≤ 16) {x1 x2 : Int32} (hn : ∀ t x, x1 = nI t → x2 = nI x → ¬ mayCall pr (σ 0) t x) : ∃ G', V_X10_call x1 x2 G = some (some (vI (-1)), G') ∧ C1 G' p fr pr lw σ ν ∧ tfr zC G G' := by
  obtain ⟨G1, e1, k, k0, f1⟩ := c_lay h ho hu
  refine ⟨G1, ?_, k, f1⟩
  obtain ⟨k1, k2, k3, k4, k5, k6, k7, k8, k9, k10, k11, k12⟩ := k
  rw [e_X10_call, e1, tbV_v, n_call k4 ho k7 hs hn, tbI_v, tif_pos rfl, e_X10_call_35, c_settle0, tbI_v]
theorem k_spare {G : tH} {p fr : Nat} {pr : mP} {lw : mL} {σ : Nat → mS} {ν : Nat → Nat} (h : C1 G p fr pr lw σ ν) (ho : okP pr) (hs : okS pr (σ 0)) (hu : ν 0 ≤ 16) {t : Nat} (hm : maySpare pr (σ 0) t) : ∃ G' fr', V_X10_spare (nI t) G = some (some (vI (nI (gftN pr lw (σ 0) t))), G') ∧ C1 G' p fr' pr lw (psS σ (ν 0) (fSpare pr lw (σ 0) t)) (psN ν) ∧ tfr zC G G' := by
  obtain ⟨G1, e1, k, k0, f1⟩ := c_lay h ho hu
  obtain ⟨k1, k2, k3, k4, k5, k6, k7, k8, k9, k10, k11, k12⟩ := id k
  obtain ⟨G2, e2, s2, f2⟩ := c_spare k4 ho k7 hs k5 hm
  obtain ⟨G3, fr', e3, c3, f3⟩ := c_did k k0 f1 hu s2 f2
  refine ⟨G3, fr', ?_, c3, f3⟩
  have hbd : gftN pr lw (σ 0) t < 2 ^ 31 := by
    have q := hs.1 t hm.2.1
    have := gftN_le (pr := pr) (lw := lw) (sg := σ 0) (t := t)
    omega
  rw [e_X10_spare, e1, tbV_v, e2, tbI_v, teqm1 hbd, e_X10_spare_34, e3, tbI_v]
theorem k_spare_n {G : tH} {p fr : Nat} {pr : mP} {lw : mL} {σ : Nat → mS} {ν : Nat → Nat} (h : C1 G p fr pr lw σ ν) (ho : okP pr) (hs : okS pr (σ 0)) (hu : ν 0 ≤ 16) {x1 : Int32} (hn : ∀ t, x1 = nI t → ¬ maySpare pr (σ 0) t) : ∃ G', V_X10_spare x1 G = some (some (vI (-1)), G') ∧ C1 G' p fr pr lw σ ν ∧ tfr zC G G' := by
  obtain ⟨G1, e1, k, k0, f1⟩ := c_lay h ho hu
  refine ⟨G1, ?_, k, f1⟩
  obtain ⟨k1, k2, k3, k4, k5, k6, k7, k8, k9, k10, k11, k12⟩ := k
  rw [e_X10_spare, e1, tbV_v, n_spare k4 ho k7 hs hn, tbI_v, tif_pos rfl, e_X10_spare_34, c_settle0, tbI_v]
theorem k_bribe {G : tH} {p fr : Nat} {pr : mP} {lw : mL} {σ : Nat → mS} {ν : Nat → Nat} (h : C1 G p fr pr lw σ ν) (ho : okP pr) (hs : okS pr (σ 0)) (hu : ν 0 ≤ 16) {j : Nat} (hm : mayBribe pr (σ 0) j) : ∃ G' fr', V_X10_bribe (nI j) G = some (some (vI (nI 1)), G') ∧ C1 G' p fr' pr lw (psS σ (ν 0) (fBribe pr (σ 0) j)) (psN ν) ∧ tfr zC G G' := by
  obtain ⟨G1, e1, k, k0, f1⟩ := c_lay h ho hu
  obtain ⟨k1, k2, k3, k4, k5, k6, k7, k8, k9, k10, k11, k12⟩ := id k
  obtain ⟨G2, e2, s2, f2⟩ := c_bribe k4 ho k7 hs hm
  obtain ⟨G3, fr', e3, c3, f3⟩ := c_did k k0 f1 hu s2 f2
  refine ⟨G3, fr', ?_, c3, f3⟩
  rw [e_X10_bribe, e1, tbV_v, e2, tbI_v, e3, tbI_v, tz1]
theorem k_bribe_n {G : tH} {p fr : Nat} {pr : mP} {lw : mL} {σ : Nat → mS} {ν : Nat → Nat} (h : C1 G p fr pr lw σ ν) (ho : okP pr) (hs : okS pr (σ 0)) (hu : ν 0 ≤ 16) {x1 : Int32} (hn : ∀ j, x1 = nI j → ¬ mayBribe pr (σ 0) j) : ∃ G', V_X10_bribe x1 G = some (some (vI (nI 0)), G') ∧ C1 G' p fr pr lw σ ν ∧ tfr zC G G' := by
  obtain ⟨G1, e1, k, k0, f1⟩ := c_lay h ho hu
  refine ⟨G1, ?_, k, f1⟩
  obtain ⟨k1, k2, k3, k4, k5, k6, k7, k8, k9, k10, k11, k12⟩ := k
  rw [e_X10_bribe, e1, tbV_v, n_bribe k4 ho k7 hs hn, tbI_v, c_settle0, tbI_v, tz0]
theorem k_sue {G : tH} {p fr : Nat} {pr : mP} {lw : mL} {σ : Nat → mS} {ν : Nat → Nat} (h : C1 G p fr pr lw σ ν) (ho : okP pr) (hs : okS pr (σ 0)) (hu : ν 0 ≤ 16) (hm : (σ 0).1 10 0 ≠ 0) : ∃ G' fr', V_X10_sue  G = some (some (vI (nI (if 2 * cntN pr (σ 0) < nJ pr then 0 else 1))), G') ∧ C1 G' p fr' pr lw (psS σ (ν 0) (fSue pr (σ 0))) (psN ν) ∧ tfr zC G G' := by
  obtain ⟨G1, e1, k, k0, f1⟩ := c_lay h ho hu
  obtain ⟨k1, k2, k3, k4, k5, k6, k7, k8, k9, k10, k11, k12⟩ := id k
  obtain ⟨G2, e2, s2, f2⟩ := c_sue k4 ho k7 hs hm
  obtain ⟨G3, fr', e3, c3, f3⟩ := c_did k k0 f1 hu s2 f2
  refine ⟨G3, fr', ?_, c3, f3⟩
  have hbd : (if 2 * cntN pr (σ 0) < nJ pr then 0 else 1) < 2 ^ 31 := by split <;> omega
  rw [e_X10_sue, e1, tbV_v, e2, tbI_v, teqm1 hbd, e_X10_sue_33, e3, tbI_v]
theorem k_sue_n {G : tH} {p fr : Nat} {pr : mP} {lw : mL} {σ : Nat → mS} {ν : Nat → Nat} (h : C1 G p fr pr lw σ ν) (ho : okP pr) (hs : okS pr (σ 0)) (hu : ν 0 ≤ 16) (hn : (σ 0).1 10 0 = 0) : ∃ G', V_X10_sue  G = some (some (vI (-1)), G') ∧ C1 G' p fr pr lw σ ν ∧ tfr zC G G' := by
  obtain ⟨G1, e1, k, k0, f1⟩ := c_lay h ho hu
  refine ⟨G1, ?_, k, f1⟩
  obtain ⟨k1, k2, k3, k4, k5, k6, k7, k8, k9, k10, k11, k12⟩ := k
  rw [e_X10_sue, e1, tbV_v, n_sue k4 ho k7 hs hn, tbI_v, tif_pos rfl, e_X10_sue_33, c_settle0, tbI_v]
theorem k_close {G : tH} {p fr : Nat} {pr : mP} {lw : mL} {σ : Nat → mS} {ν : Nat → Nat} (h : C1 G p fr pr lw σ ν) (ho : okP pr) (hs : okS pr (σ 0)) (hu : ν 0 ≤ 16) (hm : mayClose (σ 0)) : ∃ G' fr', V_X10_close  G = some (some (vI (nI 1)), G') ∧ C1 G' p fr' pr lw (psS σ (ν 0) (fClose (σ 0))) (psN ν) ∧ tfr zC G G' := by
  obtain ⟨G1, e1, k, k0, f1⟩ := c_lay h ho hu
  obtain ⟨k1, k2, k3, k4, k5, k6, k7, k8, k9, k10, k11, k12⟩ := id k
  obtain ⟨G2, e2, s2, f2⟩ := c_close k4 ho k7 hs hm
  obtain ⟨G3, fr', e3, c3, f3⟩ := c_did k k0 f1 hu s2 f2
  refine ⟨G3, fr', ?_, c3, f3⟩
  rw [e_X10_close, e1, tbV_v, e2, tbI_v, e3, tbI_v, tz1]
theorem k_close_n {G : tH} {p fr : Nat} {pr : mP} {lw : mL} {σ : Nat → mS} {ν : Nat → Nat} (h : C1 G p fr pr lw σ ν) (ho : okP pr) (hs : okS pr (σ 0)) (hu : ν 0 ≤ 16) (hn : ¬ mayClose (σ 0)) : ∃ G', V_X10_close  G = some (some (vI (nI 0)), G') ∧ C1 G' p fr pr lw σ ν ∧ tfr zC G G' := by
  obtain ⟨G1, e1, k, k0, f1⟩ := c_lay h ho hu
  refine ⟨G1, ?_, k, f1⟩
  obtain ⟨k1, k2, k3, k4, k5, k6, k7, k8, k9, k10, k11, k12⟩ := k
  rw [e_X10_close, e1, tbV_v, n_close k4 ho k7 hs hn, tbI_v, c_settle0, tbI_v, tz0]
theorem q_bid {G : tH} {pr : mP} {lw : mL} {σ : Nat → mS} {ν : Nat → Nat} (h : R1 G pr lw σ ν) (ho : okP pr) (hs : okS pr (σ 0)) (hu : ν 0 ≤ 16) {c x : Nat} (hm : mayBid pr (σ 0) c x) : ∃ G', V_X11_bid (nI c) (nI x) G = some (some (vI (nI 1)), G') ∧ RQ G G' pr lw (psS σ (ν 0) (fBid (σ 0) c x)) (psN ν) := by
  have h0 := h.thr (nI 0)
  obtain ⟨g1, g2, g3, g4, g5, g6, g7⟩ := id h0
  obtain ⟨G1, e1, p1, l0, l1, s1, fin⟩ := r_kept h ho hu
  have m2 : c < nC pr := hm.2.1
  have hN := ho.2.1
  have x0 : 0 ≤ x := (by omega : 0 ≤ x)
  have x9 : x ≤ 9999 := hm.2.2.1
  refine ⟨_, ?_, fin _ _ (r_bids p1 ho s1 hs (by omega) (x := x) m2)⟩
  rw [e_X11_bid]
  dsimp only
  rw [r_isCompany _ g1, if_pos (⟨nI_pos (by omega), (nI_ltI (by omega) (by omega)).mpr m2⟩ : ¬ nI c < 0 ∧ nI c < nI (nC pr)), tbI_v, tn1, r_within, if_neg (show ¬ nI x < nI 0 by rw [nI_ltI (by omega) (by omega)]; omega), if_neg (show ¬ nI 9999 < nI x by rw [nI_ltI (by omega) (by omega)]; omega), tbI_v, tn1, r_mayBid g1 ho g4 hs (by omega) m2 x9, bN_1 hm, tbI_v, tn1, e1, tbV_v]
  simp (disch := omega) only [nI_add, ttin, nI_clamp, tz1, Nat.zero_add]
theorem q_bid_n {G : tH} {pr : mP} {lw : mL} {σ : Nat → mS} {ν : Nat → Nat} (h : R1 G pr lw σ ν) (ho : okP pr) (hs : okS pr (σ 0)) (hu : ν 0 ≤ 16) {x1 x2 : Int32} (hn : ∀ c x, x1 = nI c → x2 = nI x → ¬ mayBid pr (σ 0) c x) : V_X11_bid x1 x2 G = some (some (vI (nI 0)), sI G 1100 0 (nI 0)) := by
  have h0 := h.thr (nI 0)
  obtain ⟨g1, g2, g3, g4, g5, g6, g7⟩ := id h0
  rw [e_X11_bid]
  dsimp only
  have hN := ho.2.1
  rw [r_isCompany _ g1]
  rcases has_cases (x := x1) (n := nC pr) (by omega) with ⟨c, m2, rfl, hz⟩ | ⟨hno, hz⟩
  · rw [hz, tbI_v, tn1]
    rw [r_within]
    rcases within_c (a := 0) (b := 9999) x2 (by omega) (by omega) with ⟨x, x0, x9, rfl, hw⟩ | ⟨hno, hw⟩
    · rw [hw, tbI_v, tn1, r_mayBid g1 ho g4 hs (by omega) m2 x9, bN_0 (hn c x rfl rfl), tbI_v, tn0, tz0]
    · rw [hw, tbI_v, tn0, tz0]
  · rw [hz, tbI_v, tn0, tz0]
theorem q_award {G : tH} {pr : mP} {lw : mL} {σ : Nat → mS} {ν : Nat → Nat} (h : R1 G pr lw σ ν) (ho : okP pr) (hs : okS pr (σ 0)) (hu : ν 0 ≤ 16) (hm : mayAward pr (σ 0)) : ∃ G', V_X11_award  G = some (some (vI (hI ((fAward pr (σ 0)).1 10 0))), G') ∧ RQ G G' pr lw (psS σ (ν 0) (fAward pr (σ 0))) (psN ν) := by
  have h0 := h.thr (nI 0)
  obtain ⟨g1, g2, g3, g4, g5, g6, g7⟩ := id h0
  obtain ⟨G1, e1, p1, l0, l1, s1, fin⟩ := r_kept h ho hu
  obtain ⟨G2, e2, d2⟩ := r_awards p1 ho s1 hs (by omega) hm
  refine ⟨G2, ?_, fin _ _ d2⟩
  rw [e_X11_award]
  dsimp only
  rw [r_mayAward g1 ho g4 hs (by omega) , bN_1 hm, tbI_v, tn1, e1, tbV_v, e2, tbI_v]
theorem q_award_n {G : tH} {pr : mP} {lw : mL} {σ : Nat → mS} {ν : Nat → Nat} (h : R1 G pr lw σ ν) (ho : okP pr) (hs : okS pr (σ 0)) (hu : ν 0 ≤ 16) (hn : ¬ mayAward pr (σ 0)) : V_X11_award  G = some (some (vI (-2)), sI G 1100 0 (nI 0)) := by
  have h0 := h.thr (nI 0)
  obtain ⟨g1, g2, g3, g4, g5, g6, g7⟩ := id h0
  rw [e_X11_award]
  dsimp only
  rw [r_mayAward g1 ho g4 hs (by omega), bN_0 hn, tbI_v, tn0]
theorem q_year {G : tH} {pr : mP} {lw : mL} {σ : Nat → mS} {ν : Nat → Nat} (h : R1 G pr lw σ ν) (ho : okP pr) (hs : okS pr (σ 0)) (hu : ν 0 ≤ 16) {h1 : Nat} (hm : mayYear pr (σ 0) h1) : ∃ G', V_X11_year (nI h1) G = some (some (vI (nI (sumN (yC pr (σ 0) h1) (nT pr)))), G') ∧ RQ G G' pr lw (psS σ (ν 0) (fYear pr lw (σ 0) h1)) (psN ν) := by
  have h0 := h.thr (nI 0)
  obtain ⟨g1, g2, g3, g4, g5, g6, g7⟩ := id h0
  obtain ⟨G1, e1, p1, l0, l1, s1, fin⟩ := r_kept h ho hu
  have m2 : h1 < nH pr := hm.2.2
  have hN := ho.2.2.1
  obtain ⟨G2, e2, d2⟩ := r_yearBy p1 ho s1 hs (by omega) l1 hm
  refine ⟨G2, ?_, fin _ _ d2⟩
  rw [e_X11_year]
  dsimp only
  rw [r_isHarvest _ g1, if_pos (⟨nI_pos (by omega), (nI_ltI (by omega) (by omega)).mpr m2⟩ : ¬ nI h1 < 0 ∧ nI h1 < nI (nH pr)), tbI_v, tn1, r_mayYear g1 ho g4 hs (by omega) m2, bN_1 hm, tbI_v, tn1, e1, tbV_v, e2, tbI_v]
theorem q_year_n {G : tH} {pr : mP} {lw : mL} {σ : Nat → mS} {ν : Nat → Nat} (h : R1 G pr lw σ ν) (ho : okP pr) (hs : okS pr (σ 0)) (hu : ν 0 ≤ 16) {x1 : Int32} (hn : ∀ h1, x1 = nI h1 → ¬ mayYear pr (σ 0) h1) : V_X11_year x1 G = some (some (vI (-1)), sI G 1100 0 (nI 0)) := by
  have h0 := h.thr (nI 0)
  obtain ⟨g1, g2, g3, g4, g5, g6, g7⟩ := id h0
  rw [e_X11_year]
  dsimp only
  have hN := ho.2.2.1
  rw [r_isHarvest _ g1]
  rcases has_cases (x := x1) (n := nH pr) (by omega) with ⟨h1, m2, rfl, hz⟩ | ⟨hno, hz⟩
  · rw [hz, tbI_v, tn1]
    rw [r_mayYear g1 ho g4 hs (by omega) m2, bN_0 (hn h1 rfl), tbI_v, tn0]
  · rw [hz, tbI_v, tn0]
theorem q_take {G : tH} {pr : mP} {lw : mL} {σ : Nat → mS} {ν : Nat → Nat} (h : R1 G pr lw σ ν) (ho : okP pr) (hs : okS pr (σ 0)) (hu : ν 0 ≤ 16) {t x : Nat} (hm : mayTake pr (σ 0) t x) : ∃ G', V_X11_take (nI t) (nI x) G = some (some (vI (nI (aTake pr (σ 0) t x))), G') ∧ RQ G G' pr lw (psS σ (ν 0) (fTake pr (σ 0) t x)) (psN ν) := by
  have h0 := h.thr (nI 0)
  obtain ⟨g1, g2, g3, g4, g5, g6, g7⟩ := id h0
  obtain ⟨G1, e1, p1, l0, l1, s1, fin⟩ := r_kept h ho hu
  have m2 : t < nT pr := hm.2.1
  have hN := ho.1
  have x0 : 1 ≤ x := hm.2.2.2.1
  have x9 : x ≤ 9999 := hm.2.2.2.2.1
  obtain ⟨G2, e2, d2⟩ := r_takes p1 ho s1 hs (by omega) hm
  refine ⟨G2, ?_, fin _ _ d2⟩
  rw [e_X11_take]
  dsimp only
  rw [r_isTown _ g1, if_pos (⟨nI_pos (by omega), (nI_ltI (by omega) (by omega)).mpr m2⟩ : ¬ nI t < 0 ∧ nI t < nI (nT pr)), tbI_v, tn1, r_within, if_neg (show ¬ nI x < nI 1 by rw [nI_ltI (by omega) (by omega)]; omega), if_neg (show ¬ nI 9999 < nI x by rw [nI_ltI (by omega) (by omega)]; omega), tbI_v, tn1, r_mayTake g1 ho g4 hs (by omega) m2 x9, bN_1 hm, tbI_v, tn1, e1, tbV_v, e2, tbI_v]
theorem q_take_n {G : tH} {pr : mP} {lw : mL} {σ : Nat → mS} {ν : Nat → Nat} (h : R1 G pr lw σ ν) (ho : okP pr) (hs : okS pr (σ 0)) (hu : ν 0 ≤ 16) {x1 x2 : Int32} (hn : ∀ t x, x1 = nI t → x2 = nI x → ¬ mayTake pr (σ 0) t x) : V_X11_take x1 x2 G = some (some (vI (-1)), sI G 1100 0 (nI 0)) := by
  have h0 := h.thr (nI 0)
  obtain ⟨g1, g2, g3, g4, g5, g6, g7⟩ := id h0
  rw [e_X11_take]
  dsimp only
  have hN := ho.1
  rw [r_isTown _ g1]
  rcases has_cases (x := x1) (n := nT pr) (by omega) with ⟨t, m2, rfl, hz⟩ | ⟨hno, hz⟩
  · rw [hz, tbI_v, tn1]
    rw [r_within]
    rcases within_c (a := 1) (b := 9999) x2 (by omega) (by omega) with ⟨x, x0, x9, rfl, hw⟩ | ⟨hno, hw⟩
    · rw [hw, tbI_v, tn1, r_mayTake g1 ho g4 hs (by omega) m2 x9, bN_0 (hn t x rfl rfl), tbI_v, tn0]
    · rw [hw, tbI_v, tn0]
  · rw [hz, tbI_v, tn0]
theorem q_lend {G : tH} {pr : mP} {lw : mL} {σ : Nat → mS} {ν : Nat → Nat} (h : R1 G pr lw σ ν) (ho : okP pr) (hs : okS pr (σ 0)) (hu : ν 0 ≤ 16) {t x : Nat} (hm : mayLend pr (σ 0) t x) : ∃ G', V_X11_lend (nI t) (nI x) G = some (some (vI (nI (min 9999 ((σ 0).1 5 t + x)))), G') ∧ RQ G G' pr lw (psS σ (ν 0) (fLend (σ 0) t x)) (psN ν) := by
  have h0 := h.thr (nI 0)
  obtain ⟨g1, g2, g3, g4, g5, g6, g7⟩ := id h0
  obtain ⟨G1, e1, p1, l0, l1, s1, fin⟩ := r_kept h ho hu
  have m2 : t < nT pr := hm.2.1
  have hN := ho.1
  have x0 : 1 ≤ x := hm.2.2.1
  have x9 : x ≤ 9999 := hm.2.2.2.1
  obtain ⟨G2, e2, d2⟩ := r_lends p1 ho s1 hs (by omega) hm
  refine ⟨G2, ?_, fin _ _ d2⟩
  rw [e_X11_lend]
  dsimp only
  rw [r_isTown _ g1, if_pos (⟨nI_pos (by omega), (nI_ltI (by omega) (by omega)).mpr m2⟩ : ¬ nI t < 0 ∧ nI t < nI (nT pr)), tbI_v, tn1, r_within, if_neg (show ¬ nI x < nI 1 by rw [nI_ltI (by omega) (by omega)]; omega), if_neg (show ¬ nI 9999 < nI x by rw [nI_ltI (by omega) (by omega)]; omega), tbI_v, tn1, r_mayLend g1 ho g4 hs (by omega) m2 x0 x9, bN_1 hm, tbI_v, tn1, e1, tbV_v, e2, tbI_v]
theorem q_lend_n {G : tH} {pr : mP} {lw : mL} {σ : Nat → mS} {ν : Nat → Nat} (h : R1 G pr lw σ ν) (ho : okP pr) (hs : okS pr (σ 0)) (hu : ν 0 ≤ 16) {x1 x2 : Int32} (hn : ∀ t x, x1 = nI t → x2 = nI x → ¬ mayLend pr (σ 0) t x) : V_X11_lend x1 x2 G = some (some (vI (-1)), sI G 1100 0 (nI 0)) := by
  have h0 := h.thr (nI 0)
  obtain ⟨g1, g2, g3, g4, g5, g6, g7⟩ := id h0
  rw [e_X11_lend]
  dsimp only
  have hN := ho.1
  rw [r_isTown _ g1]
  rcases has_cases (x := x1) (n := nT pr) (by omega) with ⟨t, m2, rfl, hz⟩ | ⟨hno, hz⟩
  · rw [hz, tbI_v, tn1]
    rw [r_within]
    rcases within_c (a := 1) (b := 9999) x2 (by omega) (by omega) with ⟨x, x0, x9, rfl, hw⟩ | ⟨hno, hw⟩
    · rw [hw, tbI_v, tn1, r_mayLend g1 ho g4 hs (by omega) m2 x0 x9, bN_0 (hn t x rfl rfl), tbI_v, tn0]
    · rw [hw, tbI_v, tn0]
  · rw [hz, tbI_v, tn0]
theorem q_call {G : tH} {pr : mP} {lw : mL} {σ : Nat → mS} {ν : Nat → Nat} (h : R1 G pr lw σ ν) (ho : okP pr) (hs : okS pr (σ 0)) (hu : ν 0 ≤ 16) {t x : Nat} (hm : mayCall pr (σ 0) t x) : ∃ G', V_X11_call (nI t) (nI x) G = some (some (vI (nI ((σ 0).1 5 t - x))), G') ∧ RQ G G' pr lw (psS σ (ν 0) (fCall (σ 0) t x)) (psN ν) := by
  have h0 := h.thr (nI 0)
  obtain ⟨g1, g2, g3, g4, g5, g6, g7⟩ := id h0
  obtain ⟨G1, e1, p1, l0, l1, s1, fin⟩ := r_kept h ho hu
  have m2 : t < nT pr := hm.2.1
  have hN := ho.1
  have x0 : 1 ≤ x := hm.2.2.1
  have x9 : x ≤ 9999 := (by have := hm.2.2.2.1; have := (hs.1 t m2).2.2.2; omega)
  obtain ⟨G2, e2, d2⟩ := r_calls p1 ho s1 hs (by omega) hm
  refine ⟨G2, ?_, fin _ _ d2⟩
  rw [e_X11_call]
  dsimp only
  rw [r_isTown _ g1, if_pos (⟨nI_pos (by omega), (nI_ltI (by omega) (by omega)).mpr m2⟩ : ¬ nI t < 0 ∧ nI t < nI (nT pr)), tbI_v, tn1, r_within, if_neg (show ¬ nI x < nI 1 by rw [nI_ltI (by omega) (by omega)]; omega), if_neg (show ¬ nI 9999 < nI x by rw [nI_ltI (by omega) (by omega)]; omega), tbI_v, tn1, r_mayCall g1 ho g4 hs (by omega) m2 x0 (by omega), bN_1 hm, tbI_v, tn1, e1, tbV_v, e2, tbI_v]
theorem q_call_n {G : tH} {pr : mP} {lw : mL} {σ : Nat → mS} {ν : Nat → Nat} (h : R1 G pr lw σ ν) (ho : okP pr) (hs : okS pr (σ 0)) (hu : ν 0 ≤ 16) {x1 x2 : Int32} (hn : ∀ t x, x1 = nI t → x2 = nI x → ¬ mayCall pr (σ 0) t x) : V_X11_call x1 x2 G = some (some (vI (-1)), sI G 1100 0 (nI 0)) := by
  have h0 := h.thr (nI 0)
  obtain ⟨g1, g2, g3, g4, g5, g6, g7⟩ := id h0
  rw [e_X11_call]
  dsimp only
  have hN := ho.1
  rw [r_isTown _ g1]
  rcases has_cases (x := x1) (n := nT pr) (by omega) with ⟨t, m2, rfl, hz⟩ | ⟨hno, hz⟩
  · rw [hz, tbI_v, tn1]
    rw [r_within]
    rcases within_c (a := 1) (b := 9999) x2 (by omega) (by omega) with ⟨x, x0, x9, rfl, hw⟩ | ⟨hno, hw⟩
    · rw [hw, tbI_v, tn1, r_mayCall g1 ho g4 hs (by omega) m2 x0 (by omega), bN_0 (hn t x rfl rfl), tbI_v, tn0]
    · rw [hw, tbI_v, tn0]
  · rw [hz, tbI_v, tn0]
theorem q_spare {G : tH} {pr : mP} {lw : mL} {σ : Nat → mS} {ν : Nat → Nat} (h : R1 G pr lw σ ν) (ho : okP pr) (hs : okS pr (σ 0)) (hu : ν 0 ≤ 16) {t : Nat} (hm : maySpare pr (σ 0) t) : ∃ G', V_X11_spare (nI t) G = some (some (vI (nI (gftN pr lw (σ 0) t))), G') ∧ RQ G G' pr lw (psS σ (ν 0) (fSpare pr lw (σ 0) t)) (psN ν) := by
  have h0 := h.thr (nI 0)
  obtain ⟨g1, g2, g3, g4, g5, g6, g7⟩ := id h0
  obtain ⟨G1, e1, p1, l0, l1, s1, fin⟩ := r_kept h ho hu
  have m2 : t < nT pr := hm.2.1
  have hN := ho.1
  obtain ⟨G2, e2, d2⟩ := r_spares p1 ho s1 hs (by omega) l0 hm
  refine ⟨G2, ?_, fin _ _ d2⟩
  rw [e_X11_spare]
  dsimp only
  rw [r_isTown _ g1, if_pos (⟨nI_pos (by omega), (nI_ltI (by omega) (by omega)).mpr m2⟩ : ¬ nI t < 0 ∧ nI t < nI (nT pr)), tbI_v, tn1, r_maySpare g1 ho g4 hs (by omega) m2, bN_1 hm, tbI_v, tn1, e1, tbV_v, e2, tbI_v]
theorem q_spare_n {G : tH} {pr : mP} {lw : mL} {σ : Nat → mS} {ν : Nat → Nat} (h : R1 G pr lw σ ν) (ho : okP pr) (hs : okS pr (σ 0)) (hu : ν 0 ≤ 16) {x1 : Int32} (hn : ∀ t, x1 = nI t → ¬ maySpare pr (σ 0) t) : V_X11_spare x1 G = some (some (vI (-1)), sI G 1100 0 (nI 0)) := by
  have h0 := h.thr (nI 0)
  obtain ⟨g1, g2, g3, g4, g5, g6, g7⟩ := id h0
  rw [e_X11_spare]
  dsimp only
  have hN := ho.1
  rw [r_isTown _ g1]
  rcases has_cases (x := x1) (n := nT pr) (by omega) with ⟨t, m2, rfl, hz⟩ | ⟨hno, hz⟩
  · rw [hz, tbI_v, tn1]
    rw [r_maySpare g1 ho g4 hs (by omega) m2, bN_0 (hn t rfl), tbI_v, tn0]
  · rw [hz, tbI_v, tn0]
theorem q_bribe {G : tH} {pr : mP} {lw : mL} {σ : Nat → mS} {ν : Nat → Nat} (h : R1 G pr lw σ ν) (ho : okP pr) (hs : okS pr (σ 0)) (hu : ν 0 ≤ 16) {j : Nat} (hm : mayBribe pr (σ 0) j) : ∃ G', V_X11_bribe (nI j) G = some (some (vI (nI 1)), G') ∧ RQ G G' pr lw (psS σ (ν 0) (fBribe pr (σ 0) j)) (psN ν) := by
  have h0 := h.thr (nI 0)
  obtain ⟨g1, g2, g3, g4, g5, g6, g7⟩ := id h0
  obtain ⟨G1, e1, p1, l0, l1, s1, fin⟩ := r_kept h ho hu
  have m2 : j < nJ pr := hm.2.1
  have hN := ho.2.2.2.1
  obtain ⟨G2, e2, d2⟩ := r_bribes p1 ho s1 hs (by omega) hm
  refine ⟨G2, ?_, fin _ _ d2⟩
  rw [e_X11_bribe]
  dsimp only
  rw [r_isJuror _ g1, if_pos (⟨nI_pos (by omega), (nI_ltI (by omega) (by omega)).mpr m2⟩ : ¬ nI j < 0 ∧ nI j < nI (nJ pr)), tbI_v, tn1, r_mayBribe g1 ho g4 hs (by omega) m2, bN_1 hm, tbI_v, tn1, e1, tbV_v, e2, tbV_v, tz1]
theorem q_bribe_n {G : tH} {pr : mP} {lw : mL} {σ : Nat → mS} {ν : Nat → Nat} (h : R1 G pr lw σ ν) (ho : okP pr) (hs : okS pr (σ 0)) (hu : ν 0 ≤ 16) {x1 : Int32} (hn : ∀ j, x1 = nI j → ¬ mayBribe pr (σ 0) j) : V_X11_bribe x1 G = some (some (vI (nI 0)), sI G 1100 0 (nI 0)) := by
  have h0 := h.thr (nI 0)
  obtain ⟨g1, g2, g3, g4, g5, g6, g7⟩ := id h0
  rw [e_X11_bribe]
  dsimp only
  have hN := ho.2.2.2.1
  rw [r_isJuror _ g1]
  rcases has_cases (x := x1) (n := nJ pr) (by omega) with ⟨j, m2, rfl, hz⟩ | ⟨hno, hz⟩
  · rw [hz, tbI_v, tn1]
    rw [r_mayBribe g1 ho g4 hs (by omega) m2, bN_0 (hn j rfl), tbI_v, tn0, tz0]
  · rw [hz, tbI_v, tn0, tz0]
theorem q_sue {G : tH} {pr : mP} {lw : mL} {σ : Nat → mS} {ν : Nat → Nat} (h : R1 G pr lw σ ν) (ho : okP pr) (hs : okS pr (σ 0)) (hu : ν 0 ≤ 16) (hm : (σ 0).1 10 0 ≠ 0) : ∃ G', V_X11_sue  G = some (some (vI (nI (if 2 * cntN pr (σ 0) < nJ pr then 0 else 1))), G') ∧ RQ G G' pr lw (psS σ (ν 0) (fSue pr (σ 0))) (psN ν) := by
  have h0 := h.thr (nI 0)
  obtain ⟨g1, g2, g3, g4, g5, g6, g7⟩ := id h0
  obtain ⟨G1, e1, p1, l0, l1, s1, fin⟩ := r_kept h ho hu
  obtain ⟨G2, e2, d2⟩ := r_sues p1 ho s1 hs (by omega) hm
  refine ⟨G2, ?_, fin _ _ d2⟩
  rw [e_X11_sue]
  dsimp only
  rw [r_isHeld g4 (by omega) ho hs, if_neg hm, tbI_v, tn1, e1, tbV_v, e2, tbI_v]
  by_cases hq : 2 * cntN pr (σ 0) < nJ pr
  · rw [if_pos hq, tn0]
  · rw [if_neg hq, tn1]
theorem q_sue_n {G : tH} {pr : mP} {lw : mL} {σ : Nat → mS} {ν : Nat → Nat} (h : R1 G pr lw σ ν) (ho : okP pr) (hs : okS pr (σ 0)) (hu : ν 0 ≤ 16) (hn : (σ 0).1 10 0 = 0) : V_X11_sue  G = some (some (vI (-1)), sI G 1100 0 (nI 0)) := by
  have h0 := h.thr (nI 0)
  obtain ⟨g1, g2, g3, g4, g5, g6, g7⟩ := id h0
  rw [e_X11_sue]
  dsimp only
  rw [r_isHeld g4 (by omega) ho hs, if_pos hn, tbI_v, tn0]
theorem q_close {G : tH} {pr : mP} {lw : mL} {σ : Nat → mS} {ν : Nat → Nat} (h : R1 G pr lw σ ν) (ho : okP pr) (hs : okS pr (σ 0)) (hu : ν 0 ≤ 16) (hm : mayClose (σ 0)) : ∃ G', V_X11_close  G = some (some (vI (nI 1)), G') ∧ RQ G G' pr lw (psS σ (ν 0) (fClose (σ 0))) (psN ν) := by
  have h0 := h.thr (nI 0)
  obtain ⟨g1, g2, g3, g4, g5, g6, g7⟩ := id h0
  obtain ⟨G1, e1, p1, l0, l1, s1, fin⟩ := r_kept h ho hu
  refine ⟨_, ?_, fin _ _ (r_closes p1 ho s1 hs (by omega))⟩
  rw [e_X11_close]
  dsimp only
  rw [r_mayClose g1 ho g4 hs (by omega) , bN_1 hm, tbI_v, tn1, e1, tbV_v]
  simp (disch := omega) only [nI_add, ttin, nI_clamp, tz1, Nat.zero_add]
theorem q_close_n {G : tH} {pr : mP} {lw : mL} {σ : Nat → mS} {ν : Nat → Nat} (h : R1 G pr lw σ ν) (ho : okP pr) (hs : okS pr (σ 0)) (hu : ν 0 ≤ 16) (hn : ¬ mayClose (σ 0)) : V_X11_close  G = some (some (vI (nI 0)), sI G 1100 0 (nI 0)) := by
  have h0 := h.thr (nI 0)
  obtain ⟨g1, g2, g3, g4, g5, g6, g7⟩ := id h0
  rw [e_X11_close]
  dsimp only
  rw [r_mayClose g1 ho g4 hs (by omega), bN_0 hn, tbI_v, tn0, tz0]
