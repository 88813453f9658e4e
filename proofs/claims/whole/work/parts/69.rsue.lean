/-! PURE: the reference: suits, gifts, years, copies -/
theorem r_sue_loop (b : Nat) (hb : b + 61 ≤ 1403) (G : tH) (r : Nat) (hr : r ≤ 1) : ∀ n i a, i + n = 5 → ∃ a', V_X11_sues_115 (nI b) (nI r) (nI i) (sA G 1124 0 a) = some (some (vI (nI r)), sA G 1124 0 a') ∧ (∀ k, b + 51 + i ≤ k → k < b + 56 → a' k = nI 0) ∧ ∀ k, k < b + 51 + i ∨ b + 56 ≤ k → a' k = a k := by
  intro n
  induction n with
  | zero =>
    intro i a hi
    refine ⟨a, ?_, fun k hk => by omega, fun k hk => rfl⟩
    rw [e_X11_sues_115, tltM (by omega) (by omega) (by omega)]
    rcases (show r = 0 ∨ r = 1 by omega) with h | h
    · rw [h, tz0]
    · rw [h, tz1]
  | succ n ih =>
    intro i a hi
    obtain ⟨a', e, h1, h2⟩ := ih (i + 1) (upd a (b + 51 + i) (nI 0)) (by omega)
    refine ⟨a', ?_, fun k hk hk2 => ?_, fun k hk => ?_⟩
    · rw [e_X11_sues_115, tltP (by omega) (by omega) (by omega)]
      simp (disch := omega) only [nI_add, ttin, nI_clamp, Nat.add_zero, gA_eq, gA_ne, upd_eq, upd_ne, sA_sA, tbI_v]
      exact e
    · by_cases hk1 : k = b + 51 + i
      · subst hk1
        rw [h2 _ (by omega), upd_eq]
      · exact h1 k (by omega) hk2
    · rw [h2 k (by omega), upd_ne (by omega)]
theorem fine_eq (x y : Int32) : (if x < y then x else y) = if y < x then y else x := by
  by_cases h1 : x < y
  · rw [if_pos h1, if_neg (Int32.not_lt.mpr (Int32.le_of_lt h1))]
  · rw [if_neg h1]
    by_cases h2 : y < x
    · rw [if_pos h2]
    · rw [if_neg h2]
      exact Int32.le_antisymm (Int32.not_lt.mp h1) (Int32.not_lt.mp h2)
theorem r_sues {G : tH} {b : Nat} {pr : mP} {sg : mS} (hP : rP G pr) (ho : okP pr) (hS : rS (gA G 1124 0) b pr sg) (hs : okS pr sg) (hb : b + 61 ≤ 1403) (m1 : sg.1 10 0 ≠ 0) : ∃ G', V_X11_sues (nI b) G = some (some (vI (nI (if 2 * cntN pr sg < nJ pr then 0 else 1))), G') ∧ rD G G' b pr (fSue pr sg) := by
  have hT := ho.1
  have hC := ho.2.1
  have hH := ho.2.2.1
  have hJ := ho.2.2.2.1
  have hh := hs.2.2.2.2.1
  have hh5 : mkH sg < 5 := by unfold mkH; omega
  have hhC : mkH sg < nC pr := by unfold mkH; omega
  have hhol : gA G 1124 0 b = nI (mkH sg) := by rw [hS.1, hI_pos m1]; rfl
  have k6 := (hS.2.2.2.2.2.2.1 _ hhC).1
  have hfr := r_isFree hP ho hS hs hb m1 (x := 0) (by omega)
  rw [vtN_0] at hfr
  rw [e_X11_sues, hfr, tbI_v]
  by_cases hf : 2 * cntN pr sg < nJ pr
  · rw [if_pos (show 2 * sumN (lgN pr sg) (nJ pr) < nJ pr from hf), if_pos hf, tn0]
    obtain ⟨a', e, h1, h2⟩ := r_sue_loop b hb G 0 (by omega) 5 0 (upd (upd (upd (upd (gA G 1124 0) (b + 41 + mkH sg) (sg.2 (mkH sg) - fineI sg)) (b + 3) (sg.2 11 + fineI sg)) b (-1)) (b + 2) (nI 0)) (by omega)
    have e64 : V_X11_sues_64 (nI b) (nI 0) (nI (mkH sg)) (fineI sg) G = some (some (vI (nI 0)), sA G 1124 0 a') := by
      rw [e_X11_sues_64]
      simp (disch := omega) only [nI_add, ttin, nI_clamp, Nat.add_zero, gA_eq, gA_ne, upd_eq, upd_ne, sA_sA, tbI_v, k6, hS.2.2.2.1]
      exact e
    refine ⟨sA G 1124 0 a', ?_, ⟨?_, ?_, ?_, ?_, ?_, fun t ht => ?_, fun c hc => ?_, fun j hj => ?_⟩, fun i hi => ?_, tfr.sA (Or.inr (Or.inr rfl))⟩
    · simp (disch := omega) only [nI_add, ttin, nI_clamp, Nat.add_zero, gA_eq, gA_ne, upd_eq, upd_ne, sA_sA, tbI_v, hhol, hS.2.2.1, k6]
      rw [← e64]
      unfold fineI
      rw [fine_eq]
      by_cases hq : sg.2 (mkH sg) < nI 2 * sg.2 10
      · rw [tif_pos hq, if_pos hq]
      · rw [tif_neg hq, if_neg hq]
    all_goals simp only [gA_eq]
    · rw [h2 _ (by omega)]; simp (disch := omega) only [upd_ne, upd_eq, fSue, if_pos hf, u1_eq, hI_0]
    · rw [h2 _ (by omega)]; simp (disch := omega) only [upd_ne, upd_eq, fSue, if_pos hf, u1_ni, z7_ne, hS.2.1]
    · rw [h2 _ (by omega)]; simp (disch := omega) only [upd_ne, upd_eq, fSue, if_pos hf, nI_0]
    · rw [h2 _ (by omega)]; simp (disch := omega) only [upd_ne, upd_eq, fSue, if_pos hf]
    · rw [h2 _ (by omega)]; simp (disch := omega) only [upd_ne, upd_eq, fSue, if_pos hf, u1_ni, z7_ne, hS.2.2.2.2.1]
    · obtain ⟨q1, q2, q3, q4, q5, q6⟩ := hS.2.2.2.2.2.1 t ht
      rw [h2 _ (by omega), h2 _ (by omega), h2 _ (by omega), h2 _ (by omega), h2 _ (by omega), h2 _ (by omega)]
      simp (disch := omega) only [upd_ne, fSue, if_pos hf, u1_nk, z7_ne, q1, q2, q3, q4, q5, q6, and_self]
    · obtain ⟨q1, q2⟩ := hS.2.2.2.2.2.2.1 c hc
      rw [h2 _ (by omega), h2 _ (by omega)]
      by_cases h : c = mkH sg
      · subst h
        simp (disch := omega) only [upd_ne, upd_eq, fSue, if_pos hf, u1_nk, z7_ne, q2, and_self]
      · simp (disch := omega) only [upd_ne, upd_eq, fSue, if_pos hf, u1_nk, z7_ne, q1, q2, and_self]
    · rw [h1 _ (by omega) (by omega)]
      simp (disch := omega) only [fSue, if_pos hf, u1_nk, z7_eq]
    · rw [h2 _ (by omega), upd_ne (by omega), upd_ne (by omega), upd_ne (by omega), upd_ne (by omega)]
  · rw [if_neg (show ¬ 2 * sumN (lgN pr sg) (nJ pr) < nJ pr from hf), if_neg hf, tn1]
    obtain ⟨a', e, h1, h2⟩ := r_sue_loop b hb G 1 (by omega) 5 0 (upd (gA G 1124 0) (b + 2) (nI 0)) (by omega)
    refine ⟨sA G 1124 0 a', ?_, ⟨?_, ?_, ?_, ?_, ?_, fun t ht => ?_, fun c hc => ?_, fun j hj => ?_⟩, fun i hi => ?_, tfr.sA (Or.inr (Or.inr rfl))⟩
    · simp (disch := omega) only [nI_add, ttin, nI_clamp, Nat.add_zero, gA_eq, gA_ne, upd_eq, upd_ne, sA_sA, tbI_v]
      exact e
    all_goals simp only [gA_eq]
    · rw [h2 _ (by omega)]; simp (disch := omega) only [upd_ne, fSue, if_neg hf, z7_ne, hS.1]
    · rw [h2 _ (by omega)]; simp (disch := omega) only [upd_ne, fSue, if_neg hf, z7_ne, hS.2.1]
    · rw [h2 _ (by omega)]; simp (disch := omega) only [upd_eq, fSue, if_neg hf, nI_0]
    · rw [h2 _ (by omega)]; simp (disch := omega) only [upd_ne, fSue, if_neg hf, hS.2.2.2.1]
    · rw [h2 _ (by omega)]; simp (disch := omega) only [upd_ne, fSue, if_neg hf, z7_ne, hS.2.2.2.2.1]
    · obtain ⟨q1, q2, q3, q4, q5, q6⟩ := hS.2.2.2.2.2.1 t ht
      rw [h2 _ (by omega), h2 _ (by omega), h2 _ (by omega), h2 _ (by omega), h2 _ (by omega), h2 _ (by omega)]
      simp (disch := omega) only [upd_ne, fSue, if_neg hf, z7_ne, q1, q2, q3, q4, q5, q6, and_self]
    · obtain ⟨q1, q2⟩ := hS.2.2.2.2.2.2.1 c hc
      rw [h2 _ (by omega), h2 _ (by omega)]
      simp (disch := omega) only [upd_ne, fSue, if_neg hf, z7_ne, q1, q2, and_self]
    · rw [h1 _ (by omega) (by omega)]
      simp (disch := omega) only [fSue, if_neg hf, z7_eq]
    · rw [h2 _ (by omega), upd_ne (by omega)]
/-! laws -/
theorem r_law0 {G : tH} {f : Int32 → Int32 → Int32 → Int32} (hL : rL G 0 f) (k : Int32 → tH → Option tRes) : ∃ G9, tif (gA G 1110 0 6 < 0) (k (nI 20) G) (tbI (V_X11_worthAt (gA G 1110 0 6) G) k) = k (f (gA G 1122 0 0) (gA G 1122 0 1) (gA G 1122 0 2)) G9 ∧ tfr (fun f _ => f = 1123) G G9 := by
  rcases hL with ⟨h1, h2⟩ | ⟨h1, h2⟩
  · exact ⟨G, by rw [h2, if_pos rfl]; exact tif_pos h1, tfr.rf⟩
  · obtain ⟨G9, q1, q2⟩ := h2 G (fun _ _ => rfl) (fun _ _ => rfl)
    refine ⟨G9, ?_, q2⟩
    rw [show (6 : Nat) = 6 + 0 from rfl, tif_neg h1, q1, tbI_v]
theorem r_law1 {G : tH} {f : Int32 → Int32 → Int32 → Int32} (hL : rL G 1 f) (k : Int32 → tH → Option tRes) : ∃ G9, tif (gA G 1110 0 7 < 0) (k (gA G 1122 0 2) G) (tbI (V_X11_worthAt (gA G 1110 0 7) G) k) = k (f (gA G 1122 0 0) (gA G 1122 0 1) (gA G 1122 0 2)) G9 ∧ tfr (fun f _ => f = 1123) G G9 := by
  rcases hL with ⟨h1, h2⟩ | ⟨h1, h2⟩
  · exact ⟨G, by rw [h2, if_neg (by omega)]; exact tif_pos h1, tfr.rf⟩
  · obtain ⟨G9, q1, q2⟩ := h2 G (fun _ _ => rfl) (fun _ _ => rfl)
    refine ⟨G9, ?_, q2⟩
    rw [show (7 : Nat) = 6 + 1 from rfl, tif_neg h1, q1, tbI_v]
theorem zR_p : ¬ zR 1110 0 := by unfold zR; omega
theorem zR_1 : ¬ zR 1111 0 := by unfold zR; omega
theorem zR_2 : ¬ zR 1112 0 := by unfold zR; omega
theorem r_spares {G : tH} {b : Nat} {pr : mP} {sg : mS} (hP : rP G pr) (ho : okP pr) (hS : rS (gA G 1124 0) b pr sg) (hs : okS pr sg) (hb : b + 61 ≤ 1403) {lw : mL} (hL : rL G 0 (lw 0)) {t : Nat} (hm : maySpare pr sg t) : ∃ G', V_X11_spares (nI b) (nI t) G = some (some (vI (nI (gftN pr lw sg t))), G') ∧ rD G G' b pr (fSpare pr lw sg t) := by
  obtain ⟨m1, m2, m3⟩ := hm
  have hT := ho.1
  have hC := ho.2.1
  have hH := ho.2.2.1
  have hJ := ho.2.2.2.1
  have hh := hs.2.2.2.2.1
  have hh5 : mkH sg < 5 := by unfold mkH; omega
  have hhC : mkH sg < nC pr := by unfold mkH; omega
  have hhol : gA G 1124 0 b = nI (mkH sg) := by rw [hS.1, hI_pos m1]; rfl
  obtain ⟨b1, b2, b3, b4⟩ := hs.1 t m2
  have b8 := hs.2.2.1 t
  obtain ⟨k1, k2, k3, k4, k5, k8⟩ := hS.2.2.2.2.2.1 t m2
  have hkd := (ho.2.2.2.2.2.2.1 t m2).1
  have k6 := (hS.2.2.2.2.2.2.1 _ hhC).1
  have hgl := gftN_le (pr := pr) (lw := lw) (sg := sg) (t := t)
  obtain ⟨G3, hG3⟩ : ∃ g, g = sA G 1122 0 (upd (upd (upd (gA G 1122 0) 0 (nI (sg.1 1 t))) 1 (nI (sg.1 2 t))) 2 (nI (sg.1 5 t))) := ⟨_, rfl⟩
  have f3 : tfr zR G G3 := by rw [hG3]; exact tfr.sA (Or.inl rfl)
  obtain ⟨G9, q1, q2⟩ := r_law0 (hL.kept f3 zR_p zR_1 zR_2) (fun r g => V_X11_spares_76 (nI b) (nI t) r g)
  have f9 : tfr zR G G9 := f3.tr (q2.mono fun f _ h => Or.inr (Or.inl h))
  have hP9 := hP.kept f9 zR_p
  have s9 : gA G9 1124 0 = gA G 1124 0 := by rw [(q2 1124 0 (by omega)).2.2.2.1, hG3, gA_ne (by omega)]
  have t9 : gA G9 1122 0 0 = nI (sg.1 1 t) := by rw [(q2 1122 0 (by omega)).2.2.2.1, hG3, gA_eq, upd_ne (by omega), upd_ne (by omega), upd_eq]
  have hl : lw 0 (gA G3 1122 0 0) (gA G3 1122 0 1) (gA G3 1122 0 2) = lw 0 (nI (sg.1 1 t)) (nI (sg.1 2 t)) (nI (sg.1 5 t)) := by
    rw [hG3, gA_eq, upd_ne (by omega), upd_ne (by omega), upd_eq, upd_ne (by omega), upd_eq, upd_eq]
  rw [hl] at q1
  have hc := cl_le (lw 0 (nI (sg.1 1 t)) (nI (sg.1 2 t)) (nI (sg.1 5 t)))
  have e138 : V_X11_spares_138 (nI b) (nI t) (nI (gftN pr lw sg t)) G9 = some (some (vI (nI (gftN pr lw sg t))), sA G9 1124 0 (upd (upd (upd (gA G 1124 0) (b + 5 + t) (nI (sg.1 1 t - gftN pr lw sg t))) (b + 41 + mkH sg) (sg.2 (mkH sg) + nI (gftN pr lw sg t))) (b + 35 + t) (nI 1))) := by
    rw [e_X11_spares_138]
    simp (disch := omega) only [nI_add, ttin, nI_clamp, Nat.add_zero, gA_eq, gA_ne, upd_eq, upd_ne, sA_sA, tbI_v, s9, k1, k6, hhol, nI_sub]
  have e117 : ∀ v, min v (sg.1 1 t) = gftN pr lw sg t → v < 2 ^ 31 → V_X11_spares_117 (nI b) (nI t) (nI v) G9 = V_X11_spares_138 (nI b) (nI t) (nI (gftN pr lw sg t)) G9 := by
    intro v hv hv2
    rw [e_X11_spares_117]
    simp (disch := omega) only [nI_add, ttin, nI_clamp, Nat.add_zero, gA_eq, gA_ne, upd_eq, upd_ne, sA_sA, tbI_v, t9]
    by_cases hq : sg.1 1 t < v
    · rw [tltP (by omega) (by omega) hq, show sg.1 1 t = gftN pr lw sg t by omega]
    · rw [tltM (by omega) (by omega) (by omega), show v = gftN pr lw sg t by omega]
  have e76 : V_X11_spares_76 (nI b) (nI t) (lw 0 (nI (sg.1 1 t)) (nI (sg.1 2 t)) (nI (sg.1 5 t))) G9 = V_X11_spares_99 (nI b) (nI t) (nI (cl (lw 0 (nI (sg.1 1 t)) (nI (sg.1 2 t)) (nI (sg.1 5 t))))) G9 := by
    rw [e_X11_spares_76, cl_spec]
    simp only [tif_ite]
    split
    · rfl
    · split <;> rfl
  have e1 : V_X11_spares (nI b) (nI t) G = some (some (vI (nI (gftN pr lw sg t))), sA G9 1124 0 (upd (upd (upd (gA G 1124 0) (b + 5 + t) (nI (sg.1 1 t - gftN pr lw sg t))) (b + 41 + mkH sg) (sg.2 (mkH sg) + nI (gftN pr lw sg t))) (b + 35 + t) (nI 1))) := by
    rw [← e138]
    have e0 : V_X11_spares (nI b) (nI t) G = tif (gA G3 1110 0 6 < 0) (V_X11_spares_76 (nI b) (nI t) (nI 20) G3) (tbI (V_X11_worthAt (gA G3 1110 0 6) G3) (fun r g => V_X11_spares_76 (nI b) (nI t) r g)) := by
      rw [e_X11_spares, hG3]
      simp (disch := omega) only [nI_add, ttin, nI_clamp, Nat.add_zero, gA_eq, gA_ne, upd_eq, upd_ne, sA_sA, tbI_v, k1, k2, k5]
    rw [e0]
    refine q1.trans ?_
    show V_X11_spares_76 _ _ _ _ = _
    rw [e76, e_X11_spares_99, r_townOf0 hP9 ho m2, tbI_v, pk_mul]
    by_cases h1 : pr 0 t = 1
    · rw [teqP h1]
      refine e117 _ ?_ (by omega)
      unfold gftN gft0
      rw [if_pos h1]
      omega
    · rw [teqM (by omega) (by omega) h1]
      refine e117 _ ?_ (by omega)
      unfold gftN gft0
      rw [if_neg h1]
  refine ⟨_, e1, ⟨?_, ?_, ?_, ?_, ?_, fun t' ht' => ?_, fun c hc => ?_, fun j hj => ?_⟩, fun i hi => ?_, tfrA f9 (Or.inr (Or.inr rfl))⟩
  all_goals simp only [gA_eq]
  · simp (disch := omega) only [upd_eq, upd_ne, u1_eq, u1_nk, u1_ni, fSpare, hS.1]
  · simp (disch := omega) only [upd_eq, upd_ne, u1_eq, u1_nk, u1_ni, fSpare, hS.2.1]
  · simp (disch := omega) only [upd_eq, upd_ne, u1_eq, u1_nk, u1_ni, fSpare, hS.2.2.1]
  · simp (disch := omega) only [upd_eq, upd_ne, u1_eq, u1_nk, u1_ni, fSpare, hS.2.2.2.1]
  · simp (disch := omega) only [upd_eq, upd_ne, u1_eq, u1_nk, u1_ni, fSpare, hS.2.2.2.2.1]
  · obtain ⟨q1, q2, q3, q4, q5, q6⟩ := hS.2.2.2.2.2.1 t' ht'
    by_cases h : t' = t
    · subst h
      simp (disch := omega) only [upd_eq, upd_ne, u1_eq, u1_nk, u1_ni, fSpare, q1, q2, q3, q4, q5, q6, and_self]
    · simp (disch := omega) only [upd_eq, upd_ne, u1_eq, u1_nk, u1_ni, fSpare, q1, q2, q3, q4, q5, q6, and_self]
  · obtain ⟨q1, q2⟩ := hS.2.2.2.2.2.2.1 c hc
    by_cases h : c = mkH sg
    · subst h
      simp (disch := omega) only [upd_eq, upd_ne, u1_eq, u1_nk, u1_ni, fSpare, q1, q2, and_self]
    · simp (disch := omega) only [upd_eq, upd_ne, u1_eq, u1_nk, u1_ni, fSpare, q1, q2, and_self]
  · have q1 := hS.2.2.2.2.2.2.2 j hj
    simp (disch := omega) only [upd_eq, upd_ne, u1_eq, u1_nk, u1_ni, fSpare, q1]
  · simp (disch := omega) only [upd_ne]

