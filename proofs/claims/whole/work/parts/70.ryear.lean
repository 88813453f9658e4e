/-! PURE: the reference: years, copies, starts -/
def yR (G0 G : tH) (b i : Nat) (pr : mP) (lw : mL) (sg : mS) (h : Nat) : Prop := tfr zR G0 G ∧ (∀ k, k < b + 5 ∨ b + 41 ≤ k → gA G 1124 0 k = gA G0 1124 0 k) ∧ (∀ t, t < nT pr → i ≤ t → gA G 1124 0 (b + 5 + t) = nI (sg.1 1 t) ∧ gA G 1124 0 (b + 11 + t) = nI (sg.1 2 t) ∧ gA G 1124 0 (b + 29 + t) = nI (sg.1 5 t)) ∧
  ∀ t, t < i → gA G 1124 0 (b + 5 + t) = nI (yM sg t) ∧ gA G 1124 0 (b + 11 + t) = nI (yC pr sg h t) ∧ gA G 1124 0 (b + 17 + t) = nI (yC pr sg h t) ∧ gA G 1124 0 (b + 23 + t) = nI 0 ∧ gA G 1124 0 (b + 29 + t) = nI (yD lw sg t) ∧ gA G 1124 0 (b + 35 + t) = nI 0
theorem r_year_loop {G0 : tH} {b h : Nat} {pr : mP} {sg : mS} {lw : mL} (hP : rP G0 pr) (ho : okP pr) (hs : okS pr sg) (hb : b + 61 ≤ 1403) (hL : rL G0 1 (lw 1)) (hh : h < nH pr) :
    ∀ n i G, i + n = nT pr → yR G0 G b i pr lw sg h → ∃ G', V_X11_yearBy_5 (nI b) (nI h) (nI (sumN (yC pr sg h) i)) (nI i) G = V_X11_yearBy_5 (nI b) (nI h) (nI (sumN (yC pr sg h) (nT pr))) (nI (nT pr)) G' ∧ yR G0 G' b (nT pr) pr lw sg h := by
  have hT := ho.1
  have hH := ho.2.2.1
  intro n
  induction n with
  | zero =>
    intro i G hi hy
    have : i = nT pr := by omega
    subst this
    exact ⟨G, rfl, hy⟩
  | succ n ih =>
    intro i G hi hy
    obtain ⟨y1, y0, y2, y3⟩ := hy
    have hit : i < nT pr := by omega
    obtain ⟨k1, k2, k5⟩ := y2 i hit (Nat.le_refl _)
    obtain ⟨b1, b2, b3, b4⟩ := hs.1 i hit
    have hPG := hP.kept y1 zR_p
    have hcl : cl (nI (sg.1 1 i) + nI (sg.1 2 i) / nI 2) = yM sg i := by
      rw [pk_div (by omega) (by omega) (by omega), nI_add, cl_nI (by omega)]
      rfl
    obtain ⟨G8, hG8⟩ : ∃ g, g = sA (sA G 1124 0 (upd (gA G 1124 0) (b + 5 + i) (nI (yM sg i)))) 1122 0 (upd (upd (upd (gA G 1122 0) 0 (nI (yM sg i))) 1 (nI 0)) 2 (nI (sg.1 5 i))) := ⟨_, rfl⟩
    have f8 : tfr zR G0 G8 := by rw [hG8]; exact tfrA (tfrA y1 (Or.inr (Or.inr rfl))) (Or.inl rfl)
    obtain ⟨G9, q1, q2⟩ := r_law1 (hL.kept f8 zR_p zR_1 zR_2) (fun r g => V_X11_yearBy_132 (nI b) (nI h) (nI (sumN (yC pr sg h) i)) (nI i) (nI (yM sg i)) r (nI (b + 29 + i)) g)
    have f9 : tfr zR G0 G9 := f8.tr (q2.mono fun f _ h => Or.inr (Or.inl h))
    have s9 : gA G9 1124 0 = upd (gA G 1124 0) (b + 5 + i) (nI (yM sg i)) := by rw [(q2 1124 0 (by omega)).2.2.2.1, hG8, gA_ne (by omega), gA_eq]
    have hl : lw 1 (gA G8 1122 0 0) (gA G8 1122 0 1) (gA G8 1122 0 2) = lw 1 (nI (yM sg i)) (nI 0) (nI (sg.1 5 i)) := by
      rw [hG8, gA_eq, upd_ne (by omega), upd_ne (by omega), upd_eq, upd_ne (by omega), upd_eq, upd_eq]
    rw [hl] at q1
    obtain ⟨G13, hG13⟩ : ∃ g, g = sA G9 1124 0 (upd (upd (upd (upd (upd (upd (gA G 1124 0) (b + 5 + i) (nI (yM sg i))) (b + 29 + i) (nI (yD lw sg i))) (b + 17 + i) (nI (yC pr sg h i))) (b + 11 + i) (nI (yC pr sg h i))) (b + 23 + i) (nI 0)) (b + 35 + i) (nI 0)) := ⟨_, rfl⟩
    have f13 : tfr zR G0 G13 := by rw [hG13]; exact tfrA f9 (Or.inr (Or.inr rfl))
    have e132 : V_X11_yearBy_132 (nI b) (nI h) (nI (sumN (yC pr sg h) i)) (nI i) (nI (yM sg i)) (lw 1 (nI (yM sg i)) (nI 0) (nI (sg.1 5 i))) (nI (b + 29 + i)) G9 = V_X11_yearBy_5 (nI b) (nI h) (nI (sumN (yC pr sg h) (i + 1))) (nI (i + 1)) G13 := by
      rw [e_X11_yearBy_132, r_atMost, tbI_v, show nI (cl (lw 1 (nI (yM sg i)) (nI 0) (nI (sg.1 5 i)))) = nI (yD lw sg i) from rfl]
      simp (disch := omega) only [nI_add, ttin, nI_clamp, Nat.add_zero, gA_eq, gA_ne, upd_eq, upd_ne, sA_sA, tbI_v, s9, r_cropOf (rP_st (hP.kept f9 zR_p) _) ho hit (yM_le sg i) hh, show crN pr i (yM sg i) h = yC pr sg h i from rfl]
      rw [hG13]
      rfl
    have e0 : V_X11_yearBy_5 (nI b) (nI h) (nI (sumN (yC pr sg h) i)) (nI i) G = tif (gA G8 1110 0 7 < 0) (V_X11_yearBy_132 (nI b) (nI h) (nI (sumN (yC pr sg h) i)) (nI i) (nI (yM sg i)) (gA G8 1122 0 2) (nI (b + 29 + i)) G8) (tbI (V_X11_worthAt (gA G8 1110 0 7) G8) (fun r g => V_X11_yearBy_132 (nI b) (nI h) (nI (sumN (yC pr sg h) i)) (nI i) (nI (yM sg i)) r (nI (b + 29 + i)) g)) := by
      rw [e_X11_yearBy_5, r_towns hPG, tbI_v, tltP (by omega) (by omega) (by omega), hG8]
      simp (disch := omega) only [nI_add, ttin, nI_clamp, Nat.add_zero, gA_eq, gA_ne, upd_eq, upd_ne, sA_sA, tbI_v, k1, k2, k5, r_atMost, tn2, hcl]
    have eq := (e0.trans q1).trans e132
    rw [eq]
    refine ih (i + 1) G13 (by omega) ⟨f13, fun k hk => ?_, fun t ht hti => ?_, fun t ht => ?_⟩
    · rw [hG13, gA_eq]
      simp (disch := omega) only [upd_ne, y0]
    · obtain ⟨z1, z2, z5⟩ := y2 t ht (by omega)
      rw [hG13]
      simp (disch := omega) only [gA_eq, upd_ne, z1, z2, z5, and_self]
    · by_cases hx : t = i
      · subst hx
        rw [hG13]
        simp (disch := omega) only [gA_eq, upd_eq, upd_ne, and_self]
      · obtain ⟨z1, z2, z3, z4, z5, z6⟩ := y3 t (by omega)
        rw [hG13]
        simp (disch := omega) only [gA_eq, upd_ne, z1, z2, z3, z4, z5, z6, and_self]
theorem r_yearBy {G : tH} {b : Nat} {pr : mP} {sg : mS} (hP : rP G pr) (ho : okP pr) (hS : rS (gA G 1124 0) b pr sg) (hs : okS pr sg) (hb : b + 61 ≤ 1403) {lw : mL} (hL : rL G 1 (lw 1)) {h : Nat} (hm : mayYear pr sg h) : ∃ G', V_X11_yearBy (nI b) (nI h) G = some (some (vI (nI (sumN (yC pr sg h) (nT pr)))), G') ∧ rD G G' b pr (fYear pr lw sg h) := by
  obtain ⟨m1, m2, m3⟩ := hm
  have hT := ho.1
  have hC := ho.2.1
  have hH := ho.2.2.1
  have hJ := ho.2.2.2.1
  have hh := hs.2.2.2.2.1
  obtain ⟨G1, e1, y1, y0, y2, y3⟩ := r_year_loop hP ho hs hb hL m3 (nT pr) 0 G (by omega) ⟨tfr.rf, fun k _ => rfl, fun t ht _ => ⟨(hS.2.2.2.2.2.1 t ht).1, (hS.2.2.2.2.2.1 t ht).2.1, (hS.2.2.2.2.2.1 t ht).2.2.2.2.1⟩, fun t ht => by omega⟩
  have e2 : V_X11_yearBy (nI b) (nI h) G = some (some (vI (nI (sumN (yC pr sg h) (nT pr)))), sA G1 1124 0 (upd (upd (gA G1 1124 0) (b + 1) (nI (sg.1 10 1 + 1))) (b + 4) (nI (sg.1 10 2 + 1)))) := by
    have e3 : V_X11_yearBy_5 (nI b) (nI h) (nI 0) (nI 0) G = V_X11_yearBy_5 (nI b) (nI h) (nI (sumN (yC pr sg h) (nT pr))) (nI (nT pr)) G1 := e1
    rw [e_X11_yearBy, e3, e_X11_yearBy_5, r_towns (hP.kept y1 zR_p), tbI_v, tltM (by omega) (by omega) (by omega)]
    simp (disch := omega) only [nI_add, ttin, nI_clamp, Nat.add_zero, gA_eq, gA_ne, upd_eq, upd_ne, sA_sA, tbI_v, y0, hS.2.1, hS.2.2.2.2.1]
  refine ⟨_, e2, ⟨?_, ?_, ?_, ?_, ?_, fun t ht => ?_, fun c hc => ?_, fun j hj => ?_⟩, fun i hi => ?_, tfrA y1 (Or.inr (Or.inr rfl))⟩
  all_goals simp only [gA_eq]
  · simp (disch := omega) only [upd_ne, y0, hS.1]; rfl
  · simp (disch := omega) only [upd_ne, upd_eq]; rfl
  · simp (disch := omega) only [upd_ne, y0, hS.2.2.1]; rfl
  · simp (disch := omega) only [upd_ne, y0, hS.2.2.2.1]; rfl
  · simp (disch := omega) only [upd_eq]; rfl
  · obtain ⟨q1, q2, q3, q4, q5, q6⟩ := y3 t ht
    simp (disch := omega) only [upd_ne, q1, q2, q3, q4, q5, q6]
    exact ⟨rfl, rfl, rfl, rfl, rfl, rfl⟩
  · obtain ⟨q1, q2⟩ := hS.2.2.2.2.2.2.1 c hc
    simp (disch := omega) only [upd_ne, y0, q1, q2]
    exact ⟨rfl, rfl⟩
  · have q1 := hS.2.2.2.2.2.2.2 j hj
    simp (disch := omega) only [upd_ne, y0, q1]
    rfl
  · simp (disch := omega) only [upd_ne, y0]
theorem r_meansOf {G : tH} {b : Nat} {pr : mP} {sg : mS} (hP : rP G pr) (ho : okP pr) (hS : rS (gA G 1124 0) b pr sg) (hs : okS pr sg) (hb : b + 61 ≤ 1403) : V_X11_meansOf (nI b) G = some (some (vI (nI (sumN (sg.1 1) (nT pr)))), G) := by
  have hT := ho.1
  have hC := ho.2.1
  have hH := ho.2.2.1
  have hJ := ho.2.2.2.1
  have hh := hs.2.2.2.2.1
  rw [e_X11_meansOf]
  have key : ∀ n i, i + n = nT pr → V_X11_meansOf_4 (nI b) (nI (sumN (sg.1 1) i)) (nI i) G = some (some (vI (nI (sumN (sg.1 1) (nT pr)))), G) := by
    intro n
    induction n with
    | zero =>
      intro i hi
      rw [e_X11_meansOf_4, r_towns hP, tbI_v, tltM (by omega) (by omega) (by omega), show i = nT pr by omega]
    | succ n ih =>
      intro i hi
      rw [e_X11_meansOf_4, r_towns hP, tbI_v, tltP (by omega) (by omega) (by omega)]
      simp (disch := omega) only [nI_add, ttin, nI_clamp, Nat.add_zero, gA_eq, gA_ne, upd_eq, upd_ne, sA_sA, tbI_v, (hS.2.2.2.2.2.1 i (by omega)).1]
      exact ih (i + 1) (by omega)
  exact key (nT pr) 0 (by omega)
/-! copies -/
theorem r_copy_loop (f t m : Nat) (hf : f + m ≤ 1403) (ht : t + m ≤ 1403) (hd : f + m ≤ t ∨ t + m ≤ f) (G : tH) : ∀ n i a, i + n = m → ∃ a', V_X11_copies_3 (nI f) (nI t) (nI m) (nI i) (sA G 1124 0 a) = some (none, sA G 1124 0 a') ∧ (∀ k, i ≤ k → k < m → a' (t + k) = a (f + k)) ∧ ∀ k, k < t + i ∨ t + m ≤ k → a' k = a k := by
  intro n
  induction n with
  | zero =>
    intro i a hi
    refine ⟨a, ?_, fun k hk => by omega, fun k hk => rfl⟩
    rw [e_X11_copies_3, tltM (by omega) (by omega) (by omega)]
  | succ n ih =>
    intro i a hi
    obtain ⟨a', e, h1, h2⟩ := ih (i + 1) (upd a (t + i) (a (f + i))) (by omega)
    refine ⟨a', ?_, fun k hk hk2 => ?_, fun k hk => ?_⟩
    · rw [e_X11_copies_3, tltP (by omega) (by omega) (by omega)]
      simp (disch := omega) only [nI_add, ttin, nI_clamp, Nat.add_zero, gA_eq, gA_ne, upd_eq, upd_ne, sA_sA, tbI_v]
      exact e
    · by_cases hk1 : k = i
      · subst hk1
        rw [h2 _ (by omega), upd_eq]
      · rw [h1 k (by omega) hk2, upd_ne (by omega)]
    · rw [h2 k (by omega), upd_ne (by omega)]
theorem r_copies (f t m : Nat) (hf : f + m ≤ 1403) (ht : t + m ≤ 1403) (hd : f + m ≤ t ∨ t + m ≤ f) (G : tH) : ∃ a', V_X11_copies (nI f) (nI t) (nI m) G = some (none, sA G 1124 0 a') ∧ (∀ k, k < m → a' (t + k) = gA G 1124 0 (f + k)) ∧ ∀ k, k < t ∨ t + m ≤ k → a' k = gA G 1124 0 k := by
  obtain ⟨a', e, h1, h2⟩ := r_copy_loop f t m hf ht hd G m 0 (gA G 1124 0) (by omega)
  rw [sA_id] at e
  refine ⟨a', ?_, fun k hk => h1 k (by omega) hk, fun k hk => h2 k (by omega)⟩
  rw [e_X11_copies, e]
theorem rS.move {a a' : Nat → Int32} {f t : Nat} {pr : mP} {sg : mS} (ho : okP pr) (h : rS a f pr sg) (he : ∀ k, k < 56 → a' (t + k) = a (f + k)) : rS a' t pr sg := by
  have hT := ho.1
  have hC := ho.2.1
  have hJ := ho.2.2.2.1
  obtain ⟨h1, h2, h3, h4, h5, h6, h7, h8⟩ := h
  have e0 := he 0 (by omega)
  rw [Nat.add_zero, Nat.add_zero] at e0
  refine ⟨by rw [e0]; exact h1, by rw [he 1 (by omega)]; exact h2, by rw [he 2 (by omega)]; exact h3, by rw [he 3 (by omega)]; exact h4, by rw [he 4 (by omega)]; exact h5, fun u hu => ?_, fun c hc => ?_, fun j hj => ?_⟩
  · have q := h6 u hu
    rw [Nat.add_assoc, Nat.add_assoc, Nat.add_assoc, Nat.add_assoc, Nat.add_assoc, Nat.add_assoc] at q
    rw [Nat.add_assoc, Nat.add_assoc, Nat.add_assoc, Nat.add_assoc, Nat.add_assoc, Nat.add_assoc, he _ (by omega), he _ (by omega), he _ (by omega), he _ (by omega), he _ (by omega), he _ (by omega)]
    exact q
  · have q := h7 c hc
    rw [Nat.add_assoc, Nat.add_assoc] at q
    rw [Nat.add_assoc, Nat.add_assoc, he _ (by omega), he _ (by omega)]
    exact q
  · have q := h8 j hj
    rw [Nat.add_assoc] at q
    rw [Nat.add_assoc, he _ (by omega)]
    exact q
/-! starts -/
theorem r_start_2 (b : Nat) (hb : b + 61 ≤ 1403) (G : tH) : ∀ n i a, i + n = 56 → ∃ a', V_X11_starts_2 (nI b) (nI i) (sA G 1124 0 a) = V_X11_starts_34 (nI b) (nI 0) (sA G 1124 0 (upd a' b (-1))) ∧ (∀ k, b + i ≤ k → k < b + 56 → a' k = nI 0) ∧ ∀ k, k < b + i ∨ b + 56 ≤ k → a' k = a k := by
  intro n
  induction n with
  | zero =>
    intro i a hi
    refine ⟨a, ?_, fun k hk => by omega, fun k hk => rfl⟩
    rw [e_X11_starts_2, tltM (by omega) (by omega) (by omega)]
    simp (disch := omega) only [nI_add, ttin, nI_clamp, Nat.add_zero, gA_eq, gA_ne, upd_eq, upd_ne, sA_sA, tbI_v]
  | succ n ih =>
    intro i a hi
    obtain ⟨a', e, h1, h2⟩ := ih (i + 1) (upd a (b + i) (nI 0)) (by omega)
    refine ⟨a', ?_, fun k hk hk2 => ?_, fun k hk => ?_⟩
    · rw [e_X11_starts_2, tltP (by omega) (by omega) (by omega)]
      simp (disch := omega) only [nI_add, ttin, nI_clamp, Nat.add_zero, gA_eq, gA_ne, upd_eq, upd_ne, sA_sA, tbI_v]
      exact e
    · by_cases hk1 : k = b + i
      · subst hk1
        rw [h2 _ (by omega), upd_eq]
      · exact h1 k (by omega) hk2
    · rw [h2 k (by omega), upd_ne (by omega)]
theorem r_start_34 (b : Nat) (hb : b + 61 ≤ 1403) {G : tH} {pr : mP} (hP : rP G pr) (ho : okP pr) : ∀ n i a, i + n = nT pr → ∃ a', V_X11_starts_34 (nI b) (nI i) (sA G 1124 0 a) = V_X11_starts_66 (nI b) (nI 0) (sA G 1124 0 a') ∧ (∀ t, i ≤ t → t < nT pr → a' (b + 5 + t) = nI (pr 1 t)) ∧ ∀ k, k < b + 5 + i ∨ b + 5 + nT pr ≤ k → a' k = a k := by
  have hT := ho.1
  intro n
  induction n with
  | zero =>
    intro i a hi
    refine ⟨a, ?_, fun k hk => by omega, fun k hk => rfl⟩
    rw [e_X11_starts_34, r_towns (rP_st hP _), tbI_v, tltM (by omega) (by omega) (by omega)]
  | succ n ih =>
    intro i a hi
    obtain ⟨a', e, h1, h2⟩ := ih (i + 1) (upd a (b + 5 + i) (nI (pr 1 i))) (by omega)
    refine ⟨a', ?_, fun k hk hk2 => ?_, fun k hk => ?_⟩
    · rw [e_X11_starts_34, r_towns (rP_st hP _), tbI_v, tltP (by omega) (by omega) (by omega), r_townOf1 (rP_st hP _) ho (by omega), tbI_v]
      simp (disch := omega) only [nI_add, ttin, nI_clamp, Nat.add_zero, gA_eq, gA_ne, upd_eq, upd_ne, sA_sA, tbI_v]
      exact e
    · by_cases hk1 : k = i
      · subst hk1
        rw [h2 _ (by omega), upd_eq]
      · exact h1 k (by omega) hk2
    · rw [h2 k (by omega), upd_ne (by omega)]
theorem r_start_66 (b : Nat) (hb : b + 61 ≤ 1403) {G : tH} {pr : mP} (hP : rP G pr) (ho : okP pr) : ∀ n i a, i + n = nC pr → ∃ a', V_X11_starts_66 (nI b) (nI i) (sA G 1124 0 a) = some (none, sA G 1124 0 a') ∧ (∀ t, i ≤ t → t < nC pr → a' (b + 41 + t) = nI (pr 3 t)) ∧ ∀ k, k < b + 41 + i ∨ b + 41 + nC pr ≤ k → a' k = a k := by
  have hC := ho.2.1
  intro n
  induction n with
  | zero =>
    intro i a hi
    refine ⟨a, ?_, fun k hk => by omega, fun k hk => rfl⟩
    rw [e_X11_starts_66, r_companies (rP_st hP _), tbI_v, tltM (by omega) (by omega) (by omega)]
  | succ n ih =>
    intro i a hi
    obtain ⟨a', e, h1, h2⟩ := ih (i + 1) (upd a (b + 41 + i) (nI (pr 3 i))) (by omega)
    refine ⟨a', ?_, fun k hk hk2 => ?_, fun k hk => ?_⟩
    · rw [e_X11_starts_66, r_companies (rP_st hP _), tbI_v, tltP (by omega) (by omega) (by omega)]
      simp (disch := omega) only [nI_add, ttin, nI_clamp, Nat.add_zero, gA_eq, gA_ne, upd_eq, upd_ne, sA_sA, tbI_v, pk_mul, (hP.2.2.2.2.2.2.2.1 i (by omega)).2]
      exact e
    · by_cases hk1 : k = i
      · subst hk1
        rw [h2 _ (by omega), upd_eq]
      · exact h1 k (by omega) hk2
    · rw [h2 k (by omega), upd_ne (by omega)]
theorem r_starts (b : Nat) (hb : b + 61 ≤ 1403) {G : tH} {pr : mP} (hP : rP G pr) (ho : okP pr) : ∃ a', V_X11_starts (nI b) G = some (none, sA G 1124 0 a') ∧ rS a' b pr (fBegin pr) ∧ ∀ k, k < b ∨ b + 56 ≤ k → a' k = gA G 1124 0 k := by
  have hT := ho.1
  have hC := ho.2.1
  have hJ := ho.2.2.2.1
  obtain ⟨a1, e1, x1, x2⟩ := r_start_2 b hb G 56 0 (gA G 1124 0) (by omega)
  rw [sA_id] at e1
  obtain ⟨a2, e2, y1, y2⟩ := r_start_34 b hb hP ho (nT pr) 0 (upd a1 b (-1)) (by omega)
  obtain ⟨a3, e3, z1, z2⟩ := r_start_66 b hb hP ho (nC pr) 0 a2 (by omega)
  refine ⟨a3, ?_, ⟨?_, ?_, ?_, ?_, ?_, fun t ht => ?_, fun c hc => ?_, fun j hj => ?_⟩, fun k hk => ?_⟩
  · rw [e_X11_starts, e1, e2, e3]
  · rw [z2 _ (by omega), y2 _ (by omega), upd_eq]; rfl
  · rw [z2 _ (by omega), y2 _ (by omega), upd_ne (by omega), x1 _ (by omega) (by omega)]; rfl
  · rw [z2 _ (by omega), y2 _ (by omega), upd_ne (by omega), x1 _ (by omega) (by omega)]; rfl
  · rw [z2 _ (by omega), y2 _ (by omega), upd_ne (by omega), x1 _ (by omega) (by omega)]; rfl
  · rw [z2 _ (by omega), y2 _ (by omega), upd_ne (by omega), x1 _ (by omega) (by omega)]; rfl
  · refine ⟨?_, ?_, ?_, ?_, ?_, ?_⟩
    · rw [z2 _ (by omega), y1 _ (by omega) ht]; rfl
    · rw [z2 _ (by omega), y2 _ (by omega), upd_ne (by omega), x1 _ (by omega) (by omega)]; rfl
    · rw [z2 _ (by omega), y2 _ (by omega), upd_ne (by omega), x1 _ (by omega) (by omega)]; rfl
    · rw [z2 _ (by omega), y2 _ (by omega), upd_ne (by omega), x1 _ (by omega) (by omega)]; rfl
    · rw [z2 _ (by omega), y2 _ (by omega), upd_ne (by omega), x1 _ (by omega) (by omega)]; rfl
    · rw [z2 _ (by omega), y2 _ (by omega), upd_ne (by omega), x1 _ (by omega) (by omega)]; rfl
  · refine ⟨?_, ?_⟩
    · rw [z1 _ (by omega) hc]
      show nI (pr 3 c) = if c = 10 then 0 else if c = 11 then 0 else nI (pr 3 c)
      rw [if_neg (by omega), if_neg (by omega)]
    · rw [z2 _ (by omega), y2 _ (by omega), upd_ne (by omega), x1 _ (by omega) (by omega)]; rfl
  · rw [z2 _ (by omega), y2 _ (by omega), upd_ne (by omega), x1 _ (by omega) (by omega)]; rfl
  · rw [z2 _ (by omega), y2 _ (by omega), upd_ne (by omega), x2 _ (by omega)]

