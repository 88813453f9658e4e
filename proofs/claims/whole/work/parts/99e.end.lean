/-! PURE: the reference takes over what it has read, and begins -/
theorem r_st_l {b : Nat} (hb : b + 60 ≤ 120) {G : tH} : ∀ m i a, i + m = 60 → ∃ a', V_X11_standsAsAlways_2 (nI b) (nI i) (sA G 1110 0 a) = V_X11_standsAsAlways_2 (nI b) (nI 60) (sA G 1110 0 a') ∧ (∀ k, b + i ≤ k → k < b + 60 → a' k = nI 0) ∧ ∀ k, k < b + i ∨ b + 60 ≤ k → a' k = a k := by
  intro m
  induction m with
  | zero => intro i a hi; rw [show i = 60 by omega]; exact ⟨a, rfl, fun k h1 h2 => by omega, fun k _ => rfl⟩
  | succ m ih =>
    intro i a hi
    obtain ⟨a', e, h1, h2⟩ := ih (i + 1) (upd a (b + i) (nI 0)) (by omega)
    refine ⟨a', ?_, fun k h3 h4 => ?_, fun k h3 => ?_⟩
    · rw [e_X11_standsAsAlways_2, tltP (by omega) (by omega) (by omega), nI_add, ttin (by omega) (by omega), nI_clamp (by omega), gA_eq]
      dsimp only
      rw [sA_sA, nI_add]
      exact e
    · by_cases w : k = b + i
      · rw [h2 k (by omega), w, upd_eq]
      · exact h1 k (by omega) h4
    · rw [h2 k (by omega), upd_ne (by omega)]
theorem r_stands {b : Nat} (hb : b + 60 ≤ 120) {G : tH} : ∃ a', V_X11_standsAsAlways (nI b) G = some (none, sA G 1110 0 a') ∧ (∀ k, b ≤ k → k < b + 60 → a' k = if k = b + 4 then nI 10 else if k = b + 6 then -1 else if k = b + 7 then -1 else nI 0) ∧ ∀ k, k < b ∨ b + 60 ≤ k → a' k = gA G 1110 0 k := by
  obtain ⟨a', e, h1, h2⟩ := r_st_l hb (G := G) 60 0 (gA G 1110 0) (by omega)
  rw [sA_id] at e
  refine ⟨upd (upd (upd a' (b + 4) (nI 10)) (b + 6) (-1)) (b + 7) (-1), ?_, fun k h3 h4 => ?_, fun k h3 => ?_⟩
  · rw [e_X11_standsAsAlways, e, e_X11_standsAsAlways_2, tltM (by omega) (by omega) (by omega)]
    dsimp only
    rw [nI_add, ttin (by omega) (by omega), nI_add, ttin (by omega) (by omega), nI_add, ttin (by omega) (by omega), nI_clamp (by omega), nI_clamp (by omega), nI_clamp (by omega)]
    simp only [gA_eq, sA_sA]
  · by_cases w7 : k = b + 7
    · rw [w7, upd_eq, if_neg (by omega), if_neg (by omega), if_pos rfl]
    · by_cases w6 : k = b + 6
      · rw [w6, upd_ne (by omega), upd_eq, if_neg (by omega), if_pos rfl]
      · by_cases w4 : k = b + 4
        · rw [w4, upd_ne (by omega), upd_ne (by omega), upd_eq, if_pos rfl]
        · rw [upd_ne w7, upd_ne w6, upd_ne w4, if_neg w4, if_neg w6, if_neg w7]
          exact h1 k (by omega) h4
  · rw [upd_ne (by omega), upd_ne (by omega), upd_ne (by omega)]
    exact h2 k (by omega)
theorem r_beg_7 {G : tH} : ∀ m i a, i + m = 5 → ∃ a', V_X11_begins_7 (nI i) (sA G 1124 0 a) = V_X11_begins_7 (nI 5) (sA G 1124 0 a') ∧ (∀ c, i ≤ c → c < 5 → a' (56 + c) = -1) ∧ ∀ k, k < 56 + i ∨ 61 ≤ k → a' k = a k := by
  intro m
  induction m with
  | zero => intro i a hi; rw [show i = 5 by omega]; exact ⟨a, rfl, fun k h1 h2 => by omega, fun k _ => rfl⟩
  | succ m ih =>
    intro i a hi
    obtain ⟨a', e, h1, h2⟩ := ih (i + 1) (upd a (56 + i) (-1)) (by omega)
    refine ⟨a', ?_, fun k h3 h4 => ?_, fun k h3 => ?_⟩
    · rw [e_X11_begins_7, tltP (by omega) (by omega) (by omega), nI_add, ttin (by omega) (by omega), nI_clamp (by omega), gA_eq]
      dsimp only
      rw [sA_sA, nI_add]
      exact e
    · by_cases w : k = i
      · rw [h2 _ (by omega), w, upd_eq]
      · exact h1 k (by omega) h4
    · rw [h2 k (by omega), upd_ne (by omega)]
theorem r_beg_42 {G : tH} : ∀ m i a, i + m = 4 → ∃ a', V_X11_begins_42 (nI i) (sA G 1126 0 a) = some (none, sA G 1126 0 a') ∧ (∀ c, i ≤ c → c < 4 → a' c = nI 0) ∧ ∀ k, k < i ∨ 4 ≤ k → a' k = a k := by
  intro m
  induction m with
  | zero =>
    intro i a hi
    refine ⟨a, ?_, fun k h1 h2 => by omega, fun k _ => rfl⟩
    rw [e_X11_begins_42, tltM (by omega) (by omega) (by omega)]
  | succ m ih =>
    intro i a hi
    obtain ⟨a', e, h1, h2⟩ := ih (i + 1) (upd a i (nI 0)) (by omega)
    refine ⟨a', ?_, fun k h3 h4 => ?_, fun k h3 => ?_⟩
    · rw [e_X11_begins_42, tltP (by omega) (by omega) (by omega), ttin (by omega) (by omega), nI_clamp (by omega), gA_eq]
      dsimp only
      rw [sA_sA, nI_add, show vp_nar .boolean (nI 0) = nI 0 by decide +kernel]
      exact e
    · by_cases w : k = i
      · rw [h2 _ (by omega), w, upd_eq]
      · exact h1 k (by omega) h4
    · rw [h2 k (by omega), upd_ne (by omega)]
theorem r_begins {G : tH} {pr : mP} (hP : rP G pr) (ho : okP pr) : ∃ G', V_X11_begins G = some (none, G') ∧ rS (gA G' 1124 0) 0 pr (fBegin pr) ∧ (∀ c, c < 5 → gA G' 1124 0 (56 + c) = -1) ∧ gA G' 1121 0 0 = nI 0 ∧ gI G' 1125 0 = nI 0 ∧ (∀ m, m < 4 → gA G' 1126 0 m = nI 0) ∧ tfr (fun f _ => f = 1121 ∨ f = 1124 ∨ f = 1125 ∨ f = 1126) G G' := by
  obtain ⟨a1, e1, s1, k1⟩ := r_starts 0 (by omega) hP ho
  obtain ⟨a2, e2, x1, x2⟩ := r_beg_7 (G := G) 5 0 a1 (by omega)
  obtain ⟨G3, hG3⟩ : ∃ g, g = sI (sA (sA G 1124 0 a2) 1121 0 (upd (gA (sA G 1124 0 a2) 1121 0) 0 (nI 0))) 1125 0 (nI 0) := ⟨_, rfl⟩
  obtain ⟨a4, e4, y1, y2⟩ := r_beg_42 (G := G3) 4 0 (gA G3 1126 0) (by omega)
  rw [sA_id] at e4
  refine ⟨sA G3 1126 0 a4, ?_, ?_, fun c hc => ?_, ?_, ?_, fun m hm => ?_, ?_⟩
  · rw [e_X11_begins, e1, tbV_v, e2, e_X11_begins_7, tltM (by omega) (by omega) (by omega), ttin (by omega) (by omega), nI_clamp (by omega)]
    rw [hG3] at e4
    rw [hG3]
    exact e4
  · refine s1.ext ho (fun i _ hi => ?_)
    rw [gA_ne (by omega), hG3, gA_sI, gA_ne (by omega), gA_eq, x2 i (by omega)]
  · rw [gA_ne (by omega), hG3, gA_sI, gA_ne (by omega), gA_eq, x1 c (by omega) hc]
  · rw [gA_ne (by omega), hG3, gA_sI, gA_eq, upd_eq]
  · rw [gI_sA, hG3, gI_eq]
  · rw [gA_eq, y1 m (by omega) hm]
  · rw [hG3]
    exact tfrA (tfrI (tfrA (tfr.sA (by omega)) (by omega)) (by omega)) (by omega)
/-! copies -/
theorem r_cp_76 {G : tH} : ∀ m i a, i + m = 60 → ∃ a', V_X11_province_76 (nI i) (sA G 1110 0 a) = V_X11_province_105 (nI 0) (sA G 1110 0 a') ∧ (∀ k, i ≤ k → k < 60 → a' k = a (60 + k)) ∧ ∀ k, k < i ∨ 60 ≤ k → a' k = a k := by
  intro m
  induction m with
  | zero =>
    intro i a hi
    refine ⟨a, ?_, fun k h1 h2 => by omega, fun k _ => rfl⟩
    rw [e_X11_province_76, tltM (by omega) (by omega) (by omega)]
  | succ m ih =>
    intro i a hi
    obtain ⟨a', e, h1, h2⟩ := ih (i + 1) (upd a i (a (60 + i))) (by omega)
    refine ⟨a', ?_, fun k h3 h4 => ?_, fun k h3 => ?_⟩
    · rw [e_X11_province_76, tltP (by omega) (by omega) (by omega), nI_add, ttin (by omega) (by omega), ttin (by omega) (by omega), nI_clamp (by omega), nI_clamp (by omega), gA_eq]
      dsimp only
      rw [sA_sA, nI_add]
      exact e
    · by_cases w : k = i
      · rw [h2 _ (by omega), w, upd_eq]
      · rw [h1 k (by omega) h4, upd_ne (by omega)]
    · rw [h2 k (by omega), upd_ne (by omega)]
theorem r_cp_105 {cd : Nat} (hcd : cd ≤ 1100) : ∀ m i (G : tH), i + m = cd → gI G 1113 0 = nI cd → ∃ G', V_X11_province_105 (nI i) G = V_X11_province_153 (nI 0) G' ∧ (∀ k, i ≤ k → k < cd → gA G' 1111 0 k = gA G 1111 0 (1100 + k) ∧ gA G' 1112 0 k = gA G 1112 0 (1100 + k)) ∧ (∀ k, k < i ∨ cd ≤ k → gA G' 1111 0 k = gA G 1111 0 k ∧ gA G' 1112 0 k = gA G 1112 0 k) ∧ tfr (fun f _ => f = 1111 ∨ f = 1112) G G' := by
  intro m
  induction m with
  | zero =>
    intro i G hi hc
    refine ⟨G, ?_, fun k h1 h2 => by omega, fun k _ => ⟨rfl, rfl⟩, tfr.rf⟩
    rw [e_X11_province_105, hc, tltM (by omega) (by omega) (by omega)]
  | succ m ih =>
    intro i G hi hc
    obtain ⟨G1, hG1⟩ : ∃ g, g = sA (sA G 1111 0 (upd (gA G 1111 0) i (gA G 1111 0 (1100 + i)))) 1112 0 (upd (gA G 1112 0) i (gA G 1112 0 (1100 + i))) := ⟨_, rfl⟩
    have g1 : gA G1 1111 0 = upd (gA G 1111 0) i (gA G 1111 0 (1100 + i)) := by rw [hG1, gA_ne (by omega), gA_eq]
    have g2 : gA G1 1112 0 = upd (gA G 1112 0) i (gA G 1112 0 (1100 + i)) := by rw [hG1, gA_eq]
    have f1 : tfr (fun f _ => f = 1111 ∨ f = 1112) G G1 := by rw [hG1]; exact tfrA (tfr.sA (Or.inl rfl)) (Or.inr rfl)
    obtain ⟨G', e, h1, h2, h3⟩ := ih (i + 1) G1 (by omega) (by rw [(f1 1113 0 (by omega)).1]; exact hc)
    rw [g1, g2] at h1 h2
    refine ⟨G', ?_, fun k h4 h5 => ?_, fun k h4 => ?_, f1.tr h3⟩
    · rw [e_X11_province_105, hc, tltP (by omega) (by omega) (by omega), nI_add, ttin (by omega) (by omega), ttin (by omega) (by omega), nI_clamp (by omega), nI_clamp (by omega)]
      dsimp only
      rw [ttin (by omega) (by omega), ttin (by omega) (by omega), gA_ne (show 1112 ≠ 1111 by omega), ← hG1, nI_add]
      exact e
    · by_cases w : k = i
      · rw [(h2 k (by omega)).1, (h2 k (by omega)).2, w, upd_eq, upd_eq]
        exact ⟨rfl, rfl⟩
      · have := h1 k (by omega) h5
        rw [upd_ne (by omega), upd_ne (by omega)] at this
        exact this
    · have := h2 k (by omega)
      rw [upd_ne (by omega), upd_ne (by omega)] at this
      exact this
theorem r_cp_153 {mn : Nat} (hmn : mn ≤ 21) : ∀ m i (G : tH), i + m = mn → gI G 1119 0 = nI mn → ∃ G', V_X11_province_153 (nI i) G = tbV (V_X11_begins (sI G' 1118 0 (nI mn))) (fun G_4 => some (some (vI (nI 0)), G_4)) ∧ (∀ k, i ≤ k → k < mn → gB G' 1114 0 k = gB G 1115 0 k ∧ gA G' 1116 0 k = gA G 1117 0 k) ∧ (∀ k, k < i → gB G' 1114 0 k = gB G 1114 0 k ∧ gA G' 1116 0 k = gA G 1116 0 k) ∧ tfr (fun f _ => f = 1114 ∨ f = 1116) G G' := by
  intro m
  induction m with
  | zero =>
    intro i G hi hc
    refine ⟨G, ?_, fun k h1 h2 => by omega, fun k _ => ⟨rfl, rfl⟩, tfr.rf⟩
    rw [e_X11_province_153, hc, tltM (by omega) (by omega) (by omega)]
  | succ m ih =>
    intro i G hi hc
    obtain ⟨G1, hG1⟩ : ∃ g, g = sA (sB G 1114 0 (vp_updL (gB G 1114 0) i (gB G 1115 0 i))) 1116 0 (upd (gA G 1116 0) i (gA G 1117 0 i)) := ⟨_, rfl⟩
    have g1 : gB G1 1114 0 = vp_updL (gB G 1114 0) i (gB G 1115 0 i) := by rw [hG1, gB_sA, gB_eq]
    have g2 : gA G1 1116 0 = upd (gA G 1116 0) i (gA G 1117 0 i) := by rw [hG1, gA_eq]
    have f1 : tfr (fun f _ => f = 1114 ∨ f = 1116) G G1 := by rw [hG1]; exact tfrA (tfr.sB (Or.inl rfl)) (Or.inr rfl)
    obtain ⟨G', e, h1, h2, h3⟩ := ih (i + 1) G1 (by omega) (by rw [(f1 1119 0 (by omega)).1]; exact hc)
    have n1 := (f1 1115 0 (by omega)).2.2.2.2
    have n2 := (f1 1117 0 (by omega)).2.2.2.1
    rw [g1, g2] at h2
    rw [n1, n2] at h1
    refine ⟨G', ?_, fun k h4 h5 => ?_, fun k h4 => ?_, f1.tr h3⟩
    · rw [e_X11_province_153, hc, tltP (by omega) (by omega) (by omega), ttin (by omega) (by omega), nI_clamp (by omega)]
      dsimp only
      rw [ttin (by omega) (by omega), ttin (by omega) (by omega), ttin (by omega) (by omega), gA_sB, ← hG1, nI_add]
      exact e
    · by_cases w : k = i
      · have := h2 k (by omega)
        rw [w, pk_uLs, upd_eq] at this
        rw [w]; exact this
      · exact h1 k (by omega) h5
    · have := h2 k (by omega)
      rw [pk_uLn (by omega), upd_ne (by omega)] at this
      exact this
