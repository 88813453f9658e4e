/-! PURE: the reference: its acts with loops -/
theorem sA_id {G : tH} {c o : Nat} : sA G c o (gA G c o) = G := by
  refine (congrArg (fun z : Nat → Nat → Nat → Int32 => ((G.fst, G.snd.fst, G.snd.snd.fst, z, G.snd.snd.snd.snd) : tH)) (funext fun c' => funext fun o' => ?_) : _ = ((G.fst, G.snd.fst, G.snd.snd.fst, G.snd.snd.snd.fst, G.snd.snd.snd.snd) : tH))
  show (if c' = c then (if o' = o then gA G c o else G.snd.snd.snd.fst c' o') else G.snd.snd.snd.fst c' o') = G.snd.snd.snd.fst c' o'
  by_cases h1 : c' = c
  · by_cases h2 : o' = o
    · rw [if_pos h1, if_pos h2, h1, h2]; rfl
    · rw [if_pos h1, if_neg h2]
  · rw [if_neg h1]

theorem r_highest {G : tH} {b : Nat} {pr : mP} {sg : mS} (hP : rP G pr) (ho : okP pr) (hS : rS (gA G 1124 0) b pr sg) (hs : okS pr sg) (hb : b + 61 ≤ 1403) : V_X11_highest (nI b) G = some (some (vI (hI (topN (sg.1 7) (nC pr)))), G) := by
  have hT := ho.1
  have hC := ho.2.1
  have hH := ho.2.2.1
  have hJ := ho.2.2.2.1
  have hh := hs.2.2.2.2.1
  rw [e_X11_highest]
  have key : ∀ n i, i + n = nC pr → V_X11_highest_4 (nI b) (hI (topN (sg.1 7) i)) (nI i) G = some (some (vI (hI (topN (sg.1 7) (nC pr)))), G) := by
    intro n
    induction n with
    | zero =>
      intro i hi
      rw [e_X11_highest_4, r_companies hP, tbI_v, tltM (by omega) (by omega) (by omega), show i = nC pr by omega]
    | succ n ih =>
      intro i hi
      have hb1 := hs.2.1 i (by omega)
      have hle := topN_le (sg.1 7) i
      have h2 := ih (i + 1) (by omega)
      have k7 := (hS.2.2.2.2.2.2.1 i (by omega)).2
      have e55 : V_X11_highest_55 (nI b) (hI (topN (sg.1 7) i)) (nI i) G = V_X11_highest_4 (nI b) (nI i) (nI (i + 1)) G := by rw [e_X11_highest_55, e_X11_highest_60, tn1, nI_add]
      have e59 : V_X11_highest_59 (nI b) (hI (topN (sg.1 7) i)) (nI i) G = V_X11_highest_4 (nI b) (hI (topN (sg.1 7) i)) (nI (i + 1)) G := by rw [e_X11_highest_59, e_X11_highest_60, tn0, nI_add]
      rw [e_X11_highest_4, r_companies hP, tbI_v, tltP (by omega) (by omega) (by omega), e55, e59]
      simp (disch := omega) only [nI_add, ttin, nI_clamp, k7]
      by_cases h0 : sg.1 7 i = 0
      · rw [tl0M h0, ← h2, topN, h0, if_neg (by omega)]
      · rw [tl0P (by omega) (by omega)]
        by_cases ht : topN (sg.1 7) i = 0
        · rw [ht, tif_pos (by decide +kernel), ← h2, topN, ht, if_pos rfl, if_pos (by omega), hI_pos (by omega)]
          rfl
        · have hb2 := hs.2.1 (topN (sg.1 7) i - 1) (by omega)
          have k8 := (hS.2.2.2.2.2.2.1 (topN (sg.1 7) i - 1) (by omega)).2
          rw [hI_pos ht, tlt0 (by omega)]
          simp (disch := omega) only [nI_add, ttin, nI_clamp, k8]
          by_cases hlt : sg.1 7 (topN (sg.1 7) i - 1) < sg.1 7 i
          · rw [tltP (by omega) (by omega) hlt, ← h2, topN, if_neg ht, if_pos hlt, hI_pos (by omega)]
            rfl
          · rw [tltM (by omega) (by omega) (by omega), ← h2, topN, if_neg ht, if_neg hlt, hI_pos ht]
  exact key (nC pr) 0 (by omega)
theorem r_mayAward {G : tH} {b : Nat} {pr : mP} {sg : mS} (hP : rP G pr) (ho : okP pr) (hS : rS (gA G 1124 0) b pr sg) (hs : okS pr sg) (hb : b + 61 ≤ 1403) : V_X11_mayAward (nI b) G = some (some (vI (bN (mayAward pr sg))), G) := by
  have hT := ho.1
  have hC := ho.2.1
  have hH := ho.2.2.1
  have hJ := ho.2.2.2.1
  have hh := hs.2.2.2.2.1
  have hle := topN_le (sg.1 7) (nC pr)
  rw [e_X11_mayAward, r_isHeld hS hb ho hs, tbI_v, r_highest hP ho hS hs hb, tbI_v]
  simp only [tz0, tz1]
  by_cases m1 : sg.1 10 0 = 0
  · rw [if_pos m1, tn0]
    by_cases m2 : topN (sg.1 7) (nC pr) = 0
    · rw [m2, tif_pos (by decide +kernel), bN_0 fun h => h.2 m2]
    · rw [hI_pos m2, tlt0 (by omega), bN_1 ⟨m1, m2⟩]
  · rw [if_neg m1, tn1, bN_0 fun h => m1 h.1]
theorem r_award_loop (b : Nat) (hb : b + 61 ≤ 1403) (G : tH) : ∀ n i a, i + n = 5 → ∃ a', V_X11_awards_111 (nI b) (nI i) (sA G 1124 0 a) = some (some (vI (a b)), sA G 1124 0 a') ∧ (∀ k, (b + 46 + i ≤ k ∧ k < b + 51) ∨ (b + 51 + i ≤ k ∧ k < b + 56) → a' k = nI 0) ∧ ∀ k, ¬ ((b + 46 + i ≤ k ∧ k < b + 51) ∨ (b + 51 + i ≤ k ∧ k < b + 56)) → a' k = a k := by
  intro n
  induction n with
  | zero =>
    intro i a hi
    refine ⟨a, ?_, fun k hk => by omega, fun k hk => rfl⟩
    rw [e_X11_awards_111, tltM (by omega) (by omega) (by omega)]
    simp (disch := omega) only [nI_add, ttin, nI_clamp, Nat.add_zero, gA_eq, gA_ne, upd_eq, upd_ne, sA_sA, tbI_v]
  | succ n ih =>
    intro i a hi
    obtain ⟨a', e, h1, h2⟩ := ih (i + 1) (upd (upd a (b + 46 + i) (nI 0)) (b + 51 + i) (nI 0)) (by omega)
    refine ⟨a', ?_, fun k hk => ?_, fun k hk => ?_⟩
    · rw [e_X11_awards_111, tltP (by omega) (by omega) (by omega)]
      simp (disch := omega) only [nI_add, ttin, nI_clamp, Nat.add_zero, gA_eq, gA_ne, upd_eq, upd_ne, sA_sA, tbI_v]
      rw [e]
      simp (disch := omega) only [upd_ne]
    · by_cases hk1 : k = b + 46 + i
      · subst hk1
        rw [h2 _ (by omega), upd_ne (by omega), upd_eq]
      · by_cases hk2 : k = b + 51 + i
        · subst hk2
          rw [h2 _ (by omega), upd_eq]
        · exact h1 k (by omega)
    · rw [h2 k (by omega), upd_ne (by omega), upd_ne (by omega)]
theorem r_award_end (b : Nat) (hb : b + 61 ≤ 1403) (G : tH) (a : Nat → Int32) : ∃ a', V_X11_awards_90 (nI b) (sA G 1124 0 a) = some (some (vI (a b)), sA G 1124 0 a') ∧ a' (b + 1) = nI 0 ∧ a' (b + 2) = nI 0 ∧ (∀ k, b + 46 ≤ k → k < b + 56 → a' k = nI 0) ∧ ∀ k, k ≠ b + 1 → k ≠ b + 2 → k < b + 46 ∨ b + 56 ≤ k → a' k = a k := by
  obtain ⟨a', e, h1, h2⟩ := r_award_loop b hb G 5 0 (upd (upd a (b + 1) (nI 0)) (b + 2) (nI 0)) (by omega)
  refine ⟨a', ?_, ?_, ?_, fun k hk hk2 => h1 k (by omega), fun k k1 k2 k3 => ?_⟩
  · rw [e_X11_awards_90]
    simp (disch := omega) only [nI_add, ttin, nI_clamp, Nat.add_zero, gA_eq, gA_ne, upd_eq, upd_ne, sA_sA, tbI_v]
    rw [e]
    simp (disch := omega) only [upd_ne]
  · rw [h2 _ (by omega), upd_ne (by omega), upd_eq]
  · rw [h2 _ (by omega), upd_eq]
  · rw [h2 _ (by omega), upd_ne (by omega), upd_ne (by omega)]
theorem r_awards {G : tH} {b : Nat} {pr : mP} {sg : mS} (hP : rP G pr) (ho : okP pr) (hS : rS (gA G 1124 0) b pr sg) (hs : okS pr sg) (hb : b + 61 ≤ 1403) (hm : mayAward pr sg) : ∃ G', V_X11_awards (nI b) G = some (some (vI (hI ((fAward pr sg).1 10 0))), G') ∧ rD G G' b pr (fAward pr sg) := by
  obtain ⟨m1, m2⟩ := hm
  have hT := ho.1
  have hC := ho.2.1
  have hH := ho.2.2.1
  have hJ := ho.2.2.2.1
  have hh := hs.2.2.2.2.1
  have hle := topN_le (sg.1 7) (nC pr)
  have htp : tpI pr sg < nC pr := by unfold tpI; omega
  have hkd := (ho.2.2.2.2.2.2.2.1 _ htp).1
  have hbd := hs.2.1 _ htp
  obtain ⟨k6, k7⟩ := hS.2.2.2.2.2.2.1 _ htp
  have e44 : V_X11_awards (nI b) G = V_X11_awards_44 (nI b) (nI (tpI pr sg)) (nI (payN pr sg)) G := by
    rw [e_X11_awards, r_highest hP ho hS hs hb, hI_pos m2, tbI_v, show topN (sg.1 7) (nC pr) - 1 = tpI pr sg from rfl, r_sortOf hP ho htp, tbI_v]
    simp (disch := omega) only [nI_add, ttin, nI_clamp, Nat.add_zero, gA_eq, gA_ne, upd_eq, upd_ne, sA_sA, tbI_v, k7, pk_mul, tn4, pk_div]
    unfold payN
    by_cases h2 : pr 2 (tpI pr sg) = 2
    · rw [teqP h2, if_pos h2, Nat.mul_comm]
    · rw [teqM (by omega) (by omega) h2, if_neg h2]
  rw [e44, e_X11_awards_44, r_sortOf hP ho htp, tbI_v]
  by_cases h1 : pr 2 (tpI pr sg) = 1
  · rw [teqP h1]
    obtain ⟨a', e, z1, z2, z3, z4⟩ := r_award_end b hb G (gA G 1124 0)
    rw [sA_id] at e
    have f1 : (fAward pr sg).1 10 0 = 0 := by simp (disch := omega) only [fAward, if_pos h1, u1_ni, u1_eq]
    refine ⟨_, by rw [e, hS.1, m1, f1], ⟨?_, ?_, ?_, ?_, ?_, fun t ht => ?_, fun c hc => ?_, fun j hj => ?_⟩, fun i hi => ?_, tfr.sA (Or.inr (Or.inr rfl))⟩
    all_goals simp only [gA_eq]
    · rw [z4 _ (by omega) (by omega) (by omega), hS.1, m1, f1]
    · rw [z1]; simp (disch := omega) only [fAward, u1_eq]
    · rw [z2]; simp (disch := omega) only [fAward, upd_eq, nI_0]
    · rw [z4 _ (by omega) (by omega) (by omega), hS.2.2.2.1]; simp (disch := omega) only [fAward, if_pos h1, upd_ne]
    · rw [z4 _ (by omega) (by omega) (by omega), hS.2.2.2.2.1]; simp (disch := omega) only [fAward, u1_ni, z7_ne]
    · obtain ⟨q1, q2, q3, q4, q5, q6⟩ := hS.2.2.2.2.2.1 t ht
      rw [z4 _ (by omega) (by omega) (by omega), z4 _ (by omega) (by omega) (by omega), z4 _ (by omega) (by omega) (by omega), z4 _ (by omega) (by omega) (by omega), z4 _ (by omega) (by omega) (by omega), z4 _ (by omega) (by omega) (by omega), q1, q2, q3, q4, q5, q6]
      simp (disch := omega) only [fAward, u1_nk, z7_ne, and_self]
    · obtain ⟨q1, q2⟩ := hS.2.2.2.2.2.2.1 c hc
      rw [z4 _ (by omega) (by omega) (by omega), z3 _ (by omega) (by omega), q1]
      simp (disch := omega) only [fAward, if_pos h1, upd_ne, u1_nk, z7_ne, z7_eq, and_self]
    · rw [z3 _ (by omega) (by omega)]
      simp (disch := omega) only [fAward, u1_nk, z7_eq]
    · rw [z4 _ (by omega) (by omega) (by omega)]
  · rw [teqM (by omega) (by omega) h1]
    obtain ⟨a', e, z1, z2, z3, z4⟩ := r_award_end b hb G (upd (upd (upd (gA G 1124 0) b (nI (tpI pr sg))) (b + 41 + tpI pr sg) (sg.2 (tpI pr sg) - nI (payN pr sg))) (b + 3) (sg.2 11 + nI (payN pr sg)))
    have f1 : (fAward pr sg).1 10 0 = tpI pr sg + 1 := by simp (disch := omega) only [fAward, if_neg h1, u1_ni, u1_eq]
    have f2 : hI (tpI pr sg + 1) = nI (tpI pr sg) := by rw [hI_pos (by omega)]; rfl
    refine ⟨sA G 1124 0 a', ?_, ⟨?_, ?_, ?_, ?_, ?_, fun t ht => ?_, fun c hc => ?_, fun j hj => ?_⟩, fun i hi => ?_, tfr.sA (Or.inr (Or.inr rfl))⟩
    · simp (disch := omega) only [nI_add, ttin, nI_clamp, Nat.add_zero, gA_eq, gA_ne, upd_eq, upd_ne, sA_sA, tbI_v, k6, hS.2.2.2.1]
      rw [e]
      simp (disch := omega) only [upd_ne, upd_eq, f1, f2]
    all_goals simp only [gA_eq]
    · rw [z4 _ (by omega) (by omega) (by omega), f1, f2]; simp (disch := omega) only [upd_ne, upd_eq]
    · rw [z1]; simp (disch := omega) only [fAward, u1_eq]
    · rw [z2]; simp (disch := omega) only [fAward, upd_eq, nI_0]
    · rw [z4 _ (by omega) (by omega) (by omega)]; simp (disch := omega) only [fAward, if_neg h1, upd_ne, upd_eq]
    · rw [z4 _ (by omega) (by omega) (by omega)]; simp (disch := omega) only [fAward, u1_ni, z7_ne, upd_ne, hS.2.2.2.2.1]
    · obtain ⟨q1, q2, q3, q4, q5, q6⟩ := hS.2.2.2.2.2.1 t ht
      rw [z4 _ (by omega) (by omega) (by omega), z4 _ (by omega) (by omega) (by omega), z4 _ (by omega) (by omega) (by omega), z4 _ (by omega) (by omega) (by omega), z4 _ (by omega) (by omega) (by omega), z4 _ (by omega) (by omega) (by omega)]
      simp (disch := omega) only [fAward, u1_nk, z7_ne, upd_ne, q1, q2, q3, q4, q5, q6, and_self]
    · obtain ⟨q1, q2⟩ := hS.2.2.2.2.2.2.1 c hc
      rw [z4 _ (by omega) (by omega) (by omega), z3 _ (by omega) (by omega)]
      by_cases h : c = tpI pr sg
      · subst h
        simp (disch := omega) only [fAward, if_neg h1, upd_ne, upd_eq, u1_nk, z7_ne, z7_eq, and_self]
      · simp (disch := omega) only [fAward, if_neg h1, upd_ne, upd_eq, u1_nk, z7_ne, z7_eq, q1, and_self]
    · rw [z3 _ (by omega) (by omega)]
      simp (disch := omega) only [fAward, u1_nk, z7_eq]
    · rw [z4 _ (by omega) (by omega) (by omega), upd_ne (by omega), upd_ne (by omega), upd_ne (by omega)]
theorem r_letsGo {G : tH} {b : Nat} {pr : mP} {sg : mS} (hP : rP G pr) (ho : okP pr) (hS : rS (gA G 1124 0) b pr sg) (hs : okS pr sg) (hb : b + 61 ≤ 1403) (m1 : sg.1 10 0 ≠ 0) {j : Nat} (hj : j < nJ pr) : V_X11_letsGo (nI b) (nI j) G = some (some (vI (nI (lgN pr sg j))), G) := by
  have hT := ho.1
  have hC := ho.2.1
  have hH := ho.2.2.1
  have hJ := ho.2.2.2.1
  have hh := hs.2.2.2.2.1
  have hh5 : mkH sg < 5 := by unfold mkH; omega
  have hhC : mkH sg < nC pr := by unfold mkH; omega
  have hhol : gA G 1124 0 b = nI (mkH sg) := by rw [hS.1, hI_pos m1]; rfl
  have hbar := ho.2.2.2.2.2.1
  have hk := (ho.2.2.2.2.2.2.2.1 _ hhC).1
  have hsh := (ho.2.2.2.2.2.2.2.2.2 j hj).1
  have hsp := hs.2.2.2.1 j
  have e33 : V_X11_letsGo_33 (nI b) (nI j) (nI (barN pr sg)) G = some (some (vI (nI (lgN pr sg j))), G) := by
    rw [e_X11_letsGo_33]
    simp (disch := omega) only [nI_add, ttin, nI_clamp, Nat.add_zero, gA_eq, gA_ne, upd_eq, upd_ne, sA_sA, tbI_v, pk_mul, hhol, (hP.2.2.2.2.2.2.2.2.2 j hj).1, hS.2.2.2.2.2.2.2 j hj, hS.2.2.1, tz0, tz1]
    by_cases h1 : pr 6 j = mkH sg
    · rw [teqP h1, lgN_1 (Or.inl h1)]
    · rw [teqM (by omega) (by omega) h1]
      by_cases h2 : sg.1 9 j = 1
      · rw [teqP h2, lgN_1 (Or.inr (Or.inl h2))]
      · rw [teqM (by omega) (by omega) h2]
        by_cases h3 : nI (barN pr sg) < sg.2 10
        · rw [tif_pos h3, lgN_0]
          rintro (q | q | q)
          · exact h1 q
          · exact h2 q
          · exact q h3
        · rw [tif_neg h3, lgN_1 (Or.inr (Or.inr h3))]
  rw [e_X11_letsGo]
  simp (disch := omega) only [nI_add, ttin, nI_clamp, Nat.add_zero, gA_eq, gA_ne, upd_eq, upd_ne, sA_sA, tbI_v, hhol, r_sortOf hP ho hhC, hP.2.2.2.2.2.1, pk_mul]
  by_cases h3 : pr 2 (mkH sg) = 3
  · rw [teqP h3, ← e33, barN, if_pos h3]
  · rw [teqM (by omega) (by omega) h3, ← e33, barN, if_neg h3]
theorem up_eq (s i : Nat) : nI s - nI i + nI 1 = nI (s + 2) - nI (i + 1) := by
  have h2 : nI (s + 2) = nI s + (nI 1 + nI 1) := by simp only [nI_add]
  have h3 : nI (i + 1) = nI i + nI 1 := by simp only [nI_add]
  rw [h2, h3]
  generalize nI s = p; generalize nI i = q; generalize nI 1 = r
  refine (Int32.sub_eq_iff_eq_add.mpr ?_).symm
  rw [show p - q + r + (q + r) = (p - q + q) + (r + r) by ac_rfl, Int32.sub_add_cancel]
theorem dn_eq (s i : Nat) : nI s - nI i + (-1 : Int32) = nI s - nI (i + 1) := by
  have h3 : nI (i + 1) = nI i + 1 := by rw [← nI_add]; rfl
  rw [h3]
  generalize nI s = p; generalize nI i = q
  refine (Int32.sub_eq_iff_eq_add.mpr ?_).symm
  rw [show p - q + -1 + (q + 1) = (p - q + q) + (-1 + 1) by ac_rfl, Int32.sub_add_cancel, show (-1 : Int32) + 1 = 0 from rfl, Int32.add_zero]
noncomputable def vtN (pr : mP) (sg : mS) (x j : Nat) : Nat := if lgN pr sg j = 0 ∧ x / 2 ^ j % 2 = 0 then 0 else 1
/-- how the votes stand: one more for each who lets go, one less for each who does not -/
theorem r_isFree_loop {G : tH} {b : Nat} {pr : mP} {sg : mS} (hP : rP G pr) (ho : okP pr) (hS : rS (gA G 1124 0) b pr sg) (hs : okS pr sg) (hb : b + 61 ≤ 1403) (m1 : sg.1 10 0 ≠ 0) {x : Nat} (hx : x < 32) : ∀ n i s, i + n = nJ pr → s ≤ 2 * i → V_X11_isFree_5 (nI b) (nI x) (nI s - nI i) (nI i) G = some (some (vI (if s + 2 * (sumN (vtN pr sg x) (nJ pr) - sumN (vtN pr sg x) i) < nJ pr then nI 0 else nI 1)), G) := by
  have hT := ho.1
  have hC := ho.2.1
  have hH := ho.2.2.1
  have hJ := ho.2.2.2.1
  have hh := hs.2.2.2.2.1
  intro n
  induction n with
  | zero =>
    intro i s hi hs2
    have : i = nJ pr := by omega
    subst this
    rw [e_X11_isFree_5, r_jurors hP, tbI_v, tltM (by omega) (by omega) (by omega), Nat.sub_self, Nat.mul_zero, Nat.add_zero]
    simp only [tz0, tz1]
    by_cases h : s < nJ pr
    · rw [if_pos h, tif_pos (pk_sneg (by omega) h)]
    · rw [if_neg h, nI_sub (by omega), tlt0 (by omega)]
  | succ n ih =>
    intro i s hi hs2
    have hlg := lgN_le pr sg i
    have hmono : ∀ (f : Nat → Nat) (k m : Nat), m + k ≤ nJ pr → sumN f m ≤ sumN f (m + k) := by
      intro f k m _
      induction k with
      | zero => exact Nat.le_refl _
      | succ k ihk => have := ihk (by omega); show sumN f m ≤ sumN f (m + k) + f (m + k); omega
    have hle := hmono (vtN pr sg x) n (i + 1) (by omega)
    rw [show i + 1 + n = nJ pr by omega] at hle
    have hst : sumN (vtN pr sg x) (i + 1) = sumN (vtN pr sg x) i + vtN pr sg x i := rfl
    have up : nI s - nI i + nI 1 = nI (s + 2) - nI (i + 1) := up_eq s i
    have dn : nI s - nI i + (-1 : Int32) = nI s - nI (i + 1) := dn_eq s i
    rw [e_X11_isFree_5, r_jurors hP, tbI_v, tltP (by omega) (by omega) (by omega), r_letsGo hP ho hS hs hb m1 (by omega), tbI_v, bit5 x hx i (by omega), nI_add, up, dn]
    have hu := ih (i + 1) (s + 2) (by omega) (by omega)
    have hd := ih (i + 1) s (by omega) (by omega)
    rw [hst] at hu hd hle
    have hone : vtN pr sg x i = 1 → V_X11_isFree_5 (nI b) (nI x) (nI (s + 2) - nI (i + 1)) (nI (i + 1)) G = some (some (vI (if s + 2 * (sumN (vtN pr sg x) (nJ pr) - sumN (vtN pr sg x) i) < nJ pr then nI 0 else nI 1)), G) := by
      intro hv
      rw [hv] at hu hle
      rw [hu, show s + 2 + 2 * (sumN (vtN pr sg x) (nJ pr) - (sumN (vtN pr sg x) i + 1)) = s + 2 * (sumN (vtN pr sg x) (nJ pr) - sumN (vtN pr sg x) i) by omega]
    rcases (show lgN pr sg i = 0 ∨ lgN pr sg i = 1 by omega) with h | h
    · rw [h, tn0]
      rcases (show x / 2 ^ i % 2 = 0 ∨ x / 2 ^ i % 2 = 1 by omega) with h2 | h2
      · rw [h2, teqM (by omega) (by omega) (by omega), hd, show vtN pr sg x i = 0 from if_pos ⟨h, h2⟩, Nat.add_zero]
      · rw [h2, teqP rfl, hone (if_neg (by omega))]
    · rw [h, tn1, hone (if_neg (by omega))]
theorem vtN_0 {pr : mP} {sg : mS} : vtN pr sg 0 = lgN pr sg := by
  funext j
  unfold vtN
  rw [Nat.zero_div, Nat.zero_mod]
  have := lgN_le pr sg j
  split <;> omega
theorem r_isFree {G : tH} {b : Nat} {pr : mP} {sg : mS} (hP : rP G pr) (ho : okP pr) (hS : rS (gA G 1124 0) b pr sg) (hs : okS pr sg) (hb : b + 61 ≤ 1403) (m1 : sg.1 10 0 ≠ 0) {x : Nat} (hx : x < 32) : V_X11_isFree (nI b) (nI x) G = some (some (vI (if 2 * sumN (vtN pr sg x) (nJ pr) < nJ pr then nI 0 else nI 1)), G) := by
  rw [e_X11_isFree]
  have h := r_isFree_loop hP ho hS hs hb m1 hx (nJ pr) 0 0 (by omega) (by omega)
  rw [Int32.sub_self, ← nI_0] at h
  rw [h, Nat.zero_add]
  rfl
