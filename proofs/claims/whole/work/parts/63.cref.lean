/-! PURE: the class' acts upon a state that can't be, and those with loops -/
theorem arg19 (x : Int32) : x < nI 1 ∨ (¬ x < nI 1 ∧ nI 9999 < x) ∨ ∃ k, 1 ≤ k ∧ k ≤ 9999 ∧ x = nI k := by
  by_cases h1 : x < nI 1
  · exact Or.inl h1
  by_cases h2 : nI 9999 < x
  · exact Or.inr (Or.inl ⟨h1, h2⟩)
  · refine Or.inr (Or.inr ?_)
    have h0 : ¬ x < 0 := fun q => h1 (Int32.lt_of_lt_of_le q (by decide +kernel))
    obtain ⟨k, hk, rfl⟩ := nI_of h0
    rw [nI_ltI hk (by omega)] at h1
    rw [nI_ltI (by omega) hk] at h2
    exact ⟨k, by omega, by omega, rfl⟩
theorem arg09 (x : Int32) : x < 0 ∨ (¬ x < 0 ∧ nI 9999 < x) ∨ ∃ k, k ≤ 9999 ∧ x = nI k := by
  by_cases h1 : x < 0
  · exact Or.inl h1
  by_cases h2 : nI 9999 < x
  · exact Or.inr (Or.inl ⟨h1, h2⟩)
  · obtain ⟨k, hk, rfl⟩ := nI_of h1
    rw [nI_ltI (by omega) hk] at h2
    exact Or.inr (Or.inr ⟨k, by omega, rfl⟩)
section NO
variable {G : tH} {o p : Nat} {pr : mP} {sg : mS} {x1 x2 : Int32}
theorem n_take (hP : cP G p pr) (ho : okP pr) (hS : cS G o p pr sg) (hs : okS pr sg) (hn : ∀ t x, x1 = nI t → x2 = nI x → ¬ mayTake pr sg t x) : V_X7_takeFrom o x1 x2 G = some (some (vI (-1)), G) := by
  have hT := ho.1
  rw [e_X7_takeFrom, v_isHeld hP hS ho hs]
  by_cases m1 : sg.1 10 0 = 0
  · rw [if_pos m1, tbI_v, tn0]
  rw [if_neg m1, tbI_v, tn1, hS.1, v_has, hP.1]
  rcases has_cases (x := x1) (n := nT pr) (by omega) with ⟨t, ht, rfl, hz⟩ | ⟨hno, hz⟩
  · rw [hz, tbI_v, tn1, v_isSpared hS hs (by omega)]
    have hsp := hs.2.2.1 t
    obtain ⟨b1, b2, b3, b4⟩ := hs.1 t ht
    obtain ⟨k1, k2, k3, k4, k5⟩ := hS.2.1 t ht
    rcases (show sg.1 8 t = 0 ∨ sg.1 8 t = 1 by omega) with m3 | m3
    · rw [m3, tbI_v, tn0]
      rcases arg19 x2 with h | ⟨h, h'⟩ | ⟨x, hx1, hx2, rfl⟩
      · rw [tif_pos h]
      · rw [tif_neg h, tif_pos h']
      · have hc : sg.1 2 t < x := Nat.lt_of_not_le fun q => hn t x rfl rfl ⟨m1, ht, m3, hx1, hx2, q⟩
        simp (disch := omega) only [tltM, tltP, ttin, nI_clamp, k2]
    · rw [m3, tbI_v, tn1]
  · rw [hz, tbI_v, tn0]
theorem n_lend (hP : cP G p pr) (ho : okP pr) (hS : cS G o p pr sg) (hs : okS pr sg) (hn : ∀ t x, x1 = nI t → x2 = nI x → ¬ mayLend pr sg t x) : V_X7_lendTo o x1 x2 G = some (some (vI (-1)), G) := by
  have hT := ho.1
  have hC := ho.2.1
  have hh := hs.2.2.2.2.1
  rw [e_X7_lendTo, v_isHeld hP hS ho hs]
  by_cases m1 : sg.1 10 0 = 0
  · rw [if_pos m1, tbI_v, tn0]
  have hh5 : mkH sg < 5 := by unfold mkH; omega
  have hhC : mkH sg < nC pr := by unfold mkH; omega
  have hhol : gI G 710 o = nI (mkH sg) := by rw [hS.2.2.2.2.2.1, hI_pos m1]; rfl
  rw [if_neg m1, tbI_v, tn1, hS.1, v_has, hP.1]
  rcases has_cases (x := x1) (n := nT pr) (by omega) with ⟨t, ht, rfl, hz⟩ | ⟨hno, hz⟩
  · rw [hz, tbI_v, tn1]
    rcases arg19 x2 with h | ⟨h, h'⟩ | ⟨x, hx1, hx2, rfl⟩
    · rw [tif_pos h]
    · rw [tif_neg h, tif_pos h']
    · have hc : sg.2 (mkH sg) < nI x := Classical.byContradiction fun q => hn t x rfl rfl ⟨m1, ht, hx1, hx2, q⟩
      simp (disch := omega) only [tltM, ttin, nI_clamp, hhol, (hS.2.2.1 _ hhC).1, tif_pos hc]
  · rw [hz, tbI_v, tn0]
theorem n_call (hP : cP G p pr) (ho : okP pr) (hS : cS G o p pr sg) (hs : okS pr sg) (hn : ∀ t x, x1 = nI t → x2 = nI x → ¬ mayCall pr sg t x) : V_X7_callIn o x1 x2 G = some (some (vI (-1)), G) := by
  have hT := ho.1
  rw [e_X7_callIn, v_isHeld hP hS ho hs]
  by_cases m1 : sg.1 10 0 = 0
  · rw [if_pos m1, tbI_v, tn0]
  rw [if_neg m1, tbI_v, tn1, hS.1, v_has, hP.1]
  rcases has_cases (x := x1) (n := nT pr) (by omega) with ⟨t, ht, rfl, hz⟩ | ⟨hno, hz⟩
  · rw [hz, tbI_v, tn1]
    obtain ⟨b1, b2, b3, b4⟩ := hs.1 t ht
    obtain ⟨k1, k2, k3, k4, k5⟩ := hS.2.1 t ht
    by_cases h : x2 < nI 1
    · rw [tif_pos h]
    · have h0 : ¬ x2 < 0 := fun q => h (Int32.lt_of_lt_of_le q (by decide +kernel))
      obtain ⟨x, hx, rfl⟩ := nI_of h0
      have hx1 : 1 ≤ x := by rw [nI_ltI hx (by omega)] at h; omega
      rw [tif_neg h]
      by_cases hd : sg.1 5 t < x
      · simp (disch := omega) only [tltM, tltP, ttin, nI_clamp, k5]
      · have hc : sg.1 1 t < x := Nat.lt_of_not_le fun q => hn t x rfl rfl ⟨m1, ht, hx1, by omega, q⟩
        simp (disch := omega) only [tltM, tltP, ttin, nI_clamp, k5, k1]
  · rw [hz, tbI_v, tn0]
theorem n_bribe (hP : cP G p pr) (ho : okP pr) (hS : cS G o p pr sg) (hs : okS pr sg) (hn : ∀ j, x1 = nI j → ¬ mayBribe pr sg j) : V_X7_bribeJuror o x1 G = some (some (vI (nI 0)), G) := by
  have hJ := ho.2.2.2.1
  have hC := ho.2.1
  have hh := hs.2.2.2.2.1
  rw [e_X7_bribeJuror, v_isHeld hP hS ho hs]
  by_cases m1 : sg.1 10 0 = 0
  · rw [if_pos m1, tbI_v, tn0, tz0]
  have hh5 : mkH sg < 5 := by unfold mkH; omega
  have hhC : mkH sg < nC pr := by unfold mkH; omega
  have hhol : gI G 710 o = nI (mkH sg) := by rw [hS.2.2.2.2.2.1, hI_pos m1]; rfl
  rw [if_neg m1, tbI_v, tn1, hS.1, v_has, hP.2.2.2.1]
  rcases has_cases (x := x1) (n := nJ pr) (by omega) with ⟨j, hj, rfl, hz⟩ | ⟨hno, hz⟩
  · rw [hz, tbI_v, tn1, v_isBribed hS hs (by omega)]
    have hsp := hs.2.2.2.1 j
    rcases (show sg.1 9 j = 0 ∨ sg.1 9 j = 1 by omega) with m3 | m3
    · have hc : sg.2 (mkH sg) < nI (pr 7 j) := Classical.byContradiction fun q => hn j rfl ⟨m1, hj, m3, q⟩
      rw [m3, tbI_v, tn0]
      simp (disch := omega) only [ttin, nI_clamp, hhol, (hS.2.2.1 _ hhC).1, hS.1, (hP.2.2.2.2.2.2.2.2.2 j hj).2, tif_pos hc, tz0]
    · rw [m3, tbI_v, tn1, tz0]
  · rw [hz, tbI_v, tn0, tz0]
theorem n_bid (hP : cP G p pr) (ho : okP pr) (hS : cS G o p pr sg) (hs : okS pr sg) (hn : ∀ c x, x1 = nI c → x2 = nI x → ¬ mayBid pr sg c x) : V_X7_placeBid o x1 x2 G = some (some (vI (nI 0)), G) := by
  have hC := ho.2.1
  rw [e_X7_placeBid, v_isHeld hP hS ho hs]
  by_cases m1 : sg.1 10 0 = 0
  · rw [if_pos m1, tbI_v, tn0, hS.1, v_has, hP.2.1]
    rcases has_cases (x := x1) (n := nC pr) (by omega) with ⟨c, hc, rfl, hz⟩ | ⟨hno, hz⟩
    · rw [hz, tbI_v, tn1]
      rcases arg09 x2 with h | ⟨h, h'⟩ | ⟨x, hx2, rfl⟩
      · rw [tif_pos h, tz0]
      · rw [tif_neg h, tif_pos h', tz0]
      · have hq : sg.2 c < nI x := Classical.byContradiction fun q => hn c x rfl rfl ⟨m1, hc, hx2, q⟩
        simp (disch := omega) only [tlt0, tltM, ttin, nI_clamp, (hS.2.2.1 c hc).1, tif_pos hq, tz0]
    · rw [hz, tbI_v, tn0, tz0]
  · rw [if_neg m1, tbI_v, tn1, tz0]
theorem n_close (hP : cP G p pr) (ho : okP pr) (hS : cS G o p pr sg) (hs : okS pr sg) (hn : ¬ mayClose sg) : V_X7_closeLease o G = some (some (vI (nI 0)), G) := by
  have h6 := hs.2.2.2.2.2
  rw [e_X7_closeLease, v_isHeld hP hS ho hs]
  by_cases m1 : sg.1 10 0 = 0
  · rw [if_pos m1, tbI_v, tn0, tz0]
  · have h5 : sg.1 10 1 < 5 := by
      have : sg.1 10 1 ≠ 5 := fun q => hn ⟨m1, q⟩
      omega
    rw [if_neg m1, tbI_v, tn1, hS.2.2.2.2.2.2.1]
    simp (disch := omega) only [tltP, tz0]
end NO
/-! the means of all -/
def sumN (f : Nat → Nat) : Nat → Nat
  | 0 => 0
  | n + 1 => sumN f n + f n
theorem sumN_le {f : Nat → Nat} {M : Nat} : ∀ n, (∀ i, i < n → f i ≤ M) → sumN f n ≤ n * M
  | 0, _ => Nat.zero_le _
  | n + 1, h => by
    have h1 := sumN_le n (fun i hi => h i (by omega))
    have h2 := h n (by omega)
    rw [sumN, Nat.add_mul]
    omega
theorem v_meansOfAll {G : tH} {o p : Nat} {pr : mP} {sg : mS} (hP : cP G p pr) (ho : okP pr) (hS : cS G o p pr sg) : V_X7_meansOfAll o G = some (some (vI (nI (sumN (sg.1 1) (nT pr)))), G) := by
  have hT := ho.1
  rw [e_X7_meansOfAll]
  have key : ∀ n i, i + n = nT pr → V_X7_meansOfAll_4 o (nI (sumN (sg.1 1) i)) (nI i) G = some (some (vI (nI (sumN (sg.1 1) (nT pr)))), G) := by
    intro n
    induction n with
    | zero =>
      intro i hi
      rw [e_X7_meansOfAll_4, hS.1, hP.1, tltM (by omega) (by omega) (by omega), show i = nT pr by omega]
    | succ n ih =>
      intro i hi
      rw [e_X7_meansOfAll_4, hS.1, hP.1, tltP (by omega) (by omega) (by omega), ttin (by omega) (by omega), nI_clamp (by omega), (hS.2.1 i (by omega)).1, nI_add, nI_add]
      exact ih (i + 1) (by omega)
  exact key (nT pr) 0 (by omega)
/-! the highest bid -/
def topN (f : Nat → Nat) : Nat → Nat
  | 0 => 0
  | n + 1 => if (if topN f n = 0 then 0 else f (topN f n - 1)) < f n then n + 1 else topN f n
theorem topN_le (f : Nat → Nat) : ∀ n, topN f n ≤ n
  | 0 => Nat.le_refl _
  | n + 1 => by
    have := topN_le f n
    unfold topN
    split <;> split <;> omega
theorem v_topBidder {G : tH} {o p : Nat} {pr : mP} {sg : mS} (hP : cP G p pr) (ho : okP pr) (hS : cS G o p pr sg) (hs : okS pr sg) : V_X7_topBidder o G = some (some (vI (hI (topN (sg.1 7) (nC pr)))), G) := by
  have hC := ho.2.1
  rw [e_X7_topBidder]
  have key : ∀ n i, i + n = nC pr → V_X7_topBidder_6 o (hI (topN (sg.1 7) i)) (nI (if topN (sg.1 7) i = 0 then 0 else sg.1 7 (topN (sg.1 7) i - 1))) (nI i) G = some (some (vI (hI (topN (sg.1 7) (nC pr)))), G) := by
    intro n
    induction n with
    | zero =>
      intro i hi
      rw [e_X7_topBidder_6, hS.1, hP.2.1, tltM (by omega) (by omega) (by omega), show i = nC pr by omega]
    | succ n ih =>
      intro i hi
      have hb := hs.2.1 i (by omega)
      have hle := topN_le (sg.1 7) i
      have hb2 : (if topN (sg.1 7) i = 0 then 0 else sg.1 7 (topN (sg.1 7) i - 1)) ≤ 9999 := by
        split
        · omega
        · exact hs.2.1 _ (by omega)
      rw [e_X7_topBidder_6, hS.1, hP.2.1, tltP (by omega) (by omega) (by omega), ttin (by omega) (by omega), nI_clamp (by omega), (hS.2.2.1 i (by omega)).2]
      have h2 := ih (i + 1) (by omega)
      by_cases hlt : (if topN (sg.1 7) i = 0 then 0 else sg.1 7 (topN (sg.1 7) i - 1)) < sg.1 7 i
      · rw [tltP (by omega) (by omega) hlt, ttin (by omega) (by omega), nI_add]
        rw [show topN (sg.1 7) (i + 1) = i + 1 by rw [topN, if_pos hlt]] at h2
        rw [if_neg (by omega), hI_pos (by omega)] at h2
        exact h2
      · rw [tltM (by omega) (by omega) (by omega), nI_add]
        rw [show topN (sg.1 7) (i + 1) = topN (sg.1 7) i by rw [topN, if_neg hlt]] at h2
        exact h2
  exact key (nC pr) 0 (by omega)
