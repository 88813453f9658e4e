/-! PURE: what a year is worth -/
def thF (pr : mP) (s : mS) (r h t : Nat) : Nat := tthN pr (crN pr t (mwN (if t + 1 = r then min 9999 (s.1 1 t + 1) else s.1 1 t) (s.1 2 t)) h)
def thN (pr : mP) (s : mS) (r h : Nat) : Nat := sumN (thF pr s r h) (nT pr)
def wnF (pr : mP) (s : mS) (r x h : Nat) : Nat := if h < nH pr ∧ bitN x h = 1 then pr 5 h * thN pr s r h else 0
def wdF (pr : mP) (x h : Nat) : Nat := if h < nH pr ∧ bitN x h = 1 then pr 5 h else 0
def wtN (pr : mP) (s : mS) (r x : Nat) : Nat := sumN (wnF pr s r x) 5 / sumN (wdF pr x) 5
theorem crN_le (pr : mP) (t m h : Nat) : crN pr t m h ≤ 9999 := by unfold crN; omega
theorem thF_le {pr : mP} (ho : okP pr) (s : mS) (r h t : Nat) : thF pr s r h t ≤ 9999 := tthN_le ho (crN_le _ _ _ _)
theorem thN_le {pr : mP} (ho : okP pr) (s : mS) (r h : Nat) : thN pr s r h ≤ 59994 := by
  have q1 := sumN_le (f := thF pr s r h) (M := 9999) (nT pr) fun i _ => thF_le ho s r h i
  have q2 := Nat.mul_le_mul_right 9999 ho.1
  unfold thN
  omega
theorem wnF_le {pr : mP} (ho : okP pr) (s : mS) (r x h : Nat) : wnF pr s r x h ≤ 539946 := by
  unfold wnF
  split
  · rename_i hc
    exact Nat.mul_le_mul (ho.2.2.2.2.2.2.2.2.1 h hc.1).2.2 (thN_le ho s r h)
  · omega
theorem wdF_le {pr : mP} (ho : okP pr) (x h : Nat) : wdF pr x h ≤ 9 := by
  unfold wdF
  split
  · rename_i hc
    exact (ho.2.2.2.2.2.2.2.2.1 h hc.1).2.2
  · omega
theorem wtN_le {pr : mP} (ho : okP pr) (s : mS) (r x : Nat) : wtN pr s r x ≤ 2699730 := by
  have q1 := sumN_le (f := wnF pr s r x) (M := 539946) 5 fun i _ => wnF_le ho s r x i
  unfold wtN
  have := Nat.div_le_self (sumN (wnF pr s r x) 5) (sumN (wdF pr x) 5)
  omega
theorem sumN_end {f : Nat → Nat} {n : Nat} (h : ∀ i, n ≤ i → f i = 0) : ∀ k, sumN f (n + k) = sumN f n
  | 0 => rfl
  | k + 1 => by
    show sumN f (n + k) + f (n + k) = _
    rw [sumN_end h k, h _ (by omega), Nat.add_zero]
theorem sumN_mono (f : Nat → Nat) (m : Nat) : ∀ k, sumN f m ≤ sumN f (m + k)
  | 0 => Nat.le_refl _
  | k + 1 => by
    have := sumN_mono f m k
    show sumN f m ≤ sumN f (m + k) + f (m + k)
    omega
theorem teqH {i r : Nat} {x y : Option tRes} (hi : i < 2 ^ 30) (hr : r < 2 ^ 30) : tif (nI i = hI r) x y = if i + 1 = r then x else y := by
  by_cases h0 : r = 0
  · rw [h0, hI_0, teqm1 (by omega), if_neg (by omega)]
  · rw [hI_pos h0, teqN (by omega) (by omega)]
    by_cases h : i + 1 = r
    · rw [if_pos (by omega), if_pos h]
    · rw [if_neg (by omega), if_neg h]
/-! the class -/
def zO : Nat → Nat → Prop := fun f _ => 300 ≤ f ∧ f < 400
def cO (G : tH) (pr : mP) (s : mS) (r : Nat) : Prop := gI G 303 0 = nI (2 ^ nH pr - 1) ∧ ∀ h, h < nH pr → gA G 301 0 h = nI (pr 5 h) ∧ gA G 300 0 h = nI (thN pr s r h)
theorem v_all {G : tH} {p : Nat} {pr : mP} (hP : cP G p pr) (ho : okP pr) : V_X5_allHarvests p G = some (some (vI (nI (2 ^ nH pr - 1))), G) := by
  have := ho.2.2.1
  rw [e_X5_allHarvests, hP.2.2.1, nI_shl1 _ (by omega), nI_sub (Nat.one_le_two_pow)]
theorem c_look_53 {G : tH} {p h r : Nat} {pr : mP} {s : mS} (ho : okP pr) (hs : okS pr s) (hh : h < nH pr) (hr : r ≤ 6) : ∀ n i, i + n = nT pr → ∀ G1, cP G1 p pr → cS G1 0 p pr s → tfr zO G G1 → gA G1 300 0 h = nI (sumN (thF pr s r h) i) →
    ∃ G2, V_X3_foresee_53 0 (hI r) p (nI h) (nI i) G1 = V_X3_foresee_16 0 (hI r) p (nI (h + 1)) G2 ∧ tfr zO G G2 ∧ gA G2 300 0 h = nI (thN pr s r h) ∧ (∀ k, k ≠ h → gA G2 300 0 k = gA G1 300 0 k) ∧ gA G2 301 0 = gA G1 301 0 ∧ gI G2 303 0 = gI G1 303 0 := by
  have hT := ho.1
  have hH := ho.2.2.1
  intro n
  induction n with
  | zero =>
    intro i hi G1 hP hS f1 a1
    have : i = nT pr := by omega
    subst this
    refine ⟨G1, ?_, f1, a1, fun _ _ => rfl, rfl, rfl⟩
    rw [e_X3_foresee_53, hP.1, tltM (by omega) (by omega) (by omega), nI_add]
  | succ n ih =>
    intro i hi G1 hP hS f1 a1
    have hit : i < nT pr := by omega
    obtain ⟨k1, k2, k3, k4, k5⟩ := hS.2.1 i hit
    obtain ⟨b1, b2, b3, b4⟩ := hs.1 i hit
    have hm : (if i + 1 = r then min 9999 (s.1 1 i + 1) else s.1 1 i) ≤ 9999 := by split <;> omega
    have hmw : mwN (if i + 1 = r then min 9999 (s.1 1 i + 1) else s.1 1 i) (s.1 2 i) ≤ 9999 := by unfold mwN; omega
    obtain ⟨G2, hG2⟩ : ∃ g, g = sA G1 300 0 (upd (gA G1 300 0) h (nI (sumN (thF pr s r h) (i + 1)))) := ⟨_, rfl⟩
    have f12 : tfr zO G1 G2 := by rw [hG2]; exact tfr.sA (by unfold zO; omega)
    have e96 : V_X3_foresee_96 0 (hI r) p (nI h) (nI i) (nI (if i + 1 = r then min 9999 (s.1 1 i + 1) else s.1 1 i)) G1 = V_X3_foresee_53 0 (hI r) p (nI h) (nI (i + 1)) G2 := by
      rw [e_X3_foresee_96, ttin (by omega) (by omega), nI_clamp (by omega), k2, v_meansWith hm (by omega), tbI_v, v_cropOf hP ho hit hmw hh, tbI_v, ttin (by omega) (by omega), v_titheOf hP ho (crN_le _ _ _ _), tbI_v, ttin (by omega) (by omega), nI_clamp (by omega), a1, nI_add, nI_add, hG2]
      rfl
    obtain ⟨G3, e3, f3, x1, x2, x3, x4⟩ := ih (i + 1) (by omega) G2 (hP.kept f12 fun f o z => by unfold zO at z; omega) (hS.kept f12 fun f _ _ => by unfold zO; omega) (f1.tr f12) (by rw [hG2, gA_eq, upd_eq])
    refine ⟨G3, ?_, f3, x1, fun k hk => ?_, ?_, ?_⟩
    · rw [← e3, ← e96, e_X3_foresee_53, hP.1, tltP (by omega) (by omega) (by omega), teqH (by omega) (by omega)]
      simp (disch := omega) only [ttin, nI_clamp, k1, nI_add, nI_minc]
      by_cases hq : i + 1 = r
      · simp only [if_pos hq]
      · simp only [if_neg hq]
    · rw [x2 k hk, hG2, gA_eq, upd_ne hk]
    · rw [x3, hG2, gA_ne (by omega)]
    · rw [x4, hG2, gI_sA]
theorem c_foresee {G : tH} {p r : Nat} {pr : mP} {s : mS} (hP : cP G p pr) (ho : okP pr) (hS : cS G 0 p pr s) (hs : okS pr s) (hr : r ≤ 6) : ∃ G', V_X3_foresee 0 (hI r) G = some (none, G') ∧ cO G' pr s r ∧ tfr zO G G' := by
  have hH := ho.2.2.1
  have hT := ho.1
  have key : ∀ n i G1, i + n = nH pr → tfr zO G G1 → gI G1 303 0 = nI (2 ^ nH pr - 1) → (∀ h, h < i → gA G1 301 0 h = nI (pr 5 h) ∧ gA G1 300 0 h = nI (thN pr s r h)) → ∃ G', V_X3_foresee_16 0 (hI r) p (nI i) G1 = some (none, G') ∧ cO G' pr s r ∧ tfr zO G G' := by
    intro n
    induction n with
    | zero =>
      intro i G1 hi f1 a1 a2
      have : i = nH pr := by omega
      subst this
      have hP1 := hP.kept f1 fun f o z => by unfold zO at z; omega
      refine ⟨G1, ?_, ⟨a1, a2⟩, f1⟩
      rw [e_X3_foresee_16, hP1.2.2.1, tltM (by omega) (by omega) (by omega)]
    | succ n ih =>
      intro i G1 hi f1 a1 a2
      have hP1 := hP.kept f1 fun f o z => by unfold zO at z; omega
      have hS1 := hS.kept f1 fun f _ _ => by unfold zO; omega
      obtain ⟨G2, hG2⟩ : ∃ g, g = sA (sA G1 301 0 (upd (gA G1 301 0) i (nI (pr 5 i)))) 300 0 (upd (gA G1 300 0) i (nI 0)) := ⟨_, rfl⟩
      have f12 : tfr zO G1 G2 := by rw [hG2]; exact tfrA (tfrA tfr.rf (by unfold zO; omega)) (by unfold zO; omega)
      obtain ⟨G3, e3, f3, x1, x2, x3, x4⟩ := c_look_53 (p := p) (h := i) (r := r) ho hs (by omega) hr (nT pr) 0 (by omega) G2 (hP1.kept f12 fun f o z => by unfold zO at z; omega) (hS1.kept f12 fun f _ _ => by unfold zO; omega) (f1.tr f12) (by rw [hG2, gA_eq, upd_eq]; rfl)
      obtain ⟨G', e4, o4, f4⟩ := ih (i + 1) G3 (by omega) f3 (by rw [x4, hG2, gI_sA, gI_sA, a1]) fun h hh => by
        by_cases hq : h = i
        · subst hq
          rw [x1, x3, hG2, gA_ne (by omega), gA_eq, upd_eq]
          exact ⟨rfl, rfl⟩
        · rw [x2 h hq, x3, hG2, gA_ne (by omega), gA_eq, gA_eq, upd_ne hq, upd_ne hq]
          exact a2 h (by omega)
      refine ⟨G', ?_, o4, f4⟩
      rw [← e4, ← e3, e_X3_foresee_16, hP1.2.2.1, tltP (by omega) (by omega) (by omega)]
      simp (disch := omega) only [ttin, nI_clamp, (hP1.2.2.2.2.2.2.2.2.1 i (by omega)).2, gA_ne]
      rw [hG2]
  rw [e_X3_foresee, hS.1, v_all hP ho, tbI_v]
  exact key (nH pr) 0 (sI G 303 0 (nI (2 ^ nH pr - 1))) (by omega) (tfr.sI (by unfold zO; omega)) gI_eq fun h hh => by omega
theorem set_and : ∀ n, n ≤ 5 → ∀ x, x < 32 → ∀ h, h < 5 → ((x &&& (2 ^ n - 1)) &&& 2 ^ h) = if h < n ∧ bitN x h = 1 then 2 ^ h else 0 := by decide +kernel
theorem v_worthBy {G : tH} {pr : mP} {s : mS} {r x : Nat} (ho : okP pr) (h : cO G pr s r) (hx : x < 32) : V_X3_worthBy (nI x) G = some (some (vI (nI (wtN pr s r x))), G) := by
  have hH := ho.2.2.1
  rw [e_X3_worthBy]
  have key : ∀ n i, i + n = 5 → V_X3_worthBy_7 (nI x) (nI (sumN (wnF pr s r x) i)) (nI (sumN (wdF pr x) i)) (nI i) G = some (some (vI (nI (wtN pr s r x))), G) := by
    intro n
    induction n with
    | zero =>
      intro i hi
      have : i = 5 := by omega
      subst this
      have q1 := sumN_le (f := wnF pr s r x) (M := 539946) 5 fun i _ => wnF_le ho s r x i
      have q2 := sumN_le (f := wdF pr x) (M := 9) 5 fun i _ => wdF_le ho x i
      rw [e_X3_worthBy_7, tltM (by omega) (by omega) (by omega)]
      by_cases h0 : sumN (wdF pr x) 5 = 0
      · rw [tl0M h0]
        unfold wtN
        rw [h0, Nat.div_zero]
      · rw [tl0P (by omega) (by omega), tz0M (by omega) h0, pk_div (by omega) (by omega) (by omega)]
        rfl
    | succ n ih =>
      intro i hi
      have h2 := ih (i + 1) (by omega)
      rw [sumN, sumN] at h2
      rw [e_X3_worthBy_7, tltP (by omega) (by omega) (by omega), h.1, nI_shl1 _ (by omega), nI_and, nI_and, set_and _ hH _ hx _ (by omega)]
      by_cases hc : i < nH pr ∧ bitN x i = 1
      · have hp : 2 ^ i < 2 ^ 31 := Nat.pow_lt_pow_right (by omega) (by omega)
        have hp0 : 0 < 2 ^ i := Nat.two_pow_pos i
        obtain ⟨k1, k2⟩ := h.2 i hc.1
        rw [if_pos hc, tz0M hp (by omega)]
        simp (disch := omega) only [ttin, nI_clamp, k1, k2, pk_mul, nI_add]
        rw [show wnF pr s r x i = pr 5 i * thN pr s r i from if_pos hc, show wdF pr x i = pr 5 i from if_pos hc] at h2
        exact h2
      · rw [if_neg hc, tn0, nI_add]
        rw [show wnF pr s r x i = 0 from if_neg hc, show wdF pr x i = 0 from if_neg hc] at h2
        exact h2
  exact key 5 0 (by omega)
/-! the reference -/
theorem r_tithesBy {G : tH} {pr : mP} {s : mS} {r h : Nat} (hP : rP G pr) (ho : okP pr) (hS : rS (gA G 1124 0) 0 pr s) (hs : okS pr s) (hr : r ≤ 6) (hg : gI G 1127 0 = hI r) (hh : h < nH pr) : V_X11_tithesBy (nI h) G = some (some (vI (nI (thN pr s r h))), G) := by
  have hT := ho.1
  rw [e_X11_tithesBy]
  have key : ∀ n i, i + n = nT pr → V_X11_tithesBy_4 (nI h) (nI (sumN (thF pr s r h) i)) (nI i) G = some (some (vI (nI (thN pr s r h))), G) := by
    intro n
    induction n with
    | zero =>
      intro i hi
      have : i = nT pr := by omega
      subst this
      rw [e_X11_tithesBy_4, r_towns hP, tbI_v, tltM (by omega) (by omega) (by omega)]
      rfl
    | succ n ih =>
      intro i hi
      have hit : i < nT pr := by omega
      have h2 := ih (i + 1) (by omega)
      obtain ⟨k1, k2, k3, k4, k5, k6⟩ := hS.2.2.2.2.2.1 i hit
      simp only [Nat.zero_add] at k1 k2
      obtain ⟨b1, b2, b3, b4⟩ := hs.1 i hit
      have e33 : ∀ v, v ≤ 1 → v = (if i + 1 = r then 1 else 0) → V_X11_tithesBy_33 (nI h) (nI (sumN (thF pr s r h) i)) (nI i) (nI v) (nI (s.1 1 i)) G = some (some (vI (nI (thN pr s r h))), G) := by
        intro v hv hv2
        have hm : min 9999 (s.1 1 i + v) = (if i + 1 = r then min 9999 (s.1 1 i + 1) else s.1 1 i) := by
          rw [hv2]
          by_cases hq : i + 1 = r
          · rw [if_pos hq, if_pos hq]
          · rw [if_neg hq, if_neg hq]; omega
        have hmw : mwN (min 9999 (s.1 1 i + v)) (s.1 2 i) ≤ 9999 := by unfold mwN; omega
        rw [e_X11_tithesBy_33, nI_add, r_atMost, cl_nI (by omega), tbI_v]
        simp (disch := omega) only [nI_add, ttin, nI_clamp, k2, tn2, pk_div, r_atMost, cl_nI, tbI_v]
        rw [show min 9999 (min 9999 (s.1 1 i + v) + s.1 2 i / 2) = mwN (min 9999 (s.1 1 i + v)) (s.1 2 i) from rfl, r_cropOf hP ho hit hmw hh, tbI_v, r_titheOf hP ho (crN_le _ _ _ _), tbI_v, nI_add, hm]
        exact h2
      rw [e_X11_tithesBy_4, r_towns hP, tbI_v, tltP (by omega) (by omega) (by omega)]
      simp (disch := omega) only [nI_add, ttin, nI_clamp, k1, hg, teqH]
      by_cases hq : i + 1 = r
      · rw [if_pos hq]; exact e33 1 (by omega) (by rw [if_pos hq])
      · rw [if_neg hq]; exact e33 0 (by omega) (by rw [if_neg hq])
  exact key (nT pr) 0 (by omega)
theorem r_worthBy {G : tH} {pr : mP} {s : mS} {r x : Nat} (hP : rP G pr) (ho : okP pr) (hS : rS (gA G 1124 0) 0 pr s) (hs : okS pr s) (hr : r ≤ 6) (hg : gI G 1127 0 = hI r) (hx : x < 32) (hne : sumN (wdF pr x) 5 ≠ 0) : V_X11_worthBy (nI x) G = some (some (vI (nI (wtN pr s r x))), G) := by
  have hH := ho.2.2.1
  rw [e_X11_worthBy]
  have en : sumN (wnF pr s r x) (nH pr + (5 - nH pr)) = sumN (wnF pr s r x) (nH pr) := sumN_end (fun i hi => if_neg (by omega)) _
  have ed : sumN (wdF pr x) (nH pr + (5 - nH pr)) = sumN (wdF pr x) (nH pr) := sumN_end (fun i hi => if_neg (by omega)) _
  rw [show nH pr + (5 - nH pr) = 5 by omega] at en ed
  have key : ∀ n i, i + n = nH pr → V_X11_worthBy_7 (nI x) (nI (sumN (wnF pr s r x) i)) (nI (sumN (wdF pr x) i)) (nI i) G = some (some (vI (nI (wtN pr s r x))), G) := by
    intro n
    induction n with
    | zero =>
      intro i hi
      have : i = nH pr := by omega
      subst this
      have q1 := sumN_le (f := wnF pr s r x) (M := 539946) 5 fun i _ => wnF_le ho s r x i
      have q2 := sumN_le (f := wdF pr x) (M := 9) 5 fun i _ => wdF_le ho x i
      rw [e_X11_worthBy_7, r_harvests hP, tbI_v, tltM (by omega) (by omega) (by omega), ← en, ← ed, tz0M (by omega) hne, pk_div (by omega) (by omega) (by omega)]
      rfl
    | succ n ih =>
      intro i hi
      have h2 := ih (i + 1) (by omega)
      rw [sumN, sumN] at h2
      have hb := bit5 x hx i (by omega)
      rw [e_X11_worthBy_7, r_harvests hP, tbI_v, tltP (by omega) (by omega) (by omega), hb]
      by_cases hc : bitN x i = 1
      · rw [show x / 2 ^ i % 2 = 1 from hc, teqP rfl, r_harvestOf1 hP ho (by omega), tbI_v, r_tithesBy hP ho hS hs hr hg (by omega), tbI_v, r_harvestOf1 hP ho (by omega), tbI_v, pk_mul, nI_add, nI_add, nI_add]
        rw [show wnF pr s r x i = pr 5 i * thN pr s r i from if_pos ⟨by omega, hc⟩, show wdF pr x i = pr 5 i from if_pos ⟨by omega, hc⟩] at h2
        exact h2
      · rw [show x / 2 ^ i % 2 = 0 by unfold bitN at hc; omega, teqM (by omega) (by omega) (by omega), nI_add]
        rw [show wnF pr s r x i = 0 from if_neg fun q => hc q.2, show wdF pr x i = 0 from if_neg fun q => hc q.2] at h2
        exact h2
  exact key (nH pr) 0 (by omega)
theorem set_bit : ∀ n, n ≤ 5 → ∀ x, x < 2 ^ n → x ≠ 0 → ∃ h, h < n ∧ bitN x h = 1 := by decide +kernel
theorem wd_pos {pr : mP} (ho : okP pr) {x : Nat} (hx : x < 2 ^ nH pr) (h0 : x ≠ 0) : sumN (wdF pr x) 5 ≠ 0 := by
  have hH := ho.2.2.1
  obtain ⟨h, h1, h2⟩ := set_bit (nH pr) hH x hx h0
  have q := sumN_mono (wdF pr x) (h + 1) (5 - (h + 1))
  rw [show h + 1 + (5 - (h + 1)) = 5 by omega] at q
  have q2 : sumN (wdF pr x) (h + 1) = sumN (wdF pr x) h + wdF pr x h := rfl
  have q3 : wdF pr x h = pr 5 h := if_pos ⟨h1, h2⟩
  have q4 := (ho.2.2.2.2.2.2.2.2.1 h h1).2.1
  omega
theorem p2_32 {pr : mP} (ho : okP pr) : 2 ^ nH pr ≤ 32 := by
  have := Nat.pow_le_pow_right (show 0 < 2 by omega) ho.2.2.1
  omega
