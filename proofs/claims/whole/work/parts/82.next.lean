/-! PURE: next -/
/-- how many of the sets below n are worth v -/
noncomputable def alN (P : Nat → Prop) (W : Nat → Nat) (v n : Nat) : Nat := kC (fun k => P k ∧ W k = v) n
noncomputable def maN (P : Nat → Prop) (W : Nat → Nat) : Nat → Nat
  | 0 => 0
  | n + 1 => @ite Nat (P n) (Classical.propDecidable _) (max (maN P W n) (alN P W (W n) (n + 1))) (maN P W n)
noncomputable def mbN (P : Nat → Prop) (W : Nat → Nat) (N : Nat) : Nat → Nat
  | 0 => 0
  | n + 1 => @ite Nat (P n) (Classical.propDecidable _) (max (mbN P W N n) (alN P W (W n) N)) (mbN P W N n)
theorem maN_1 {P : Nat → Prop} {W : Nat → Nat} {n : Nat} (h : P n) : maN P W (n + 1) = max (maN P W n) (alN P W (W n) (n + 1)) := if_pos h
theorem maN_0 {P : Nat → Prop} {W : Nat → Nat} {n : Nat} (h : ¬ P n) : maN P W (n + 1) = maN P W n := if_neg h
theorem mbN_1 {P : Nat → Prop} {W : Nat → Nat} {N n : Nat} (h : P n) : mbN P W N (n + 1) = max (mbN P W N n) (alN P W (W n) N) := if_pos h
theorem mbN_0 {P : Nat → Prop} {W : Nat → Nat} {N n : Nat} (h : ¬ P n) : mbN P W N (n + 1) = mbN P W N n := if_neg h
theorem alN_mono (P : Nat → Prop) (W : Nat → Nat) (v m k : Nat) : alN P W v m ≤ alN P W v (m + k) := sumN_mono _ m k
theorem ma_le (P : Nat → Prop) (W : Nat → Nat) (N : Nat) : ∀ n, n ≤ N → maN P W n ≤ mbN P W N n
  | 0, _ => Nat.le_refl _
  | n + 1, h => by
    have h1 := ma_le P W N n (by omega)
    have h2 := alN_mono P W (W n) (n + 1) (N - (n + 1))
    rw [show n + 1 + (N - (n + 1)) = N by omega] at h2
    by_cases hp : P n
    · rw [maN_1 hp, mbN_1 hp]; omega
    · rw [maN_0 hp, mbN_0 hp]; exact h1
theorem last_alike (P : Nat → Prop) (W : Nat → Nat) : ∀ N s, P s → s < N → ∃ t, t < N ∧ P t ∧ W t = W s ∧ alN P W (W t) (t + 1) = alN P W (W s) N
  | 0, s, _, h => by omega
  | N + 1, s, hp, h => by
    by_cases hq : P N ∧ W N = W s
    · exact ⟨N, by omega, hq.1, hq.2, by rw [hq.2]⟩
    · have hne : s ≠ N := fun e => hq ⟨e ▸ hp, by rw [e]⟩
      obtain ⟨t, t1, t2, t3, t4⟩ := last_alike P W N s hp (by omega)
      refine ⟨t, by omega, t2, t3, ?_⟩
      rw [t4]
      unfold alN
      exact (kC_0 (P := fun k => P k ∧ W k = W s) hq).symm
theorem ma_ge (P : Nat → Prop) (W : Nat → Nat) : ∀ n t, t < n → P t → alN P W (W t) (t + 1) ≤ maN P W n
  | 0, t, h, _ => by omega
  | n + 1, t, h, hp => by
    by_cases hq : P n
    · rw [maN_1 hq]
      by_cases he : t = n
      · subst he; omega
      · have := ma_ge P W n t (by omega) hp; omega
    · rw [maN_0 hq]
      exact ma_ge P W n t (by have : t ≠ n := fun e => hq (e ▸ hp); omega) hp
theorem mb_le (P : Nat → Prop) (W : Nat → Nat) (N : Nat) : ∀ n, n ≤ N → mbN P W N n ≤ maN P W N
  | 0, _ => Nat.zero_le _
  | n + 1, h => by
    have h1 := mb_le P W N n (by omega)
    by_cases hp : P n
    · obtain ⟨t, t1, t2, t3, t4⟩ := last_alike P W N n hp (by omega)
      have := ma_ge P W N t t1 t2
      rw [mbN_1 hp]
      omega
    · rw [mbN_0 hp]; exact h1
theorem ma_mb (P : Nat → Prop) (W : Nat → Nat) (N : Nat) : maN P W N = mbN P W N N := Nat.le_antisymm (ma_le P W N N (Nat.le_refl _)) (mb_le P W N N (Nat.le_refl _))
theorem maN_end {P : Nat → Prop} {W : Nat → Nat} {n : Nat} (h : ∀ i, n ≤ i → ¬ P i) : ∀ k, maN P W (n + k) = maN P W n
  | 0 => rfl
  | k + 1 => (maN_0 (show ¬ P (n + k) from h _ (by omega))).trans (maN_end h k)
theorem alN_le (P : Nat → Prop) (W : Nat → Nat) (v n : Nat) : alN P W v n ≤ n := kC_le _ n
theorem maN_le (P : Nat → Prop) (W : Nat → Nat) : ∀ n, maN P W n ≤ n
  | 0 => Nat.le_refl _
  | n + 1 => by
    have h1 := maN_le P W n
    have h2 := alN_le P W (W n) (n + 1)
    by_cases hp : P n
    · rw [maN_1 hp]; omega
    · rw [maN_0 hp]; omega
/-! the class -/
theorem max_I {a b : Nat} (ha : a < 2 ^ 31) (hb : b < 2 ^ 31) : (if nI a < nI b then nI b else nI a) = nI (max a b) := by
  rw [iltN ha hb]
  split
  · rw [show max a b = b by omega]
  · rw [show max a b = a by omega]
theorem v_mostAlike {G : tH} {pr : mP} {s : mS} {P : Nat → Prop} {r : Nat} (ho : okP pr) (h : cO G pr s r) (h0 : ¬ P 0) (he : ∀ i, 2 ^ nH pr ≤ i → ¬ P i) : ∃ G', V_X3_mostAlike (nI (kB P (2 ^ nH pr))) G = some (some (vI (nI (maN P (wtN pr s r) (2 ^ nH pr)))), G') ∧ tfr (fun f _ => f = 302) G G' := by
  have h32 := p2_32 ho
  have inner : ∀ n j i g c G1, j + n = i + 1 → 1 ≤ j → i < 32 → (∀ k, 1 ≤ k → k ≤ i → gA G1 302 0 k = @ite _ (P k) (Classical.propDecidable _) (nI (wtN pr s r k)) (-1)) → c = (@ite Nat (P i) (Classical.propDecidable _) (alN P (wtN pr s r) (wtN pr s r i) j) 0) →
      V_X3_mostAlike_39 (nI (kB P (2 ^ nH pr))) (nI g) (nI i) (nI c) (nI j) G1 = V_X3_mostAlike_4 (nI (kB P (2 ^ nH pr))) (if nI g < nI (@ite Nat (P i) (Classical.propDecidable _) (alN P (wtN pr s r) (wtN pr s r i) (i + 1)) 0) then nI (@ite Nat (P i) (Classical.propDecidable _) (alN P (wtN pr s r) (wtN pr s r i) (i + 1)) 0) else nI g) (nI (i + 1)) G1 := by
    intro n
    induction n with
    | zero =>
      intro j i g c G1 hj j1 hi ha hc
      have : j = i + 1 := by omega
      subst this
      rw [e_X3_mostAlike_39, tltP (by omega) (by omega) (by omega), nI_add, hc]
    | succ n ih =>
      intro j i g c G1 hj j1 hi ha hc
      rw [e_X3_mostAlike_39, tltM (by omega) (by omega) (by omega)]
      simp (disch := omega) only [ttin, nI_clamp, ha, nI_add]
      have hwi := wtN_le ho s r i
      have hwj := wtN_le ho s r j
      by_cases hp : P i
      · rw [if_pos hp] at hc
        rw [if_pos hp, teqm1 (by omega)]
        by_cases hpj : P j
        · rw [if_pos hpj]
          by_cases hq : wtN pr s r j = wtN pr s r i
          · rw [teqP hq]
            refine ih (j + 1) i g (c + 1) G1 (by omega) (by omega) hi ha ?_
            rw [if_pos hp, hc]
            exact (kC_1 (P := fun k => P k ∧ wtN pr s r k = wtN pr s r i) ⟨hpj, hq⟩).symm
          · rw [teqM (by omega) (by omega) hq]
            refine ih (j + 1) i g c G1 (by omega) (by omega) hi ha ?_
            rw [if_pos hp, hc]
            exact (kC_0 (P := fun k => P k ∧ wtN pr s r k = wtN pr s r i) fun z => hq z.2).symm
        · rw [if_neg hpj, tif_neg fun z => m1_ne (by omega) z.symm]
          refine ih (j + 1) i g c G1 (by omega) (by omega) hi ha ?_
          rw [if_pos hp, hc]
          exact (kC_0 (P := fun k => P k ∧ wtN pr s r k = wtN pr s r i) fun z => hpj z.1).symm
      · rw [if_neg hp] at hc
        rw [if_neg hp, tif_pos rfl]
        refine ih (j + 1) i g c G1 (by omega) (by omega) hi ha ?_
        rw [if_neg hp, hc]
  have outer : ∀ n i G1, i + n = 32 → 1 ≤ i → tfr (fun f _ => f = 302) G G1 → (∀ k, 1 ≤ k → k < i → gA G1 302 0 k = @ite _ (P k) (Classical.propDecidable _) (nI (wtN pr s r k)) (-1)) → ∃ G', V_X3_mostAlike_4 (nI (kB P (2 ^ nH pr))) (nI (maN P (wtN pr s r) i)) (nI i) G1 = some (some (vI (nI (maN P (wtN pr s r) (2 ^ nH pr)))), G') ∧ tfr (fun f _ => f = 302) G G' := by
    intro n
    induction n with
    | zero =>
      intro i G1 hi i1 f1 ha
      have : i = 32 := by omega
      subst this
      have e := maN_end (W := wtN pr s r) he (32 - 2 ^ nH pr)
      rw [show 2 ^ nH pr + (32 - 2 ^ nH pr) = 32 by omega] at e
      refine ⟨G1, ?_, f1⟩
      rw [e_X3_mostAlike_4, tltM (by omega) (by omega) (by omega), e]
    | succ n ih =>
      intro i G1 hi i1 f1 ha
      have ho1 : cO G1 pr s r := by
        obtain ⟨w1, w2⟩ := h
        refine ⟨by rw [(f1 303 0 (by omega)).1]; exact w1, fun k hk => ?_⟩
        rw [(f1 301 0 (by omega)).2.2.2.1, (f1 300 0 (by omega)).2.2.2.1]
        exact w2 k hk
      have hml := maN_le P (wtN pr s r) i
      have hal := alN_le P (wtN pr s r) (wtN pr s r i) (i + 1)
      obtain ⟨G2, hG2⟩ : ∃ g, g = sA G1 302 0 (upd (gA G1 302 0) i (@ite _ (P i) (Classical.propDecidable _) (nI (wtN pr s r i)) (-1))) := ⟨_, rfl⟩
      have f2 : tfr (fun f _ => f = 302) G G2 := by rw [hG2]; exact tfrA f1 rfl
      have ha2 : ∀ k, 1 ≤ k → k ≤ i → gA G2 302 0 k = @ite _ (P k) (Classical.propDecidable _) (nI (wtN pr s r k)) (-1) := by
        intro k k1 k2
        rw [hG2, gA_eq]
        by_cases hk : k = i
        · subst hk; rw [upd_eq]
        · rw [upd_ne hk]; exact ha k k1 (by omega)
      have e39 := inner i 1 i (maN P (wtN pr s r) i) 0 G2 (by omega) (by omega) (by omega) ha2 (by
        by_cases hp : P i
        · rw [if_pos hp]
          exact (kC_0 (P := fun k => P k ∧ wtN pr s r k = wtN pr s r i) (n := 0) fun z => h0 z.1).symm
        · rw [if_neg hp])
      obtain ⟨G3, e3, f3⟩ := ih (i + 1) G2 (by omega) (by omega) f2 fun k k1 k2 => ha2 k k1 (by omega)
      refine ⟨G3, ?_, f3⟩
      rw [← e3]
      have e4 : V_X3_mostAlike_4 (nI (kB P (2 ^ nH pr))) (nI (maN P (wtN pr s r) i)) (nI i) G1 = V_X3_mostAlike_39 (nI (kB P (2 ^ nH pr))) (nI (maN P (wtN pr s r) i)) (nI i) (nI 0) (nI 1) G2 := by
        rw [e_X3_mostAlike_4, tltP (by omega) (by omega) (by omega), kB_tst (G := G) h32 (by omega) he]
        by_cases hp : P i
        · rw [if_pos hp, v_worthBy ho ho1 (by omega), tbI_v, ttin (by omega) (by omega), nI_clamp (by omega), hG2, if_pos hp]
        · rw [if_neg hp, ttin (by omega) (by omega), nI_clamp (by omega), hG2, if_neg hp]
      rw [e4, e39]
      by_cases hp : P i
      · rw [if_pos hp, max_I (by omega) (by omega), maN_1 hp]
      · rw [if_neg hp, max_I (by omega) (by omega), maN_0 hp, show max (maN P (wtN pr s r) i) 0 = maN P (wtN pr s r) i by omega]
  have h1 := outer 31 1 G (by omega) (by omega) tfr.rf fun k k1 k2 => by omega
  rw [maN_0 h0] at h1
  rw [e_X3_mostAlike]
  exact h1
/-- the town that parts most: its number and one, how many are alike then -/
noncomputable def bpS (m : Nat → Nat) (c : Nat) : Nat → Nat × Nat
  | 0 => (0, c)
  | n + 1 => if m n < (bpS m c n).2 then (n + 1, m n) else bpS m c n
theorem bpS_le (m : Nat → Nat) (c : Nat) : ∀ n, (bpS m c n).2 ≤ c ∧ (bpS m c n).1 ≤ n
  | 0 => ⟨Nat.le_refl _, Nat.le_refl _⟩
  | n + 1 => by
    have h := bpS_le m c n
    unfold bpS
    split
    · exact ⟨by show m n ≤ c; omega, Nat.le_refl _⟩
    · exact ⟨h.1, by omega⟩
noncomputable def parN (pr : mP) (s : mS) (w : Nat) : Nat → Nat × Nat := bpS (fun t => maN (kP pr s w) (wtN pr s (t + 1)) (2 ^ nH pr)) (kC (kP pr s w) (2 ^ nH pr))
theorem v_bestParting {G : tH} {p w : Nat} {pr : mP} {s : mS} (hP : cP G p pr) (ho : okP pr) (hS : cS G 0 p pr s) (hs : okS pr s) (hw : w ≤ 99999) : ∃ G', V_X3_bestParting 0 (nI w) G = some (some (vI (hI (parN pr s w (nT pr)).1)), G') ∧ tfr zO G G' := by
  have h32 := p2_32 ho
  have hT := ho.1
  have hkb := kB_lt (kP pr s w) (2 ^ nH pr)
  have hkb2 : 2 ^ 2 ^ nH pr ≤ 2 ^ 32 := Nat.pow_le_pow_right (by omega) h32
  have hkc := kC_le (kP pr s w) (2 ^ nH pr)
  obtain ⟨Ga, e1, o1, f1⟩ := c_foresee (r := 0) hP ho hS hs (by omega)
  have key : ∀ n i G1, i + n = nT pr → tfr zO G G1 → ∃ G', V_X3_bestParting_24 0 (nI (kB (kP pr s w) (2 ^ nH pr))) (nI (parN pr s w i).2) (hI (parN pr s w i).1) (nI i) G1 = some (some (vI (hI (parN pr s w (nT pr)).1)), G') ∧ tfr zO G G' := by
    intro n
    induction n with
    | zero =>
      intro i G1 hi g1
      have hP1 := hP.kept g1 fun f o z => by unfold zO at z; omega
      have hS1 := hS.kept g1 fun f _ _ => by unfold zO; omega
      refine ⟨G1, ?_, g1⟩
      rw [e_X3_bestParting_24, hS1.1, hP1.1, tltM (by omega) (by omega) (by omega), show i = nT pr by omega]
    | succ n ih =>
      intro i G1 hi g1
      have hP1 := hP.kept g1 fun f o z => by unfold zO at z; omega
      have hS1 := hS.kept g1 fun f _ _ => by unfold zO; omega
      obtain ⟨Gb, e2, o2, f2⟩ := c_foresee (r := i + 1) hP1 ho hS1 hs (by omega)
      obtain ⟨Gc, e3, f3⟩ := v_mostAlike (P := kP pr s w) ho o2 kP_0 kP_end
      have hm := maN_le (kP pr s w) (wtN pr s (i + 1)) (2 ^ nH pr)
      have hb := (bpS_le (fun t => maN (kP pr s w) (wtN pr s (t + 1)) (2 ^ nH pr)) (kC (kP pr s w) (2 ^ nH pr)) i).1
      have hb' : (parN pr s w i).2 ≤ 32 := by unfold parN; omega
      obtain ⟨G4, e4, f4⟩ := ih (i + 1) Gc (by omega) ((g1.tr f2).tr (f3.mono fun f o z => by unfold zO; omega))
      refine ⟨G4, ?_, f4⟩
      rw [e_X3_bestParting_24, hS1.1, hP1.1, tltP (by omega) (by omega) (by omega), show nI i = hI (i + 1) by rw [hI_pos (by omega)]; rfl, e2, tbV_v, e3, tbI_v, show hI (i + 1) = nI i by rw [hI_pos (by omega)]; rfl, nI_add, tltN (by omega) (by omega), ← e4]
      have est : parN pr s w (i + 1) = if maN (kP pr s w) (wtN pr s (i + 1)) (2 ^ nH pr) < (parN pr s w i).2 then (i + 1, maN (kP pr s w) (wtN pr s (i + 1)) (2 ^ nH pr)) else parN pr s w i := rfl
      rw [est]
      by_cases hq : maN (kP pr s w) (wtN pr s (i + 1)) (2 ^ nH pr) < (parN pr s w i).2
      · rw [if_pos hq, if_pos hq, show hI (i + 1) = nI i by rw [hI_pos (by omega)]; rfl]
      · rw [if_neg hq, if_neg hq]
  obtain ⟨G', e5, f5⟩ := key (nT pr) 0 Ga (by omega) f1
  refine ⟨G', ?_, f5⟩
  rw [e_X3_bestParting, show (-1 : Int32) = hI 0 from rfl, e1, tbV_v, v_setsWorth ho o1 hw, tbI_v, v_bits (by omega), kB_pop _ h32, tbI_v]
  exact e5
/-! the reference -/
theorem r_greatestAlike {G : tH} {pr : mP} {s : mS} {P : Nat → Prop} {t : Nat} (hP : rP G pr) (ho : okP pr) (hS : rS (gA G 1124 0) 0 pr s) (hs : okS pr s) (ht : t < nT pr) (h0 : ¬ P 0) (hset : ∀ k, 1 ≤ k → k < 2 ^ nH pr → gA G 1136 0 k = nI (kF P k)) : ∃ G', V_X11_greatestAlike (nI t) G = some (some (vI (nI (maN P (wtN pr s (t + 1)) (2 ^ nH pr)))), G') ∧ tfr (fun f _ => f = 1127 ∨ f = 1135) G G' ∧ gI G' 1127 0 = hI 0 := by
  have h32 := p2_32 ho
  have hT := ho.1
  have hH := ho.2.2.1
  have hp1 : 1 ≤ 2 ^ nH pr := Nat.one_le_two_pow
  obtain ⟨Z, hZ⟩ : ∃ z : Nat → Nat → Prop, z = fun f _ => f = 1127 ∨ f = 1135 := ⟨_, rfl⟩
  have zI : ∀ f o, f = 1127 ∨ f = 1135 → Z f o := fun f o q => by rw [hZ]; exact q
  have zN' : ∀ f o, ¬ (f = 1127 ∨ f = 1135) → ¬ Z f o := fun f o q z => by rw [hZ] at z; exact q z
  have first : ∀ n i G1, i + n = 2 ^ nH pr → 1 ≤ i → tfr Z G G1 → gI G1 1127 0 = hI (t + 1) → (∀ k, 1 ≤ k → k < i → P k → gA G1 1135 0 k = nI (wtN pr s (t + 1) k)) → ∃ G', V_X11_greatestAlike_9 (nI 0) (nI i) G1 = V_X11_greatestAlike_51 (nI 0) (nI 1) G' ∧ tfr Z G G' ∧ ∀ k, 1 ≤ k → k < 2 ^ nH pr → P k → gA G' 1135 0 k = nI (wtN pr s (t + 1) k) := by
    intro n
    induction n with
    | zero =>
      intro i G1 hi i1 f1 g1 ha
      have : i = 2 ^ nH pr := by omega
      subst this
      have hP1 := hP.kept f1 (zN' _ _ (by omega))
      refine ⟨G1, ?_, f1, ha⟩
      rw [e_X11_greatestAlike_9, r_harvests hP1, tbI_v, nI_shl1 _ (by omega), tltM (by omega) (by omega) (by omega)]
    | succ n ih =>
      intro i G1 hi i1 f1 g1 ha
      have hP1 := hP.kept f1 (zN' _ _ (by omega))
      have hst : gA G1 1136 0 i = nI (kF P i) := by rw [(f1 1136 0 (zN' _ _ (by omega))).2.2.2.1]; exact hset i i1 (by omega)
      have hS1 : rS (gA G1 1124 0) 0 pr s := by rw [(f1 1124 0 (zN' _ _ (by omega))).2.2.2.1]; exact hS
      rw [e_X11_greatestAlike_9, r_harvests hP1, tbI_v, nI_shl1 _ (by omega), tltP (by omega) (by omega) (by omega)]
      simp (disch := omega) only [ttin, nI_clamp, hst, nI_add]
      by_cases hp : P i
      · rw [kF_1 hp, tn1, r_worthBy (r := t + 1) hP1 ho hS1 hs (by omega) g1 (by omega) (wd_pos ho (by omega) (by omega)), tbI_v]
        refine ih (i + 1) _ (by omega) (by omega) (tfrA f1 (zI _ _ (by omega))) g1 fun k k1 k2 hk => ?_
        rw [gA_eq]
        by_cases hki : k = i
        · subst hki; rw [upd_eq]
        · rw [upd_ne hki]; exact ha k k1 (by omega) hk
      · rw [kF_0 hp, tn0]
        refine ih (i + 1) _ (by omega) (by omega) (tfrA f1 (zI _ _ (by omega))) g1 fun k k1 k2 hk => ?_
        have hne : k ≠ i := fun e => hp (by rw [← e]; exact hk)
        rw [gA_eq, upd_ne hne]
        exact ha k k1 (by omega) hk
  obtain ⟨G1, e1, f1, a1⟩ := first (2 ^ nH pr - 1) 1 (sI G 1127 0 (nI t)) (by omega) (by omega) (tfr.sI (zI _ _ (by omega))) (by rw [gI_eq, hI_pos (by omega)]; rfl) fun k k1 k2 => by omega
  have hP1 := hP.kept f1 (zN' _ _ (by omega))
  have hst : ∀ k, 1 ≤ k → k < 2 ^ nH pr → gA G1 1136 0 k = nI (kF P k) := fun k k1 k2 => by rw [(f1 1136 0 (zN' _ _ (by omega))).2.2.2.1]; exact hset k k1 k2
  have inner : ∀ n j i g, j + n = 2 ^ nH pr → 1 ≤ j → 1 ≤ i → i < 2 ^ nH pr → P i → V_X11_greatestAlike_67 (nI g) (nI i) (nI (alN P (wtN pr s (t + 1)) (wtN pr s (t + 1) i) j)) (nI j) G1 = V_X11_greatestAlike_129 (nI g) (nI i) (nI (alN P (wtN pr s (t + 1)) (wtN pr s (t + 1) i) (2 ^ nH pr))) G1 := by
    intro n
    induction n with
    | zero =>
      intro j i g hj j1 i1 i2 hp
      rw [e_X11_greatestAlike_67, r_harvests hP1, tbI_v, nI_shl1 _ (by omega), tltM (by omega) (by omega) (by omega), show j = 2 ^ nH pr by omega]
    | succ n ih =>
      intro j i g hj j1 i1 i2 hp
      have hwi := wtN_le ho s (t + 1) i
      have hwj := wtN_le ho s (t + 1) j
      rw [e_X11_greatestAlike_67, r_harvests hP1, tbI_v, nI_shl1 _ (by omega), tltP (by omega) (by omega) (by omega)]
      simp (disch := omega) only [ttin, nI_clamp, hst, nI_add, Nat.add_zero]
      rw [kF_1 hp, tn1]
      have h2 := ih (j + 1) i g (by omega) (by omega) i1 i2 hp
      by_cases hpj : P j
      · rw [kF_1 hpj, tn1, a1 j j1 (by omega) hpj, a1 i i1 i2 hp]
        by_cases hq : wtN pr s (t + 1) j = wtN pr s (t + 1) i
        · rw [teqP hq]
          rw [show alN P (wtN pr s (t + 1)) (wtN pr s (t + 1) i) (j + 1) = alN P (wtN pr s (t + 1)) (wtN pr s (t + 1) i) j + 1 from kC_1 (P := fun k => P k ∧ wtN pr s (t + 1) k = wtN pr s (t + 1) i) ⟨hpj, hq⟩] at h2
          exact h2
        · rw [teqM (by omega) (by omega) hq]
          rw [show alN P (wtN pr s (t + 1)) (wtN pr s (t + 1) i) (j + 1) = alN P (wtN pr s (t + 1)) (wtN pr s (t + 1) i) j from kC_0 (P := fun k => P k ∧ wtN pr s (t + 1) k = wtN pr s (t + 1) i) fun z => hq z.2] at h2
          exact h2
      · rw [kF_0 hpj, tn0]
        rw [show alN P (wtN pr s (t + 1)) (wtN pr s (t + 1) i) (j + 1) = alN P (wtN pr s (t + 1)) (wtN pr s (t + 1) i) j from kC_0 (P := fun k => P k ∧ wtN pr s (t + 1) k = wtN pr s (t + 1) i) fun z => hpj z.1] at h2
        exact h2
  have mbl : ∀ n, n ≤ 2 ^ nH pr → mbN P (wtN pr s (t + 1)) (2 ^ nH pr) n ≤ 32 := fun n hn => by
    induction n with
    | zero => exact Nat.zero_le _
    | succ n ih =>
      have := ih (by omega)
      have h3 := alN_le P (wtN pr s (t + 1)) (wtN pr s (t + 1) n) (2 ^ nH pr)
      by_cases hp : P n
      · rw [mbN_1 hp]; omega
      · rw [mbN_0 hp]; exact this
  have outer : ∀ n i, i + n = 2 ^ nH pr → 1 ≤ i → V_X11_greatestAlike_51 (nI (mbN P (wtN pr s (t + 1)) (2 ^ nH pr) i)) (nI i) G1 = some (some (vI (nI (mbN P (wtN pr s (t + 1)) (2 ^ nH pr) (2 ^ nH pr)))), sI G1 1127 0 (-1)) := by
    intro n
    induction n with
    | zero =>
      intro i hi i1
      rw [e_X11_greatestAlike_51, r_harvests hP1, tbI_v, nI_shl1 _ (by omega), tltM (by omega) (by omega) (by omega), show i = 2 ^ nH pr by omega]
    | succ n ih =>
      intro i hi i1
      have h2 := ih (i + 1) (by omega) (by omega)
      have hb := mbl i (by omega)
      have hal := alN_le P (wtN pr s (t + 1)) (wtN pr s (t + 1) i) (2 ^ nH pr)
      rw [e_X11_greatestAlike_51, r_harvests hP1, tbI_v, nI_shl1 _ (by omega), tltP (by omega) (by omega) (by omega)]
      by_cases hp : P i
      · have e67 := inner (2 ^ nH pr - 1) 1 i (mbN P (wtN pr s (t + 1)) (2 ^ nH pr) i) (by omega) (by omega) i1 (by omega) hp
        rw [show alN P (wtN pr s (t + 1)) (wtN pr s (t + 1) i) 1 = 0 from kC_0 (P := fun k => P k ∧ wtN pr s (t + 1) k = wtN pr s (t + 1) i) (n := 0) fun z => h0 z.1] at e67
        rw [e67, e_X11_greatestAlike_129, tltN (by omega) (by omega), nI_add]
        rw [mbN_1 hp] at h2
        by_cases hq : mbN P (wtN pr s (t + 1)) (2 ^ nH pr) i < alN P (wtN pr s (t + 1)) (wtN pr s (t + 1) i) (2 ^ nH pr)
        · rw [if_pos hq]
          rw [show max (mbN P (wtN pr s (t + 1)) (2 ^ nH pr) i) (alN P (wtN pr s (t + 1)) (wtN pr s (t + 1) i) (2 ^ nH pr)) = alN P (wtN pr s (t + 1)) (wtN pr s (t + 1) i) (2 ^ nH pr) by omega] at h2
          exact h2
        · rw [if_neg hq]
          rw [show max (mbN P (wtN pr s (t + 1)) (2 ^ nH pr) i) (alN P (wtN pr s (t + 1)) (wtN pr s (t + 1) i) (2 ^ nH pr)) = mbN P (wtN pr s (t + 1)) (2 ^ nH pr) i by omega] at h2
          exact h2
      · rw [mbN_0 hp] at h2
        have e67 : V_X11_greatestAlike_67 (nI (mbN P (wtN pr s (t + 1)) (2 ^ nH pr) i)) (nI i) (nI 0) (nI 1) G1 = V_X11_greatestAlike_129 (nI (mbN P (wtN pr s (t + 1)) (2 ^ nH pr) i)) (nI i) (nI 0) G1 := by
          rw [e_X11_greatestAlike_67, r_harvests hP1, tbI_v, nI_shl1 _ (by omega), tltN (by omega) (by omega), ttin (by omega) (by omega), nI_clamp (by omega), hst i i1 (by omega), kF_0 hp, tn0]
          split <;> rfl
        rw [e67, e_X11_greatestAlike_129, tltM (by omega) (by omega) (by omega), nI_add]
        exact h2
  have h1 := outer (2 ^ nH pr - 1) 1 (by omega) (by omega)
  rw [mbN_0 h0] at h1
  refine ⟨sI G1 1127 0 (-1), ?_, ?_, gI_eq⟩
  · rw [e_X11_greatestAlike]
    dsimp only
    rw [e1, ma_mb]
    exact h1
  · rw [← hZ]; exact tfrI f1 (zI _ _ (by omega))
/-- who told first -/
noncomputable def ftN (t : Nat → Int32) (m : Nat) : Nat → Nat
  | 0 => 0
  | n + 1 => if t (m - (n + 1)) = -1 then ftN t m n else m - (n + 1) + 1
theorem ftN_le (t : Nat → Int32) (m : Nat) : ∀ n, n ≤ m → ftN t m n ≤ m
  | 0, _ => Nat.zero_le _
  | n + 1, h => by
    have := ftN_le t m n (by omega)
    unfold ftN
    split <;> omega
theorem ftN_told (t : Nat → Int32) (m : Nat) : ∀ n, ftN t m n ≠ 0 → t (ftN t m n - 1) ≠ -1
  | 0, h => absurd rfl h
  | n + 1, h => by
    unfold ftN at h ⊢
    split
    · rename_i hq
      rw [if_pos hq] at h
      exact ftN_told t m n h
    · rename_i hq
      rw [Nat.add_sub_cancel]
      exact hq
noncomputable def nxI (pr : mP) (s : mS) (t : Nat → Int32) : Int32 := if ftN t (nC pr) (nC pr) = 0 then -1 else hI (parN pr s (twN t (ftN t (nC pr) (nC pr) - 1)) (nT pr)).1
theorem c_next {G : tH} {p fr q : Nat} {pr : mP} {lw : mL} {σ : Nat → mS} {τ : Nat → Nat → Int32} {ν : Nat → Nat} {L : Nat → Nat → Nat} {tx : Nat → Nat} {nm : Nat → Nat → List Nat} (ho : okP pr) (hs : okS pr (σ 0)) (hM7 : okT pr (τ 0)) (hC : IC G p fr q pr lw σ τ ν L tx nm) : ∃ G', V_X10_next G = some (some (vI (nxI pr (σ 0) (τ 0))), G') ∧ tfr zO G G' := by
  obtain ⟨c1, c2, c3, hP, c5, c6, hS, _⟩ := hC.1
  have hT := ho.2.1
  have hle := ftN_le (τ 0) (nC pr) (nC pr) (Nat.le_refl _)
  have key : ∀ n, n ≤ nC pr → ∃ G', V_X10_next_2 (nI (nC pr - n)) G = some (some (vI (if ftN (τ 0) (nC pr) n = 0 then -1 else hI (parN pr (σ 0) (twN (τ 0) (ftN (τ 0) (nC pr) n - 1)) (nT pr)).1)), G') ∧ tfr zO G G' := by
    intro n
    induction n with
    | zero =>
      intro _
      refine ⟨G, ?_, tfr.rf⟩
      rw [e_X10_next_2, c2, hP.2.1, tltM (by omega) (by omega) (by omega)]
      rfl
    | succ n ih =>
      intro hn
      rw [e_X10_next_2, c2, hP.2.1, tltP (by omega) (by omega) (by omega), ttin (by omega) (by omega), nI_clamp (by omega), hC.2.1.1 _ (by omega), nI_add]
      by_cases hq : τ 0 (nC pr - (n + 1)) = -1
      · rw [tif_pos hq, show ftN (τ 0) (nC pr) (n + 1) = ftN (τ 0) (nC pr) n from if_pos hq, show nC pr - (n + 1) + 1 = nC pr - n by omega]
        exact ih (by omega)
      · obtain ⟨q1, q2⟩ := okT_tw hM7 (show nC pr - (n + 1) < 5 by omega) hq
        obtain ⟨G', e1, f1⟩ := v_bestParting hP ho hS hs q2
        refine ⟨G', ?_, f1⟩
        rw [tif_neg hq, ttin (by omega) (by omega), q1, e1, tbI_v, show ftN (τ 0) (nC pr) (n + 1) = nC pr - (n + 1) + 1 from if_neg hq, if_neg (by omega), Nat.add_sub_cancel]
  rw [e_X10_next]
  have := key (nC pr) (Nat.le_refl _)
  rw [Nat.sub_self] at this
  exact this
theorem r_next {G : tH} {pr : mP} {lw : mL} {σ : Nat → mS} {τ : Nat → Nat → Int32} {ν : Nat → Nat} (ho : okP pr) (hs : okS pr (σ 0)) (hM7 : okT pr (τ 0)) (hR : R1 G pr lw σ ν) (hR2 : R2 G τ ν) : ∃ G', V_X11_next G = some (some (vI (nxI pr (σ 0) (τ 0))), G') ∧ tfr zN G G' := by
  have hT6 := ho.1
  have hT := ho.2.1
  have hH := ho.2.2.1
  have h32 := p2_32 ho
  have hp1 : 1 ≤ 2 ^ nH pr := Nat.one_le_two_pow
  have hR0 := hR.thr (nI 0)
  obtain ⟨r1, r2, r3, r4, r5, r6, r7⟩ := hR0
  have hta : ∀ c, c < 5 → gA (sI G 1100 0 (nI 0)) 1124 0 (56 + c) = τ 0 c := fun c hc => by rw [gA_sI]; exact hR2.1 c hc
  obtain ⟨G0, hG0⟩ : ∃ g, g = sI G 1100 0 (nI 0) := ⟨_, rfl⟩
  have f0 : tfr zN G G0 := by rw [hG0]; exact tfr.sI (by unfold zN; omega)
  rw [← hG0] at r1 r4 hta
  have hle := ftN_le (τ 0) (nC pr) (nC pr) (Nat.le_refl _)
  have down : ∀ n i, i + n = nC pr → V_X11_next_14 (hI (ftN (τ 0) (nC pr) i)) (nI n - nI 1) G0 = V_X11_next_14 (hI (ftN (τ 0) (nC pr) (nC pr))) (nI 0 - nI 1) G0 := by
    intro n
    induction n with
    | zero =>
      intro i hi
      rw [show i = nC pr by omega]
    | succ n ih =>
      intro i hi
      have h2 := ih (i + 1) (by omega)
      rw [← h2, nI_sub (by omega), show n + 1 - 1 = n by omega, e_X11_next_14, tlt0 (by omega)]
      simp (disch := omega) only [nI_add, ttin, nI_clamp, hta]
      have ei : nC pr - (i + 1) = n := by omega
      have em : nI n + (-1 : Int32) = nI n - nI 1 := by rw [show nI 1 = (1 : Int32) from rfl, Int32.sub_eq_add_neg]
      rw [em]
      by_cases hq : τ 0 n = -1
      · rw [hq, tif_pos m1_lt, show ftN (τ 0) (nC pr) (i + 1) = ftN (τ 0) (nC pr) i from if_pos (by rw [ei]; exact hq)]
      · obtain ⟨q1, q2⟩ := okT_tw hM7 (show n < 5 by omega) hq
        rw [q1, tlt0 (by omega), show ftN (τ 0) (nC pr) (i + 1) = nC pr - (i + 1) + 1 from if_neg (by rw [ei]; exact hq), ei, hI_pos (by omega)]
        rfl
  have d1 := down (nC pr) 0 (by omega)
  have e14 : V_X11_next G = V_X11_next_14 (hI (ftN (τ 0) (nC pr) (nC pr))) (nI 0 - nI 1) G0 := by
    rw [e_X11_next, ← d1]
    dsimp only
    rw [← hG0, r_companies r1, tbI_v]
    rfl
  rw [e14, e_X11_next_14, tif_pos (show nI 0 - nI 1 < 0 by decide +kernel)]
  unfold nxI
  by_cases h0 : ftN (τ 0) (nC pr) (nC pr) = 0
  · rw [if_pos h0, h0]
    exact ⟨G0, tif_pos (by decide +kernel), f0⟩
  · have hto := ftN_told (τ 0) (nC pr) (nC pr) h0
    rw [if_neg h0, hI_pos h0, tlt0 (by omega)]
    obtain ⟨c, hc⟩ : ∃ c, c = ftN (τ 0) (nC pr) (nC pr) - 1 := ⟨_, rfl⟩
    rw [← hc] at hto ⊢
    obtain ⟨w, hw⟩ : ∃ w, w = twN (τ 0) c := ⟨_, rfl⟩
    obtain ⟨q1, q2⟩ := okT_tw hM7 (show c < 5 by omega) hto
    rw [← hw] at q1 q2 ⊢
    obtain ⟨G1, e1, x1, x2, x3, x4, f1⟩ := r_findKnew (c := c) (w := w) r1 ho r4 hs (by omega) q2 (by rw [hta c (by omega), q1])
    have g1 : tfr zN G0 G1 := zF_N f1
    rw [e1, tbV_v]
    have mark : ∀ n i G2, i + n = 2 ^ nH pr → 1 ≤ i → tfr (fun f _ => f = 1136) G1 G2 → (∀ k, 1 ≤ k → k < i → gA G2 1136 0 k = nI (kF (kP pr (σ 0) w) k)) → ∃ G3, V_X11_next_55 (nI c) (nI i) G2 = V_X11_next_109 (-1) (nI (kC (kP pr (σ 0) w) (2 ^ nH pr))) (nI 0) G3 ∧ tfr (fun f _ => f = 1136) G1 G3 ∧ ∀ k, 1 ≤ k → k < 2 ^ nH pr → gA G3 1136 0 k = nI (kF (kP pr (σ 0) w) k) := by
      intro n
      induction n with
      | zero =>
        intro i G2 hi i1 f2 ha
        have : i = 2 ^ nH pr := by omega
        subst this
        have hP2 := (r1.kept g1 (by unfold zN; omega)).kept f2 (by omega)
        refine ⟨G2, ?_, f2, ha⟩
        rw [e_X11_next_55, r_harvests hP2, tbI_v, nI_shl1 _ (by omega), tltM (by omega) (by omega) (by omega), (f2 1132 0 (by omega)).1, x1]
      | succ n ih =>
        intro i G2 hi i1 f2 ha
        have hP2 := (r1.kept g1 (by unfold zN; omega)).kept f2 (by omega)
        have a2 : gA G2 1124 0 = gA G0 1124 0 := by rw [(f2 1124 0 (by omega)).2.2.2.1, zN_a g1]
        have hwl := wtN_le ho (σ 0) 0 i
        rw [e_X11_next_55, r_harvests hP2, tbI_v, nI_shl1 _ (by omega), tltP (by omega) (by omega) (by omega), r_worthBy (r := 0) hP2 ho (by rw [a2]; exact r4) hs (by omega) (by rw [(f2 1127 0 (by omega)).1]; exact x4) (by omega) (wd_pos ho (by omega) (by omega)), tbI_v, nI_add, nI_add, ttin (by omega) (by omega), nI_clamp (show 56 + c < 2 ^ 31 by omega), a2, hta c (by omega), q1, nI_clamp (show i < 2 ^ 31 by omega), ttin (by omega) (by omega), nar_b1, nar_b0]
        by_cases hq : wtN pr (σ 0) 0 i = w
        · rw [teqP hq]
          refine ih (i + 1) _ (by omega) (by omega) (tfrA f2 rfl) fun k k1 k2 => ?_
          rw [gA_eq]
          by_cases hk : k = i
          · subst hk; rw [upd_eq, kF_1 ⟨i1, by omega, hq⟩]
          · rw [upd_ne hk]; exact ha k k1 (by omega)
        · rw [teqM (by omega) (by omega) hq, ttin (by omega) (by omega)]
          refine ih (i + 1) _ (by omega) (by omega) (tfrA f2 rfl) fun k k1 k2 => ?_
          rw [gA_eq]
          by_cases hk : k = i
          · subst hk; rw [upd_eq, kF_0 fun z => hq z.2.2]
          · rw [upd_ne hk]; exact ha k k1 (by omega)
    obtain ⟨G2, e2, f2, s2⟩ := mark (2 ^ nH pr - 1) 1 G1 (by omega) (by omega) tfr.rf fun k k1 k2 => by omega
    rw [e2]
    have g2 : tfr zN G0 G2 := g1.tr (f2.mono fun f o z => by unfold zN; omega)
    have hkc := kC_le (kP pr (σ 0) w) (2 ^ nH pr)
    have last : ∀ n i G3, i + n = nT pr → tfr zN G0 G3 → (∀ k, 1 ≤ k → k < 2 ^ nH pr → gA G3 1136 0 k = nI (kF (kP pr (σ 0) w) k)) → ∃ G4, V_X11_next_109 (hI (parN pr (σ 0) w i).1) (nI (parN pr (σ 0) w i).2) (nI i) G3 = some (some (vI (hI (parN pr (σ 0) w (nT pr)).1)), G4) ∧ tfr zN G0 G4 := by
      intro n
      induction n with
      | zero =>
        intro i G3 hi g3 s3
        have hP3 := r1.kept g3 (by unfold zN; omega)
        refine ⟨G3, ?_, g3⟩
        rw [e_X11_next_109, r_towns hP3, tbI_v, tltM (by omega) (by omega) (by omega), show i = nT pr by omega]
      | succ n ih =>
        intro i G3 hi g3 s3
        have hP3 := r1.kept g3 (by unfold zN; omega)
        obtain ⟨G4, e4, f4, y4⟩ := r_greatestAlike (t := i) hP3 ho (by rw [zN_a g3]; exact r4) hs (by omega) kP_0 s3
        have hm := maN_le (kP pr (σ 0) w) (wtN pr (σ 0) (i + 1)) (2 ^ nH pr)
        have hb := (bpS_le (fun t => maN (kP pr (σ 0) w) (wtN pr (σ 0) (t + 1)) (2 ^ nH pr)) (kC (kP pr (σ 0) w) (2 ^ nH pr)) i).1
        have hb' : (parN pr (σ 0) w i).2 ≤ 32 := by unfold parN; omega
        obtain ⟨G5, e5, f5⟩ := ih (i + 1) G4 (by omega) (g3.tr (f4.mono fun f o z => by unfold zN; omega)) fun k k1 k2 => by rw [(f4 1136 0 (by omega)).2.2.2.1]; exact s3 k k1 k2
        refine ⟨G5, ?_, f5⟩
        have est : parN pr (σ 0) w (i + 1) = if maN (kP pr (σ 0) w) (wtN pr (σ 0) (i + 1)) (2 ^ nH pr) < (parN pr (σ 0) w i).2 then (i + 1, maN (kP pr (σ 0) w) (wtN pr (σ 0) (i + 1)) (2 ^ nH pr)) else parN pr (σ 0) w i := rfl
        rw [est] at e5
        rw [e_X11_next_109, r_towns hP3, tbI_v, tltP (by omega) (by omega) (by omega), e4, tbI_v, tltN (by omega) (by omega)]
        by_cases hq : maN (kP pr (σ 0) w) (wtN pr (σ 0) (i + 1)) (2 ^ nH pr) < (parN pr (σ 0) w i).2
        · rw [if_pos hq] at e5 ⊢
          rw [e_X11_next_138, tltP (by omega) (by omega) hq, nI_add]
          rw [show hI (i + 1) = nI i by rw [hI_pos (by omega)]; rfl] at e5
          exact e5
        · rw [if_neg hq] at e5 ⊢
          rw [e_X11_next_138, tltM (by omega) (by omega) (by omega), nI_add]
          exact e5
    obtain ⟨G4, e4, f4⟩ := last (nT pr) 0 G2 (by omega) g2 s2
    exact ⟨G4, e4, f0.tr f4⟩
theorem p_next {G : tH} (h : INV G) : PAIR (V_X10_next) (V_X11_next) G := by
  obtain ⟨p, fr, q, pr, lw, σ, τ, ν, L, tx, nm, hM, hN, hC, hR⟩ := id h
  obtain ⟨ho, hs, hu, hM4, hM5, hM6, hM7, _⟩ := id hM
  obtain ⟨Ga, e1, f1⟩ := c_next ho hs hM7 hC
  refine PAIR.scr hM hN hC hR e1 (zO_V f1) fun hR1 => ?_
  obtain ⟨G2, e2, f2⟩ := r_next ho hs hM7 hR1.1 hR1.2.1
  exact ⟨G2, e2, zN_X f2, fun i _ => by rw [zN_a f2]⟩
