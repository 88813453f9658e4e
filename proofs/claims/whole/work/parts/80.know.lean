/-! PURE: worth, news -/
theorem zO_V {G G' : tH} (h : tfr zO G G') : tfr (fun f o => zV f o ∧ f < 1100) G G' := h.mono fun f o z => by unfold zO at z; unfold zV; omega
def zN : Nat → Nat → Prop := fun f _ => f = 1100 ∨ 1127 ≤ f
theorem zN_X {G G' : tH} (h : tfr zN G G') : tfr (fun f o => zX f o ∧ 1100 ≤ f) G G' := h.mono fun f o z => by unfold zN at z; unfold zX; omega
theorem zN_a {G G' : tH} (h : tfr zN G G') : gA G' 1124 0 = gA G 1124 0 := (h 1124 0 (by unfold zN; omega)).2.2.2.1
theorem R1.sc {G G' : tH} {pr : mP} {lw : mL} {σ : Nat → mS} {ν : Nat → Nat} (h : R1 G pr lw σ ν) (hf : tfr zN G G') : R1 G' pr lw σ ν := h.kept hf (by unfold zN; omega) (by unfold zN; omega) (by unfold zN; omega) (by unfold zN; omega) (by unfold zN; omega)
theorem r_all {G : tH} {pr : mP} (ho : okP pr) : ((nI 1 <<< (nI (nH pr) &&& 31)) - nI 1) = nI (2 ^ nH pr - 1) := by
  have := ho.2.2.1
  rw [nI_shl1 _ (by omega), nI_sub (Nat.one_le_two_pow)]
theorem p_worth (x1 : Int32) {G : tH} (h : INV G) : PAIR (V_X10_worth x1) (V_X11_worth x1) G := by
  obtain ⟨p, fr, q, pr, lw, σ, τ, ν, L, tx, nm, hM, hN, hC, hR⟩ := id h
  obtain ⟨ho, hs, hu, _⟩ := id hM
  obtain ⟨c1, c2, c3, hP, c5, c6, hS, _⟩ := hC.1
  have h32 := p2_32 ho
  have hp1 : 1 ≤ 2 ^ nH pr := Nat.one_le_two_pow
  rcases within_c (a := 1) (b := 2 ^ nH pr - 1) x1 (by omega) (by omega) with ⟨k, k1, k2, rfl, hw⟩ | ⟨hno, hw⟩
  · obtain ⟨Ga, e1, o1, f1⟩ := c_foresee (r := 0) hP ho hS hs (by omega)
    refine PAIR.scr (r := nI (wtN pr (σ 0) 0 k)) hM hN hC hR ?_ (zO_V f1) fun hR1 => ?_
    · rw [e_X10_worth, tl0P (by omega) (by omega), c2, v_all hP ho, tbI_v, tltM (by omega) (by omega) (by omega), show (-1 : Int32) = hI 0 from rfl, e1, tbV_v, v_worthBy ho o1 (by omega), tbI_v]
    · have f2 : tfr zN Ga (sI (sI Ga 1100 0 (nI 0)) 1127 0 (-1)) := tfrI (tfrI tfr.rf (by unfold zN; omega)) (by unfold zN; omega)
      have hR2 := hR1.1.sc f2
      refine ⟨_, ?_, zN_X f2, fun i _ => by rw [zN_a f2]⟩
      rw [e_X11_worth]
      dsimp only
      rw [r_harvests hR2.1, tbI_v, r_all (G := Ga) ho, r_within, hw, tbI_v, tn1, r_worthBy (r := 0) hR2.1 ho hR2.2.2.2.1 hs (by omega) gI_eq (by omega) (wd_pos ho (by omega) (by omega)), tbI_v]
  · refine PAIR.scr (r := -1) hM hN hC hR ?_ tfr.rf fun hR1 => ?_
    · rw [e_X10_worth]
      by_cases h1 : 0 < x1
      · rw [tif_pos h1, c2, v_all hP ho, tbI_v]
        obtain ⟨k, hk, rfl⟩ := nI_of (x := x1) (Int32.not_lt.mpr (Int32.le_of_lt h1))
        rw [← nI_0, nI_ltI (by omega) hk] at h1
        rw [tltP (by omega) hk (Nat.lt_of_not_le fun q => hno ⟨k, h1, q, rfl⟩)]
      · rw [tif_neg h1]
    · have f2 : tfr zN G (sI (sI G 1100 0 (nI 0)) 1127 0 (-1)) := tfrI (tfrI tfr.rf (by unfold zN; omega)) (by unfold zN; omega)
      have hR2 := hR1.1.sc f2
      refine ⟨_, ?_, zN_X f2, fun i _ => by rw [zN_a f2]⟩
      rw [e_X11_worth]
      dsimp only
      rw [r_harvests hR2.1, tbI_v, r_all (G := G) ho, r_within, hw, tbI_v, tn0]
def dN (a b : Nat) : Nat := (a - b) + (b - a)
theorem dN_c (a b : Nat) : dN a b = dN b a := by unfold dN; omega
theorem abs1 {a b : Nat} (ha : a < 2 ^ 30) (hb : b < 2 ^ 30) : (if (0 : Int32) ≤ nI a - nI b then nI a - nI b else 0 - (nI a - nI b)) = nI (dN a b) := by
  by_cases h : b ≤ a
  · rw [nI_sub h, if_pos (nI_pos' (by omega)), show dN a b = a - b by unfold dN; omega]
  · have := pk_sneg hb (show a < b by omega)
    rw [if_neg (Int32.not_le.mpr this), Int32.zero_sub, Int32.neg_sub, nI_sub (by omega), show dN a b = b - a by unfold dN; omega]
theorem abs2 {a b : Nat} (ha : a < 2 ^ 30) (hb : b < 2 ^ 30) (K : Int32 → Option tRes) : tif (nI a - nI b < 0) (K (-(nI a - nI b))) (K (nI a - nI b)) = K (nI (dN a b)) := by
  by_cases h : b ≤ a
  · rw [nI_sub h, tlt0 (by omega), show dN a b = a - b by unfold dN; omega]
  · have := pk_sneg hb (show a < b by omega)
    rw [tif_pos this, Int32.neg_sub, nI_sub (by omega), show dN a b = b - a by unfold dN; omega]
theorem tltH {g c : Nat} {x y : Option tRes} (hg : g < 2 ^ 30) (hc : c < 2 ^ 30) : tif (hI g < nI c) x y = if g < c + 1 then x else y := by
  by_cases h0 : g = 0
  · rw [h0, hI_0, if_pos (by omega)]
    exact tif_pos (Int32.lt_of_lt_of_le m1_lt (nI_pos' (by omega)))
  · rw [hI_pos h0, tltN (by omega) (by omega)]
    by_cases h : g < c + 1
    · rw [if_pos (by omega), if_pos h]
    · rw [if_neg (by omega), if_neg h]
theorem without : ∀ n, n ≤ 5 → ∀ h, h < 5 → h < n → (nI (2 ^ n - 1) &&& (nI (2 ^ h) ^^^ (-1 : Int32))) = nI (2 ^ n - 1 - 2 ^ h) := by decide +kernel
theorem pw_lt : ∀ n, n ≤ 5 → ∀ h, h < n → 2 ^ h < 2 ^ n := fun n _ h hh => Nat.pow_lt_pow_right (by omega) hh
def nwC (pr : mP) (s : mS) (h : Nat) : Nat := dN (wtN pr s 0 (2 ^ nH pr - 1 - 2 ^ h)) (wtN pr s 0 (2 ^ nH pr - 1))
def nwS (c : Nat → Nat) : Nat → Nat × Nat
  | 0 => (0, 0)
  | n + 1 => if (nwS c n).2 < c n + 1 then (n + 1, c n + 1) else nwS c n
theorem nwC_le {pr : mP} (ho : okP pr) (s : mS) (h : Nat) : nwC pr s h ≤ 2699730 := by
  have h1 := wtN_le ho s 0 (2 ^ nH pr - 1 - 2 ^ h)
  have h2 := wtN_le ho s 0 (2 ^ nH pr - 1)
  unfold nwC dN
  omega
theorem nwS_le {pr : mP} (ho : okP pr) (s : mS) : ∀ n, (nwS (nwC pr s) n).2 ≤ 2699731 ∧ (nwS (nwC pr s) n).1 ≤ n
  | 0 => ⟨by show 0 ≤ _; omega, Nat.le_refl _⟩
  | n + 1 => by
    have h1 := nwS_le ho s n
    have h2 := nwC_le ho s n
    unfold nwS
    split
    · exact ⟨by show nwC pr s n + 1 ≤ _; omega, Nat.le_refl _⟩
    · exact ⟨h1.1, by omega⟩
theorem v_news {G : tH} {pr : mP} {s : mS} (ho : okP pr) (h : cO G pr s 0) : V_X3_greatestNews G = some (some (vI (hI (nwS (nwC pr s) (nH pr)).1)), G) := by
  have hH := ho.2.2.1
  have h32 := p2_32 ho
  have hp1 : 1 ≤ 2 ^ nH pr := Nat.one_le_two_pow
  rw [e_X3_greatestNews]
  have key : ∀ n i, i + n = nH pr → V_X3_greatestNews_6 (hI (nwS (nwC pr s) i).1) (hI (nwS (nwC pr s) i).2) (nI i) G = some (some (vI (hI (nwS (nwC pr s) (nH pr)).1)), G) := by
    intro n
    induction n with
    | zero =>
      intro i hi
      have : i = nH pr := by omega
      subst this
      rw [e_X3_greatestNews_6, h.1, nI_shl1 _ (by omega)]
      by_cases h5 : nH pr < 5
      · rw [tltP (by omega) (by omega) h5, tltP (by omega) (by omega) (by omega)]
      · rw [tltM (by omega) (by omega) (by omega)]
    | succ n ih =>
      intro i hi
      have h2 := ih (i + 1) (by omega)
      have hlt := pw_lt (nH pr) hH i (by omega)
      have hp0 : 0 < 2 ^ i := Nat.two_pow_pos i
      have hw1 := wtN_le ho s 0 (2 ^ nH pr - 1 - 2 ^ i)
      have hw2 := wtN_le ho s 0 (2 ^ nH pr - 1)
      have hc := nwC_le ho s i
      have hg := nwS_le ho s i
      rw [e_X3_greatestNews_6, tltP (by omega) (by omega) (by omega), h.1, nI_shl1 _ (by omega), tltM (by omega) (by omega) (by omega), without _ hH _ (by omega) (by omega), v_worthBy ho h (by omega), tbI_v, h.1, v_worthBy ho h (by omega), tbI_v, abs1 (by omega) (by omega), nI_add]
      rw [show dN (wtN pr s 0 (2 ^ nH pr - 1 - 2 ^ i)) (wtN pr s 0 (2 ^ nH pr - 1)) = nwC pr s i from rfl, tltH (by omega) (by omega)]
      rw [nwS] at h2
      by_cases hq : (nwS (nwC pr s) i).2 < nwC pr s i + 1
      · rw [if_pos hq] at h2 ⊢
        exact h2
      · rw [if_neg hq] at h2 ⊢
        exact h2
  exact key (nH pr) 0 (by omega)
theorem r_news {G : tH} {pr : mP} {s : mS} (hP : rP G pr) (ho : okP pr) (hS : rS (gA G 1124 0) 0 pr s) (hs : okS pr s) (hg : gI G 1127 0 = hI 0) (h2H : 1 < nH pr) : V_X11_news_26 (nI (2 ^ nH pr - 1)) (-1) (-1) (nI 0) G = some (some (vI (hI (nwS (nwC pr s) (nH pr)).1)), G) := by
  have hH := ho.2.2.1
  have h32 := p2_32 ho
  have hp1 : 1 ≤ 2 ^ nH pr := Nat.one_le_two_pow
  have key : ∀ n i, i + n = nH pr → V_X11_news_26 (nI (2 ^ nH pr - 1)) (hI (nwS (nwC pr s) i).1) (hI (nwS (nwC pr s) i).2) (nI i) G = some (some (vI (hI (nwS (nwC pr s) (nH pr)).1)), G) := by
    intro n
    induction n with
    | zero =>
      intro i hi
      have : i = nH pr := by omega
      subst this
      rw [e_X11_news_26, r_harvests hP, tbI_v, tltM (by omega) (by omega) (by omega)]
    | succ n ih =>
      intro i hi
      have h2 := ih (i + 1) (by omega)
      have hlt := pw_lt (nH pr) hH i (by omega)
      have hp0 : 0 < 2 ^ i := Nat.two_pow_pos i
      have hlt2 : 2 ^ 1 ≤ 2 ^ (nH pr - 1) := Nat.pow_le_pow_right (by omega) (by omega)
      have hle : 2 ^ i ≤ 2 ^ (nH pr - 1) := Nat.pow_le_pow_right (by omega) (by omega)
      have hdb : 2 ^ nH pr = 2 ^ (nH pr - 1) * 2 := by rw [← Nat.pow_succ]; congr 1; omega
      have hw1 := wtN_le ho s 0 (2 ^ nH pr - 1 - 2 ^ i)
      have hw2 := wtN_le ho s 0 (2 ^ nH pr - 1)
      have hc := nwC_le ho s i
      have hgg := nwS_le ho s i
      have e76 : V_X11_news_76 (nI (2 ^ nH pr - 1)) (hI (nwS (nwC pr s) i).1) (hI (nwS (nwC pr s) i).2) (nI i) (nI (nwC pr s i)) G = some (some (vI (hI (nwS (nwC pr s) (nH pr)).1)), G) := by
        rw [nwS] at h2
        rw [e_X11_news_76, tltH (by omega) (by omega)]
        by_cases hq : (nwS (nwC pr s) i).2 < nwC pr s i + 1
        · rw [if_pos hq] at h2 ⊢
          rw [e_X11_news_90, tltH (by omega) (by omega), if_pos hq, nI_add]
          exact h2
        · rw [if_neg hq] at h2 ⊢
          rw [e_X11_news_90, tltH (by omega) (by omega), if_neg hq, nI_add]
          exact h2
      rw [e_X11_news_26, r_harvests hP, tbI_v, tltP (by omega) (by omega) (by omega), r_harvests hP, tbI_v, tltP (by omega) (by omega) h2H, r_worthBy hP ho hS hs (by omega) hg (by omega) (wd_pos ho (by omega) (by omega)), tbI_v, nI_shl1 _ (by omega), without _ hH _ (by omega) (by omega), r_worthBy hP ho hS hs (by omega) hg (by omega) (wd_pos ho (by omega) (by omega)), tbI_v]
      refine (abs2 (by omega) (by omega) fun v => V_X11_news_76 (nI (2 ^ nH pr - 1)) (hI (nwS (nwC pr s) i).1) (hI (nwS (nwC pr s) i).2) (nI i) v G).trans ?_
      rw [dN_c]
      exact e76
  exact key (nH pr) 0 (by omega)
theorem p_news {G : tH} (h : INV G) : PAIR (V_X10_news) (V_X11_news) G := by
  obtain ⟨p, fr, q, pr, lw, σ, τ, ν, L, tx, nm, hM, hN, hC, hR⟩ := id h
  obtain ⟨ho, hs, hu, _⟩ := id hM
  obtain ⟨c1, c2, c3, hP, c5, c6, hS, _⟩ := hC.1
  have hH := ho.2.2.1
  by_cases h2H : 1 < nH pr
  · obtain ⟨Ga, e1, o1, f1⟩ := c_foresee (r := 0) hP ho hS hs (by omega)
    refine PAIR.scr (r := hI (nwS (nwC pr (σ 0)) (nH pr)).1) hM hN hC hR ?_ (zO_V f1) fun hR1 => ?_
    · rw [e_X10_news, c2, hP.2.2.1, tltM (by omega) (by omega) (by omega), show (-1 : Int32) = hI 0 from rfl, e1, tbV_v, v_news ho o1, tbI_v]
    · have f2 : tfr zN Ga (sI (sI Ga 1100 0 (nI 0)) 1127 0 (-1)) := tfrI (tfrI tfr.rf (by unfold zN; omega)) (by unfold zN; omega)
      have hR2 := hR1.1.sc f2
      refine ⟨_, ?_, zN_X f2, fun i _ => by rw [zN_a f2]⟩
      rw [e_X11_news]
      dsimp only
      rw [r_harvests hR2.1, tbI_v, r_all (G := Ga) ho, r_news hR2.1 ho hR2.2.2.2.1 hs gI_eq h2H]
  · refine PAIR.scr (r := -1) hM hN hC hR ?_ tfr.rf fun hR1 => ?_
    · rw [e_X10_news, c2, hP.2.2.1, tltP (by omega) (by omega) (by omega)]
    · have f2 : tfr zN G (sI (sI G 1100 0 (nI 0)) 1127 0 (-1)) := tfrI (tfrI tfr.rf (by unfold zN; omega)) (by unfold zN; omega)
      have hR2 := hR1.1.sc f2
      refine ⟨_, ?_, zN_X f2, fun i _ => by rw [zN_a f2]⟩
      rw [e_X11_news]
      dsimp only
      rw [r_harvests hR2.1, tbI_v, e_X11_news_26, r_harvests hR2.1, tbI_v]
      by_cases h0 : 0 < nH pr
      · rw [tltP (by omega) (by omega) h0, r_harvests hR2.1, tbI_v, tltM (by omega) (by omega) (by omega)]
      · rw [tltM (by omega) (by omega) (by omega)]
/-! what was known -/
def kP (pr : mP) (s : mS) (w x : Nat) : Prop := 1 ≤ x ∧ x < 2 ^ nH pr ∧ wtN pr s 0 x = w
noncomputable def kB (P : Nat → Prop) : Nat → Nat
  | 0 => 0
  | n + 1 => @ite Nat (P n) (Classical.propDecidable _) (kB P n ||| 2 ^ n) (kB P n)
noncomputable def kF (P : Nat → Prop) (n : Nat) : Nat := @ite Nat (P n) (Classical.propDecidable _) 1 0
noncomputable def kC (P : Nat → Prop) (n : Nat) : Nat := sumN (kF P) n
noncomputable def kA (P : Nat → Prop) (a : Nat) : Nat → Nat
  | 0 => a
  | n + 1 => @ite Nat (P n) (Classical.propDecidable _) (kA P a n &&& n) (kA P a n)
noncomputable def kO (P : Nat → Prop) : Nat → Nat
  | 0 => 0
  | n + 1 => @ite Nat (P n) (Classical.propDecidable _) (kO P n ||| n) (kO P n)
theorem kB_1 {P : Nat → Prop} {n : Nat} (h : P n) : kB P (n + 1) = kB P n ||| 2 ^ n := if_pos h
theorem kB_0 {P : Nat → Prop} {n : Nat} (h : ¬ P n) : kB P (n + 1) = kB P n := if_neg h
theorem kF_1 {P : Nat → Prop} {n : Nat} (h : P n) : kF P n = 1 := if_pos h
theorem kF_0 {P : Nat → Prop} {n : Nat} (h : ¬ P n) : kF P n = 0 := if_neg h
theorem kC_1 {P : Nat → Prop} {n : Nat} (h : P n) : kC P (n + 1) = kC P n + 1 := by show kC P n + kF P n = _; rw [kF_1 h]
theorem kC_0 {P : Nat → Prop} {n : Nat} (h : ¬ P n) : kC P (n + 1) = kC P n := by show kC P n + kF P n = _; rw [kF_0 h, Nat.add_zero]
theorem kA_1 {P : Nat → Prop} {a n : Nat} (h : P n) : kA P a (n + 1) = kA P a n &&& n := if_pos h
theorem kA_0 {P : Nat → Prop} {a n : Nat} (h : ¬ P n) : kA P a (n + 1) = kA P a n := if_neg h
theorem kO_1 {P : Nat → Prop} {n : Nat} (h : P n) : kO P (n + 1) = kO P n ||| n := if_pos h
theorem kO_0 {P : Nat → Prop} {n : Nat} (h : ¬ P n) : kO P (n + 1) = kO P n := if_neg h
theorem bitN_t (n k : Nat) : bitN n k = (n.testBit k).toNat := by
  unfold bitN
  rw [Nat.testBit_eq_decide_div_mod_eq]
  rcases (show n / 2 ^ k % 2 = 0 ∨ n / 2 ^ k % 2 = 1 by omega) with h | h <;> rw [h] <;> rfl
theorem bitN_or (n k j : Nat) : bitN (n ||| 2 ^ k) j = if j = k then 1 else bitN n j := by
  rw [bitN_t, bitN_t, Nat.testBit_or, Nat.testBit_two_pow]
  by_cases h : j = k
  · rw [if_pos h, h]; simp
  · rw [if_neg h]
    have : ¬ k = j := fun q => h q.symm
    simp [this]
theorem kB_bit (P : Nat → Prop) : ∀ n j, bitN (kB P n) j = if j < n then kF P j else 0
  | 0, j => by
    show bitN 0 j = _
    rw [if_neg (by omega)]
    unfold bitN
    rw [Nat.zero_div]
  | n + 1, j => by
    have h := kB_bit P n j
    by_cases hp : P n
    · rw [kB_1 hp, bitN_or]
      by_cases hj : j = n
      · rw [if_pos hj, if_pos (by omega), hj, kF_1 hp]
      · rw [if_neg hj, h]
        by_cases h2 : j < n
        · rw [if_pos h2, if_pos (by omega)]
        · rw [if_neg h2, if_neg (by omega)]
    · rw [kB_0 hp, h]
      by_cases h2 : j < n
      · rw [if_pos h2, if_pos (by omega)]
      · rw [if_neg h2]
        by_cases hj : j = n
        · rw [if_pos (by omega), hj, kF_0 hp]
        · rw [if_neg (by omega)]
theorem kB_lt (P : Nat → Prop) : ∀ n, kB P n < 2 ^ n
  | 0 => by show 0 < 2 ^ 0; omega
  | n + 1 => by
    have h := kB_lt P n
    by_cases hp : P n
    · rw [kB_1 hp]
      exact Nat.or_lt_two_pow (by rw [Nat.pow_succ]; omega) (Nat.pow_lt_pow_right (by omega) (by omega))
    · rw [kB_0 hp, Nat.pow_succ]; omega
theorem sumN_cong {f g : Nat → Nat} : ∀ n, (∀ i, i < n → f i = g i) → sumN f n = sumN g n
  | 0, _ => rfl
  | n + 1, h => by
    show sumN f n + f n = sumN g n + g n
    rw [sumN_cong n fun i hi => h i (by omega), h n (by omega)]
theorem kB_pop (P : Nat → Prop) {n : Nat} (hn : n ≤ 32) : sumN (bitN (kB P n)) 32 = kC P n := by
  have h1 : sumN (bitN (kB P n)) (n + (32 - n)) = sumN (bitN (kB P n)) n := sumN_end (fun i hi => by rw [kB_bit, if_neg (by omega)]) _
  rw [show n + (32 - n) = 32 by omega] at h1
  rw [h1]
  exact sumN_cong n fun i hi => by rw [kB_bit, if_pos hi]
theorem kF_le (P : Nat → Prop) (n : Nat) : kF P n ≤ 1 := by
  by_cases h : P n
  · rw [kF_1 h]; omega
  · rw [kF_0 h]; omega
theorem kC_le (P : Nat → Prop) (n : Nat) : kC P n ≤ n := by
  have := sumN_le (f := kF P) (M := 1) n fun i _ => kF_le P i
  unfold kC
  omega
theorem kA_end {P : Nat → Prop} {a n : Nat} (h : ∀ i, n ≤ i → ¬ P i) : ∀ k, kA P a (n + k) = kA P a n
  | 0 => rfl
  | k + 1 => (kA_0 (show ¬ P (n + k) from h _ (by omega))).trans (kA_end h k)
theorem kO_end {P : Nat → Prop} {n : Nat} (h : ∀ i, n ≤ i → ¬ P i) : ∀ k, kO P (n + k) = kO P n
  | 0 => rfl
  | k + 1 => (kO_0 (show ¬ P (n + k) from h _ (by omega))).trans (kO_end h k)
theorem kP_end {pr : mP} {s : mS} {w : Nat} : ∀ i, 2 ^ nH pr ≤ i → ¬ kP pr s w i := fun i hi q => by have := q.2.1; omega
/-! the class: sets of sets -/
theorem v_setsWorth {G : tH} {pr : mP} {s : mS} {w : Nat} (ho : okP pr) (h : cO G pr s 0) (hw : w ≤ 99999) : V_X3_setsWorth (nI w) G = some (some (vI (nI (kB (kP pr s w) (2 ^ nH pr)))), G) := by
  have h32 := p2_32 ho
  have hp1 : 1 ≤ 2 ^ nH pr := Nat.one_le_two_pow
  rw [e_X3_setsWorth]
  have key : ∀ n i, i + n = 2 ^ nH pr → 1 ≤ i → V_X3_setsWorth_4 (nI w) (nI (kB (kP pr s w) i)) (nI i) G = some (some (vI (nI (kB (kP pr s w) (2 ^ nH pr)))), G) := by
    intro n
    induction n with
    | zero =>
      intro i hi h1
      rw [e_X3_setsWorth_4, h.1, tltP (by omega) (by omega) (by omega), show i = 2 ^ nH pr by omega]
    | succ n ih =>
      intro i hi h1
      have h2 := ih (i + 1) (by omega) (by omega)
      have hle := wtN_le ho s 0 i
      rw [e_X3_setsWorth_4, h.1, tltM (by omega) (by omega) (by omega), tltP (by omega) (by omega) (by omega), v_worthBy ho h (by omega), tbI_v, nI_shl1 _ (by omega), nI_or, nI_add]
      by_cases hq : wtN pr s 0 i = w
      · rw [teqP hq]
        rw [kB_1 ⟨h1, by omega, hq⟩] at h2
        exact h2
      · rw [teqM (by omega) (by omega) hq]
        rw [kB_0 fun q => hq q.2.2] at h2
        exact h2
  have := key (2 ^ nH pr - 1) 1 (by omega) (by omega)
  rw [kB_0 fun q => by have := q.1; omega] at this
  exact this
theorem kB_tst {G : tH} {P : Nat → Prop} {N k : Nat} (hN : N ≤ 32) (hk : k < 32) (he : ∀ i, N ≤ i → ¬ P i) {x y : Option tRes} : tif ((((nI (kB P N)).toUInt32 >>> ((nI k).toUInt32 &&& Int32.toUInt32 31)).toInt32 &&& nI 1) = 0) x y = @ite _ (P k) (Classical.propDecidable _) y x := by
  have hlt := kB_lt P N
  have h2 : 2 ^ N ≤ 2 ^ 32 := Nat.pow_le_pow_right (by omega) hN
  rw [nI_bit (by omega) hk]
  have hb := kB_bit P N k
  unfold bitN at hb
  rw [hb]
  by_cases hp : P k
  · rw [if_pos (Nat.lt_of_not_le fun q => he k q hp), kF_1 hp, tn1, if_pos hp]
  · rw [if_neg hp]
    by_cases hq : k < N
    · rw [if_pos hq, kF_0 hp, tn0]
    · rw [if_neg hq, tn0]
theorem v_inAll {G : tH} {pr : mP} {s : mS} {P : Nat → Prop} (ho : okP pr) (h : cO G pr s 0) (h0 : ¬ P 0) (he : ∀ i, 2 ^ nH pr ≤ i → ¬ P i) : V_X3_inAll (nI (kB P (2 ^ nH pr))) G = some (some (vI (nI (kA P (2 ^ nH pr - 1) (2 ^ nH pr)))), G) := by
  have h32 := p2_32 ho
  rw [e_X3_inAll, h.1]
  have key : ∀ n i, i + n = 32 → V_X3_inAll_7 (nI (kB P (2 ^ nH pr))) (nI (kA P (2 ^ nH pr - 1) i)) (nI i) G = some (some (vI (nI (kA P (2 ^ nH pr - 1) (2 ^ nH pr)))), G) := by
    intro n
    induction n with
    | zero =>
      intro i hi
      have : i = 32 := by omega
      subst this
      have e := kA_end (a := 2 ^ nH pr - 1) he (32 - 2 ^ nH pr)
      rw [show 2 ^ nH pr + (32 - 2 ^ nH pr) = 32 by omega] at e
      rw [e_X3_inAll_7, tltM (by omega) (by omega) (by omega), e]
    | succ n ih =>
      intro i hi
      have h2 := ih (i + 1) (by omega)
      rw [e_X3_inAll_7, tltP (by omega) (by omega) (by omega), kB_tst (G := G) h32 (by omega) he, nI_and, nI_add]
      by_cases hp : P i
      · rw [if_pos hp]; rw [kA_1 hp] at h2; exact h2
      · rw [if_neg hp]; rw [kA_0 hp] at h2; exact h2
  have := key 31 1 (by omega)
  rw [kA_0 h0] at this
  exact this
theorem v_inSome {G : tH} {pr : mP} {P : Nat → Prop} (ho : okP pr) (h0 : ¬ P 0) (he : ∀ i, 2 ^ nH pr ≤ i → ¬ P i) : V_X3_inSome (nI (kB P (2 ^ nH pr))) G = some (some (vI (nI (kO P (2 ^ nH pr)))), G) := by
  have h32 := p2_32 ho
  rw [e_X3_inSome]
  have key : ∀ n i, i + n = 32 → V_X3_inSome_4 (nI (kB P (2 ^ nH pr))) (nI (kO P i)) (nI i) G = some (some (vI (nI (kO P (2 ^ nH pr)))), G) := by
    intro n
    induction n with
    | zero =>
      intro i hi
      have : i = 32 := by omega
      subst this
      have e := kO_end he (32 - 2 ^ nH pr)
      rw [show 2 ^ nH pr + (32 - 2 ^ nH pr) = 32 by omega] at e
      rw [e_X3_inSome_4, tltM (by omega) (by omega) (by omega), e]
    | succ n ih =>
      intro i hi
      have h2 := ih (i + 1) (by omega)
      rw [e_X3_inSome_4, tltP (by omega) (by omega) (by omega), kB_tst (G := G) h32 (by omega) he, nI_or, nI_add]
      by_cases hp : P i
      · rw [if_pos hp]; rw [kO_1 hp] at h2; exact h2
      · rw [if_neg hp]; rw [kO_0 hp] at h2; exact h2
  have := key 31 1 (by omega)
  rw [kO_0 h0] at this
  exact this
/-! the reference: who knew -/
def zF : Nat → Nat → Prop := fun f _ => f = 1127 ∨ f = 1132 ∨ f = 1133 ∨ f = 1134
theorem r_findKnew {G : tH} {pr : mP} {s : mS} {c w : Nat} (hP : rP G pr) (ho : okP pr) (hS : rS (gA G 1124 0) 0 pr s) (hs : okS pr s) (hc : c < 5) (hw : w ≤ 99999) (ht : gA G 1124 0 (56 + c) = nI w) : ∃ G', V_X11_findKnew (nI c) G = some (none, G') ∧ gI G' 1132 0 = nI (kC (kP pr s w) (2 ^ nH pr)) ∧ gI G' 1133 0 = nI (kA (kP pr s w) (2 ^ nH pr - 1) (2 ^ nH pr)) ∧ gI G' 1134 0 = nI (kO (kP pr s w) (2 ^ nH pr)) ∧ gI G' 1127 0 = hI 0 ∧ tfr zF G G' := by
  have h32 := p2_32 ho
  have hH := ho.2.2.1
  have hp1 : 1 ≤ 2 ^ nH pr := Nat.one_le_two_pow
  have key : ∀ n i G1, i + n = 2 ^ nH pr → 1 ≤ i → tfr zF G G1 → gI G1 1127 0 = hI 0 → gI G1 1132 0 = nI (kC (kP pr s w) i) → gI G1 1133 0 = nI (kA (kP pr s w) (2 ^ nH pr - 1) i) → gI G1 1134 0 = nI (kO (kP pr s w) i) →
      ∃ G', V_X11_findKnew_29 (nI c) (nI i) G1 = some (none, G') ∧ gI G' 1132 0 = nI (kC (kP pr s w) (2 ^ nH pr)) ∧ gI G' 1133 0 = nI (kA (kP pr s w) (2 ^ nH pr - 1) (2 ^ nH pr)) ∧ gI G' 1134 0 = nI (kO (kP pr s w) (2 ^ nH pr)) ∧ gI G' 1127 0 = hI 0 ∧ tfr zF G G' := by
    intro n
    induction n with
    | zero =>
      intro i G1 hi h1 f1 g0 g1 g2 g3
      have : i = 2 ^ nH pr := by omega
      subst this
      have hP1 := hP.kept f1 (by unfold zF; omega)
      refine ⟨G1, ?_, g1, g2, g3, g0, f1⟩
      rw [e_X11_findKnew_29, r_harvests hP1, tbI_v, nI_shl1 _ (by omega), tltM (by omega) (by omega) (by omega)]
    | succ n ih =>
      intro i G1 hi h1 f1 g0 g1 g2 g3
      have hP1 := hP.kept f1 (by unfold zF; omega)
      have ha : gA G1 1124 0 = gA G 1124 0 := (f1 1124 0 (by unfold zF; omega)).2.2.2.1
      have hle := wtN_le ho s 0 i
      rw [e_X11_findKnew_29, r_harvests hP1, tbI_v, nI_shl1 _ (by omega), tltP (by omega) (by omega) (by omega), r_worthBy (r := 0) hP1 ho (by rw [ha]; exact hS) hs (by omega) g0 (by omega) (wd_pos ho (by omega) (by omega)), tbI_v]
      simp (disch := omega) only [nI_add, ttin, nI_clamp, ha, ht, gI_ne, g1, g2, g3, nI_and, nI_or]
      by_cases hq : wtN pr s 0 i = w
      · rw [teqP hq]
        have hk : kP pr s w i := ⟨h1, by omega, hq⟩
        refine ih (i + 1) _ (by omega) (by omega) (tfrI (tfrI (tfrI f1 (by unfold zF; omega)) (by unfold zF; omega)) (by unfold zF; omega)) ?_ ?_ ?_ ?_
        · simp (disch := omega) only [gI_ne, g0]
        · simp (disch := omega) only [gI_ne, gI_eq, kC_1 hk]
        · simp (disch := omega) only [gI_ne, gI_eq, kA_1 hk]
        · simp (disch := omega) only [gI_eq, kO_1 hk]
      · rw [teqM (by omega) (by omega) hq]
        have hk : ¬ kP pr s w i := fun q => hq q.2.2
        refine ih (i + 1) G1 (by omega) (by omega) f1 g0 ?_ ?_ ?_
        · rw [g1, kC_0 hk]
        · rw [g2, kA_0 hk]
        · rw [g3, kO_0 hk]
  rw [e_X11_findKnew]
  dsimp only
  have hf2 : tfr zF G (sI (sI G 1127 0 (-1)) 1132 0 (nI 0)) := tfrI (tfrI tfr.rf (by unfold zF; omega)) (by unfold zF; omega)
  have hn0 : ¬ kP pr s w 0 := fun q => by have := q.1; omega
  rw [r_harvests (hP.kept hf2 (by unfold zF; omega)), tbI_v, r_all (G := G) ho]
  refine key (2 ^ nH pr - 1) 1 _ (by omega) (by omega) (tfrI (tfrI hf2 (by unfold zF; omega)) (by unfold zF; omega)) ?_ ?_ ?_ ?_
  · simp (disch := omega) only [gI_ne, gI_eq]; rfl
  · simp (disch := omega) only [gI_ne, gI_eq, kC_0 hn0]; rfl
  · simp (disch := omega) only [gI_ne, gI_eq, kA_0 hn0]; rfl
  · simp (disch := omega) only [gI_eq, kO_0 hn0]; rfl
