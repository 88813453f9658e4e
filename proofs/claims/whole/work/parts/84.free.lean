/-! PURE: free, agree -/
def btH (b j : Nat) : Nat := if b = 0 then 1 else bitN (b - 1) j
theorem bth : ∀ b, b ≤ 32 → ∀ j, j < 5 → ((hI b >>> (nI j &&& 31)) &&& nI 1) = nI (btH b j) := by decide +kernel
theorem btH_le (b j : Nat) : btH b j ≤ 1 := by unfold btH bitN; split <;> omega
def prF (pr : mP) (b j : Nat) : Nat := if btH b j = 0 then 0 else pr 7 j
def prN (pr : mP) (b : Nat) : Nat := sumN (prF pr b) (nJ pr)
theorem prN_le {pr : mP} (ho : okP pr) (b : Nat) : prN pr b ≤ 4995 := by
  have hJ := ho.2.2.2.1
  have h := sumN_le (f := prF pr b) (M := 999) (nJ pr) fun i hi => by
    have := (ho.2.2.2.2.2.2.2.2.2 i hi).2
    unfold prF
    split <;> omega
  have := Nat.mul_le_mul_right 999 hJ
  unfold prN
  omega
theorem v_priceOf {G : tH} {p b : Nat} {pr : mP} (hP : cP G p pr) (ho : okP pr) (hb : b ≤ 32) : V_X5_priceOf p (hI b) G = some (some (vI (nI (prN pr b))), G) := by
  have hJ := ho.2.2.2.1
  rw [e_X5_priceOf]
  have key : ∀ n i, i + n = nJ pr → V_X5_priceOf_4 p (hI b) (nI (sumN (prF pr b) i)) (nI i) G = some (some (vI (nI (prN pr b))), G) := by
    intro n
    induction n with
    | zero =>
      intro i hi
      rw [e_X5_priceOf_4, hP.2.2.2.1, tltM (by omega) (by omega) (by omega), show i = nJ pr by omega]
      rfl
    | succ n ih =>
      intro i hi
      have h2 := ih (i + 1) (by omega)
      rw [sumN] at h2
      have hl := btH_le b i
      rw [e_X5_priceOf_4, hP.2.2.2.1, tltP (by omega) (by omega) (by omega), bth b hb i (by omega)]
      simp (disch := omega) only [ttin, nI_clamp, (hP.2.2.2.2.2.2.2.2.2 i (by omega)).2, nI_add]
      by_cases hq : btH b i = 0
      · rw [tz0P hq]
        rw [show prF pr b i = 0 from if_pos hq] at h2
        exact h2
      · rw [tz0M (by omega) hq]
        rw [show prF pr b i = pr 7 i from if_neg hq] at h2
        exact h2
  exact key (nJ pr) 0 (by omega)
theorem r_pricesOf {G : tH} {b : Nat} {pr : mP} (hP : rP G pr) (ho : okP pr) (hb : b ≤ 32) : V_X11_pricesOf (hI b) G = some (some (vI (nI (prN pr b))), G) := by
  have hJ := ho.2.2.2.1
  rw [e_X11_pricesOf]
  have key : ∀ n i, i + n = nJ pr → V_X11_pricesOf_4 (hI b) (nI (sumN (prF pr b) i)) (nI i) G = some (some (vI (nI (prN pr b))), G) := by
    intro n
    induction n with
    | zero =>
      intro i hi
      rw [e_X11_pricesOf_4, r_jurors hP, tbI_v, tltM (by omega) (by omega) (by omega), show i = nJ pr by omega]
      rfl
    | succ n ih =>
      intro i hi
      have h2 := ih (i + 1) (by omega)
      rw [sumN] at h2
      have hl := btH_le b i
      rw [e_X11_pricesOf_4, r_jurors hP, tbI_v, tltP (by omega) (by omega) (by omega), bth b hb i (by omega)]
      simp (disch := omega) only [ttin, nI_clamp, pk_mul, nI_add, (hP.2.2.2.2.2.2.2.2.2 i (by omega)).2]
      by_cases hq : btH b i = 0
      · rw [hq, teqM (by omega) (by omega) (by omega)]
        rw [show prF pr b i = 0 from if_pos hq] at h2
        exact h2
      · rw [teqP (by omega)]
        rw [show prF pr b i = pr 7 i from if_neg hq] at h2
        exact h2
  exact key (nJ pr) 0 (by omega)
/-- a set of jurors that would do -/
def fP (pr : mP) (s : mS) (x : Nat) : Prop := (∀ j, j < nJ pr → bitN x j = 1 → lgN pr s j = 0) ∧ ¬ 2 * sumN (vtN pr s x) (nJ pr) < nJ pr
noncomputable def fbN (pr : mP) (s : mS) : Nat → Nat
  | 0 => 0
  | n + 1 => @ite Nat (fP pr s n ∧ (fbN pr s n = 0 ∨ prN pr (n + 1) < prN pr (fbN pr s n))) (Classical.propDecidable _) (n + 1) (fbN pr s n)
theorem fbN_1 {pr : mP} {s : mS} {n : Nat} (h : fP pr s n ∧ (fbN pr s n = 0 ∨ prN pr (n + 1) < prN pr (fbN pr s n))) : fbN pr s (n + 1) = n + 1 := if_pos h
theorem fbN_0 {pr : mP} {s : mS} {n : Nat} (h : ¬ (fP pr s n ∧ (fbN pr s n = 0 ∨ prN pr (n + 1) < prN pr (fbN pr s n)))) : fbN pr s (n + 1) = fbN pr s n := if_neg h
theorem fbN_le (pr : mP) (s : mS) : ∀ n, fbN pr s n ≤ n
  | 0 => Nat.le_refl _
  | n + 1 => by
    have := fbN_le pr s n
    by_cases h : fP pr s n ∧ (fbN pr s n = 0 ∨ prN pr (n + 1) < prN pr (fbN pr s n))
    · rw [fbN_1 h]; omega
    · rw [fbN_0 h]; omega
theorem frN_bit (f : Nat → Nat) (hf : ∀ i, f i ≤ 1) : ∀ n j, bitN (frN f n) j = if j < n then f j else 0
  | 0, j => by
    show bitN 0 j = _
    rw [if_neg (by omega)]
    unfold bitN
    rw [Nat.zero_div]
  | n + 1, j => by
    have h := frN_bit f hf n j
    have h1 := hf n
    unfold frN
    by_cases hp : f n = 0
    · rw [if_pos hp, h]
      by_cases h2 : j < n
      · rw [if_pos h2, if_pos (by omega)]
      · rw [if_neg h2]
        by_cases hj : j = n
        · rw [if_pos (by omega), hj, hp]
        · rw [if_neg (by omega)]
    · rw [if_neg hp, bitN_or]
      by_cases hj : j = n
      · rw [if_pos hj, if_pos (by omega), hj]; omega
      · rw [if_neg hj, h]
        by_cases h2 : j < n
        · rw [if_pos h2, if_pos (by omega)]
        · rw [if_neg h2, if_neg (by omega)]
theorem bitN_orN (a b j : Nat) : bitN (a ||| b) j = if bitN a j = 0 ∧ bitN b j = 0 then 0 else 1 := by
  rw [bitN_t, bitN_t, bitN_t, Nat.testBit_or]
  cases a.testBit j <;> cases b.testBit j <;> rfl
theorem bitN_andN (a b j : Nat) : bitN (a &&& b) j = if bitN a j = 0 ∨ bitN b j = 0 then 0 else 1 := by
  rw [bitN_t, bitN_t, bitN_t, Nat.testBit_and]
  cases a.testBit j <;> cases b.testBit j <;> rfl
theorem bitN_le (a j : Nat) : bitN a j ≤ 1 := by unfold bitN; omega
theorem popc_s (x : Nat) : popc x = sumN (bitN x) 5 := by
  show popc x = 0 + bitN x 0 + bitN x 1 + bitN x 2 + bitN x 3 + bitN x 4
  unfold popc bitN
  omega
theorem bit_hi {x n j : Nat} (hx : x < 2 ^ n) (hj : n ≤ j) : bitN x j = 0 := by
  have : 2 ^ n ≤ 2 ^ j := Nat.pow_le_pow_right (by omega) hj
  unfold bitN
  rw [Nat.div_eq_of_lt (by omega)]
theorem bits_0 {x : Nat} : ∀ n, x < 2 ^ n → (∀ j, j < n → bitN x j = 0) → x = 0
  | 0, h, _ => by have : 2 ^ 0 = 1 := rfl; omega
  | n + 1, h, hb => by
    have h1 := hb n (by omega)
    unfold bitN at h1
    have h2 : x < 2 ^ n := by
      rw [Nat.pow_succ] at h
      by_cases hq : x < 2 ^ n
      · exact hq
      · exfalso
        have h3 : x / 2 ^ n = 1 := by
          rw [Nat.div_eq_iff (Nat.two_pow_pos n)]
          omega
        omega
    exact bits_0 n h2 fun j hj => hb j (by omega)
theorem v_cheapest {G : tH} {p : Nat} {pr : mP} {s : mS} (hP : cP G p pr) (ho : okP pr) (hS : cS G 0 p pr s) (hs : okS pr s) (m1 : s.1 10 0 ≠ 0) : V_X7_cheapestJurors 0 G = some (some (vI (hI (fbN pr s (2 ^ nJ pr)))), G) := by
  have hJ := ho.2.2.2.1
  have h32 : 2 ^ nJ pr ≤ 32 := by have := Nat.pow_le_pow_right (show 0 < 2 by omega) hJ; omega
  have hF := frN_lt (lgN pr s) (nJ pr) hJ
  have hFb := frN_bit (lgN pr s) (lgN_le pr s) (nJ pr)
  rw [e_X7_cheapestJurors, v_friends hP ho hS hs m1, tbI_v]
  have key : ∀ n i, i + n = 2 ^ nJ pr → V_X7_cheapestJurors_9 0 (nI (frN (lgN pr s) (nJ pr))) (hI (fbN pr s i)) (nI i) G = some (some (vI (hI (fbN pr s (2 ^ nJ pr)))), G) := by
    intro n
    induction n with
    | zero =>
      intro i hi
      rw [e_X7_cheapestJurors_9, hS.1, hP.2.2.2.1, nI_shl1 _ (by omega), tltM (by omega) (by omega) (by omega), show i = 2 ^ nJ pr by omega]
    | succ n ih =>
      intro i hi
      have h2 := ih (i + 1) (by omega)
      have hfl := fbN_le pr s i
      have hand : (i &&& frN (lgN pr s) (nJ pr)) < 2 ^ nJ pr := Nat.lt_of_le_of_lt Nat.and_le_left (by omega)
      have horl : (i ||| frN (lgN pr s) (nJ pr)) < 2 ^ nJ pr := Nat.or_lt_two_pow (by omega) hF
      have h0 : (i &&& frN (lgN pr s) (nJ pr)) = 0 ↔ ∀ j, j < nJ pr → bitN i j = 1 → lgN pr s j = 0 := by
        constructor
        · intro e j hj hb
          have := bitN_andN i (frN (lgN pr s) (nJ pr)) j
          rw [e, hFb j, if_pos hj, hb] at this
          by_cases hq : lgN pr s j = 0
          · exact hq
          · rw [if_neg (by omega)] at this
            unfold bitN at this
            rw [Nat.zero_div] at this
            omega
        · intro hall
          refine bits_0 (nJ pr) hand fun j hj => ?_
          rw [bitN_andN, hFb j, if_pos hj]
          by_cases hq : bitN i j = 0
          · rw [if_pos (Or.inl hq)]
          · have := bitN_le i j
            rw [if_pos (Or.inr (hall j hj (by omega)))]
      have hpop : popc (i ||| frN (lgN pr s) (nJ pr)) = sumN (vtN pr s i) (nJ pr) := by
        have e1 : sumN (bitN (i ||| frN (lgN pr s) (nJ pr))) (nJ pr + (5 - nJ pr)) = sumN (bitN (i ||| frN (lgN pr s) (nJ pr))) (nJ pr) := sumN_end (fun j hj => bit_hi horl hj) _
        rw [show nJ pr + (5 - nJ pr) = 5 by omega] at e1
        rw [popc_s, e1]
        refine sumN_cong _ fun j hj => ?_
        rw [bitN_orN, hFb j, if_pos hj]
        unfold vtN
        by_cases hq : bitN i j = 0 ∧ lgN pr s j = 0
        · rw [if_pos hq, if_pos ⟨hq.2, hq.1⟩]
        · rw [if_neg hq, if_neg fun z => hq ⟨z.2, z.1⟩]
      have pi := prN_le ho (i + 1)
      have pb := prN_le ho (fbN pr s i)
      rw [e_X7_cheapestJurors_9, hS.1, hP.2.2.2.1, nI_shl1 _ (by omega), tltP (by omega) (by omega) (by omega), nI_and, nI_or, teq0 (by omega), nI_add, v_isEnough hP ho hS.1 (by omega), tbI_v, hpop]
      by_cases ha : (i &&& frN (lgN pr s) (nJ pr)) = 0
      · rw [if_pos ha]
        by_cases he : 2 * sumN (vtN pr s i) (nJ pr) < nJ pr
        · rw [if_pos he, tn0]
          rw [fbN_0 fun z => z.1.2 he] at h2
          exact h2
        · have hfp : fP pr s i := ⟨h0.mp ha, he⟩
          rw [if_neg he, tn1]
          by_cases hb0 : fbN pr s i = 0
          · rw [hb0, hI_0, tif_pos rfl]
            rw [fbN_1 ⟨hfp, Or.inl hb0⟩, hI_pos (by omega)] at h2
            exact h2
          · rw [tif_neg (by rw [hI_pos hb0]; exact m1_ne (by omega)), show nI i = hI (i + 1) by rw [hI_pos (by omega)]; rfl, hS.1, v_priceOf hP ho (by omega), tbI_v, hS.1, v_priceOf hP ho (by omega), tbI_v, tltN (by omega) (by omega)]
            by_cases hlt : prN pr (i + 1) < prN pr (fbN pr s i)
            · rw [if_pos hlt]
              rw [fbN_1 ⟨hfp, Or.inr hlt⟩] at h2
              exact h2
            · rw [if_neg hlt]
              rw [fbN_0 (by rintro ⟨_, z | z⟩; exact hb0 z; exact hlt z)] at h2
              exact h2
      · rw [if_neg ha]
        rw [fbN_0 fun z => ha (h0.mpr z.1.1)] at h2
        exact h2
  exact key (2 ^ nJ pr) 0 (by omega)
theorem r_free {G : tH} {pr : mP} {s : mS} (hP : rP G pr) (ho : okP pr) (hS : rS (gA G 1124 0) 0 pr s) (hs : okS pr s) (m1 : s.1 10 0 ≠ 0) {v : Nat} (hv : v ≤ 1) : V_X11_free_28 (nI v) (-1) (nI 0) G = some (some (vI (if v = 0 then nI (prN pr (fbN pr s (2 ^ nJ pr))) else hI (fbN pr s (2 ^ nJ pr)))), G) := by
  have hJ := ho.2.2.2.1
  have h32 : 2 ^ nJ pr ≤ 32 := by have := Nat.pow_le_pow_right (show 0 < 2 by omega) hJ; omega
  have inner : ∀ b x n j a, j + n = nJ pr → x < 2 ^ nJ pr → a ≤ 1 → V_X11_free_65 (nI v) (hI b) (nI x) (nI a) (nI j) G = V_X11_free_65 (nI v) (hI b) (nI x) (bN (a = 1 ∧ ∀ i, j ≤ i → i < nJ pr → bitN x i = 1 → lgN pr s i = 0)) (nI (nJ pr)) G := by
    intro b x n
    induction n with
    | zero =>
      intro j a hj hx ha
      have : j = nJ pr := by omega
      subst this
      congr 1
      rcases (show a = 0 ∨ a = 1 by omega) with rfl | rfl
      · rw [bN_0 fun z => by have := z.1; omega]
      · rw [bN_1 ⟨rfl, fun i i1 i2 => by omega⟩]
    | succ n ih =>
      intro j a hj hx ha
      have hl := lgN_le pr s j
      have step : ∀ a', a' ≤ 1 → (a' = 1 ↔ (a = 1 ∧ (bitN x j = 1 → lgN pr s j = 0))) → V_X11_free_65 (nI v) (hI b) (nI x) (nI a') (nI (j + 1)) G = V_X11_free_65 (nI v) (hI b) (nI x) (bN (a = 1 ∧ ∀ i, j ≤ i → i < nJ pr → bitN x i = 1 → lgN pr s i = 0)) (nI (nJ pr)) G := by
        intro a' ha' hiff
        rw [ih (j + 1) a' (by omega) hx ha']
        congr 1
        by_cases hq : a' = 1 ∧ ∀ i, j + 1 ≤ i → i < nJ pr → bitN x i = 1 → lgN pr s i = 0
        · rw [bN_1 hq, bN_1]
          obtain ⟨z1, z2⟩ := hiff.mp hq.1
          refine ⟨z1, fun i i1 i2 i3 => ?_⟩
          by_cases hij : i = j
          · subst hij; exact z2 i3
          · exact hq.2 i (by omega) i2 i3
        · rw [bN_0 hq, bN_0]
          rintro ⟨z1, z2⟩
          exact hq ⟨hiff.mpr ⟨z1, z2 j (Nat.le_refl _) (by omega)⟩, fun i i1 i2 i3 => z2 i (by omega) i2 i3⟩
      rw [e_X11_free_65, r_jurors hP, tbI_v, tltP (by omega) (by omega) (by omega), nI_add, bit5 x (by omega) j (by omega), r_letsGo hP ho hS hs (by omega) m1 (by omega), tbI_v]
      rw [show x / 2 ^ j % 2 = bitN x j from rfl]
      have hb := bitN_le x j
      rcases (show a = 0 ∨ a = 1 by omega) with rfl | rfl
      · rw [tn0]
        exact step 0 (by omega) ⟨fun z => by omega, fun z => by omega⟩
      · rw [tn1]
        rcases (show bitN x j = 0 ∨ bitN x j = 1 by omega) with q | q
        · rw [q, tn0]
          exact step 1 (by omega) ⟨fun _ => ⟨rfl, fun z => by omega⟩, fun _ => rfl⟩
        · rw [q, tn1]
          rcases (show lgN pr s j = 0 ∨ lgN pr s j = 1 by omega) with w | w
          · rw [w, tn0]
            exact step 1 (by omega) ⟨fun _ => ⟨rfl, fun _ => w⟩, fun _ => rfl⟩
          · rw [w, tn1]
            exact step 0 (by omega) ⟨fun z => by omega, fun z => by have := z.2 q; omega⟩
  have key : ∀ n i, i + n = 2 ^ nJ pr → V_X11_free_28 (nI v) (hI (fbN pr s i)) (nI i) G = some (some (vI (if v = 0 then nI (prN pr (fbN pr s (2 ^ nJ pr))) else hI (fbN pr s (2 ^ nJ pr)))), G) := by
    intro n
    induction n with
    | zero =>
      intro i hi
      have : i = 2 ^ nJ pr := by omega
      have hfl := fbN_le pr s i
      rw [e_X11_free_28, r_jurors hP, tbI_v, nI_shl1 _ (by omega), tltM (by omega) (by omega) (by omega), teq0 (by omega), r_pricesOf hP ho (by omega), tbI_v, this]
      by_cases hq : v = 0
      · rw [if_pos hq, if_pos hq]
      · rw [if_neg hq, if_neg hq]
    | succ n ih =>
      intro i hi
      have h2 := ih (i + 1) (by omega)
      have hfl := fbN_le pr s i
      have pi := prN_le ho (i + 1)
      have pb := prN_le ho (fbN pr s i)
      have e65 : ∀ a, a ≤ 1 → (a = 1 ↔ (fbN pr s i = 0 ∨ prN pr (i + 1) < prN pr (fbN pr s i))) → V_X11_free_65 (nI v) (hI (fbN pr s i)) (nI i) (nI a) (nI 0) G = some (some (vI (if v = 0 then nI (prN pr (fbN pr s (2 ^ nJ pr))) else hI (fbN pr s (2 ^ nJ pr)))), G) := by
        intro a ha hiff
        rw [inner (fbN pr s i) i (nJ pr) 0 a (by omega) (by omega) ha, e_X11_free_65, r_jurors hP, tbI_v, tltM (by omega) (by omega) (by omega), nI_add, r_isFree hP ho hS hs (by omega) m1 (by omega), tbI_v]
        by_cases hq : a = 1 ∧ ∀ j, 0 ≤ j → j < nJ pr → bitN i j = 1 → lgN pr s j = 0
        · rw [bN_1 hq, tn1]
          by_cases he : 2 * sumN (vtN pr s i) (nJ pr) < nJ pr
          · rw [if_pos he, tn0]
            rw [fbN_0 fun z => z.1.2 he] at h2
            exact h2
          · rw [if_neg he, tn1]
            rw [fbN_1 ⟨⟨fun j hj => hq.2 j (Nat.zero_le _) hj, he⟩, hiff.mp hq.1⟩, hI_pos (by omega)] at h2
            exact h2
        · rw [bN_0 hq, tn0]
          rw [fbN_0 fun z => hq ⟨hiff.mpr z.2, fun j _ hj => z.1.1 j hj⟩] at h2
          exact h2
      rw [e_X11_free_28, r_jurors hP, tbI_v, nI_shl1 _ (by omega), tltP (by omega) (by omega) (by omega)]
      by_cases hb0 : fbN pr s i = 0
      · rw [tif_pos (by rw [hb0]; decide +kernel)]
        exact e65 1 (by omega) ⟨fun _ => Or.inl hb0, fun _ => rfl⟩
      · rw [tif_neg (by rw [hI_pos hb0]; exact nI_pos (by omega)), show V_X11_pricesOf (nI i) G = V_X11_pricesOf (hI (i + 1)) G by rw [hI_pos (by omega)]; rfl, r_pricesOf hP ho (by omega), tbI_v, r_pricesOf hP ho (by omega), tbI_v, tltN (by omega) (by omega)]
        by_cases hlt : prN pr (i + 1) < prN pr (fbN pr s i)
        · rw [if_pos hlt]
          exact e65 1 (by omega) ⟨fun _ => Or.inr hlt, fun _ => rfl⟩
        · rw [if_neg hlt]
          exact e65 0 (by omega) ⟨fun z => by omega, fun z => by rcases z with z | z; exact absurd z hb0; exact absurd z hlt⟩
  exact key (2 ^ nJ pr) 0 (by omega)
theorem p_free (x1 : Int32) {G : tH} (h : INV G) : PAIR (V_X10_free x1) (V_X11_free x1) G := by
  obtain ⟨p, fr, q, pr, lw, σ, τ, ν, L, tx, nm, hM, hN, hC, hR⟩ := id h
  obtain ⟨ho, hs, hu, _⟩ := id hM
  obtain ⟨c1, c2, c3, hP, c5, c6, hS, _⟩ := hC.1
  have hR0 := hR.1.thr (nI 0)
  have hJ := ho.2.2.2.1
  have h32 : 2 ^ nJ pr ≤ 32 := by have := Nat.pow_le_pow_right (show 0 < 2 by omega) hJ; omega
  have hfl := fbN_le pr (σ 0) (2 ^ nJ pr)
  rcases within_c (a := 0) (b := 1) x1 (by omega) (by omega) with ⟨k, _, hk, rfl, hw⟩ | ⟨hno, hw⟩
  · by_cases m1 : (σ 0).1 10 0 = 0
    · refine PAIR.read h (r := -1) ?_ ?_
      · rw [e_X10_free, tlt0 (by omega), tltM (by omega) (by omega) hk, v_isHeld hP hS ho hs, if_pos m1, tbI_v, tn0]
      · rw [e_X11_free]
        dsimp only
        rw [r_win (by omega) (by omega) hk, tbI_v, tn1, r_isHeld hR0.2.2.2.1 (by omega) ho hs, if_pos m1, tbI_v, tn0]
    · refine PAIR.read h (r := if k = 0 then nI (prN pr (fbN pr (σ 0) (2 ^ nJ pr))) else hI (fbN pr (σ 0) (2 ^ nJ pr))) ?_ ?_
      · rw [e_X10_free, tlt0 (by omega), tltM (by omega) (by omega) hk, v_isHeld hP hS ho hs, if_neg m1, tbI_v, tn1, v_cheapest hP ho hS hs m1, tbI_v, teq0 (by omega), c2, v_priceOf hP ho (by omega), tbI_v]
        by_cases hq : k = 0
        · rw [if_pos hq, if_pos hq]
        · rw [if_neg hq, if_neg hq]
      · rw [e_X11_free]
        dsimp only
        rw [r_win (by omega) (by omega) hk, tbI_v, tn1, r_isHeld hR0.2.2.2.1 (by omega) ho hs, if_neg m1, tbI_v, tn1, r_free hR0.1 ho hR0.2.2.2.1 hs m1 hk]
  · refine PAIR.read h (r := -1) ?_ ?_
    · rw [e_X10_free]
      by_cases h1 : x1 < 0
      · rw [tif_pos h1]
      · obtain ⟨k, hk, rfl⟩ := nI_of h1
        rw [tif_neg h1, tltP (by omega) hk (Nat.lt_of_not_le fun q => hno ⟨k, by omega, q, rfl⟩)]
    · rw [e_X11_free]
      dsimp only
      rw [r_within, hw, tbI_v, tn0]
/-! agree -/
def moN (f : Nat → Nat) (c e : Nat) : Nat → Nat
  | 0 => 0
  | n + 1 => if n = c ∨ n = e then moN f c e n else max (moN f c e n) (f n)
theorem moN_le (f : Nat → Nat) (c e : Nat) : ∀ n, (∀ i, i < n → f i ≤ 9999) → moN f c e n ≤ 9999
  | 0, _ => Nat.zero_le _
  | n + 1, h => by
    have h1 := moN_le f c e n fun i hi => h i (by omega)
    have h2 := h n (by omega)
    unfold moN
    split <;> omega
def agN (pr : mP) (s : mS) (c e : Nat) : Nat := if topN (s.1 7) (nC pr) = 0 then 0 else if tpI pr s ≠ c ∧ tpI pr s ≠ e then 0 else if pr 2 (tpI pr s) = 1 then 0 else s.1 7 (tpI pr s) - moN (s.1 7) c e (nC pr) - 1
theorem cut1 {a b : Nat} (ha : a < 2 ^ 29) (hb : b < 2 ^ 29) : (if nI 0 < nI a - nI b - nI 1 then nI a - nI b - nI 1 else nI 0) = nI (a - b - 1) := by
  rw [Int32.sub_sub, nI_add, nI_subcut (by omega) (by omega)]
  congr 1
theorem cut2 {a b : Nat} {G : tH} (ha : a < 2 ^ 29) (hb : b < 2 ^ 29) : tif (nI a - nI b - nI 1 < 0) (some (some (vI (nI 0)), G)) (some (some (vI (nI a - nI b - nI 1)), G)) = some (some (vI (nI (a - b - 1))), G) := by
  rw [Int32.sub_sub, nI_add]
  by_cases h : b + 1 ≤ a
  · rw [nI_sub h, tlt0 (by omega)]
    rfl
  · rw [tif_pos (pk_sneg (by omega) (by omega)), show a - b - 1 = 0 by omega]
theorem p_agree (x1 x2 : Int32) {G : tH} (h : INV G) : PAIR (V_X10_agree x1 x2) (V_X11_agree x1 x2) G := by
  obtain ⟨p, fr, q, pr, lw, σ, τ, ν, L, tx, nm, hM, hN, hC, hR⟩ := id h
  obtain ⟨ho, hs, hu, _⟩ := id hM
  obtain ⟨c1, c2, c3, hP, c5, c6, hS, _⟩ := hC.1
  have hR0 := hR.1.thr (nI 0)
  have hC5 := ho.2.1
  have hle := topN_le ((σ 0).1 7) (nC pr)
  rcases has_cases (x := x1) (n := nC pr) (by omega) with ⟨c, hc, rfl, hz⟩ | ⟨hno, hz⟩
  · rcases has_cases (x := x2) (n := nC pr) (by omega) with ⟨e, he, rfl, hz2⟩ | ⟨hno, hz2⟩
    · by_cases hce : c = e
      · refine PAIR.read h (r := -1) ?_ ?_
        · rw [e_X10_agree, c2, v_has, hP.2.1, hz, tbI_v, tn1, c2, v_has, hP.2.1, hz2, tbI_v, tn1, teqP hce]
        · rw [e_X11_agree]
          dsimp only
          rw [r_isC hR0.1 ho hc, tbI_v, tn1, r_isC hR0.1 ho he, tbI_v, tn1, teqP hce]
      · by_cases m1 : (σ 0).1 10 0 = 0
        · have hmo := moN_le ((σ 0).1 7) c e (nC pr) fun i hi => hs.2.1 i hi
          have hR4 := hR0.2.2.2.1
          refine PAIR.read h (r := nI (agN pr (σ 0) c e)) ?_ ?_
          · rw [e_X10_agree, c2, v_has, hP.2.1, hz, tbI_v, tn1, c2, v_has, hP.2.1, hz2, tbI_v, tn1, teqM (by omega) (by omega) hce, v_isHeld hP hS ho hs, if_pos m1, tbI_v, tn0, e_X7_savedBy, v_topBidder hP ho hS hs, tbI_v]
            unfold agN
            by_cases ht0 : topN ((σ 0).1 7) (nC pr) = 0
            · rw [if_pos ht0, ht0, hI_0, tif_pos rfl, tbI_v]
            · have htp : tpI pr (σ 0) < nC pr := by unfold tpI; omega
              have hkd := (ho.2.2.2.2.2.2.2.1 _ htp).1
              have hb := hs.2.1 _ htp
              have e41 : ∀ n i, i + n = nC pr → V_X7_savedBy_41 0 (nI c) (nI e) (nI (tpI pr (σ 0))) (nI (moN ((σ 0).1 7) c e i)) (nI i) G = some (some (vI (nI ((σ 0).1 7 (tpI pr (σ 0)) - moN ((σ 0).1 7) c e (nC pr) - 1))), G) := by
                intro n
                induction n with
                | zero =>
                  intro i hi
                  have : i = nC pr := by omega
                  subst this
                  rw [e_X7_savedBy_41, hS.1, hP.2.1, tltM (by omega) (by omega) (by omega), ttin (by omega) (by omega), nI_clamp (by omega), (hS.2.2.1 _ htp).2, cut1 (by omega) (by omega)]
                | succ n ih =>
                  intro i hi
                  have h2 := ih (i + 1) (by omega)
                  have hmi := moN_le ((σ 0).1 7) c e i fun j hj => hs.2.1 j (by omega)
                  have hbi := hs.2.1 i (by omega)
                  rw [moN] at h2
                  rw [e_X7_savedBy_41, hS.1, hP.2.1, tltP (by omega) (by omega) (by omega), teqN (by omega) (by omega), teqN (by omega) (by omega), ttin (by omega) (by omega), nI_clamp (by omega), (hS.2.2.1 i (by omega)).2, max_I (by omega) (by omega), nI_add]
                  by_cases q1 : i = c
                  · rw [if_pos q1]; rw [if_pos (Or.inl q1)] at h2; exact h2
                  · rw [if_neg q1]
                    by_cases q2 : i = e
                    · rw [if_pos q2]; rw [if_pos (Or.inr q2)] at h2; exact h2
                    · rw [if_neg q2]; rw [if_neg (by rintro (z | z); exact q1 z; exact q2 z)] at h2; exact h2
              have e20 : V_X7_savedBy_20 0 (nI c) (nI e) (nI (tpI pr (σ 0))) G = some (some (vI (nI (if pr 2 (tpI pr (σ 0)) = 1 then 0 else (σ 0).1 7 (tpI pr (σ 0)) - moN ((σ 0).1 7) c e (nC pr) - 1))), G) := by
                rw [e_X7_savedBy_20, ttin (by omega) (by omega), nI_clamp (by omega), hS.1, (hP.2.2.2.2.2.2.2.1 _ htp).1, teqN (by omega) (by omega)]
                by_cases q1 : pr 2 (tpI pr (σ 0)) = 1
                · rw [if_pos q1, if_pos q1]
                · rw [if_neg q1, if_neg q1]
                  exact e41 (nC pr) 0 (by omega)
              rw [if_neg ht0, hI_pos ht0, show topN ((σ 0).1 7) (nC pr) - 1 = tpI pr (σ 0) from rfl, teqm1 (by omega), teqN (by omega) (by omega), teqN (by omega) (by omega), e20]
              by_cases q1 : tpI pr (σ 0) = c
              · rw [if_pos q1, if_neg (show ¬ (tpI pr (σ 0) ≠ c ∧ tpI pr (σ 0) ≠ e) from fun z => z.1 q1), tbI_v]
              · rw [if_neg q1]
                by_cases q2 : tpI pr (σ 0) = e
                · rw [if_pos q2, if_neg (show ¬ (tpI pr (σ 0) ≠ c ∧ tpI pr (σ 0) ≠ e) from fun z => z.2 q2), tbI_v]
                · rw [if_neg q2, if_pos ⟨q1, q2⟩, tbI_v]
          · rw [e_X11_agree]
            dsimp only
            rw [r_isC hR0.1 ho hc, tbI_v, tn1, r_isC hR0.1 ho he, tbI_v, tn1, teqM (by omega) (by omega) hce, r_isHeld hR4 (by omega) ho hs, if_pos m1, tbI_v, tn0, r_highest hR0.1 ho hR4 hs (by omega), tbI_v]
            unfold agN
            by_cases ht0 : topN ((σ 0).1 7) (nC pr) = 0
            · rw [if_pos ht0, ht0, hI_0, tif_neg fun z => m1_ne (by omega) z.symm, tif_neg fun z => m1_ne (by omega) z.symm]
            · have htp : tpI pr (σ 0) < nC pr := by unfold tpI; omega
              have hkd := (ho.2.2.2.2.2.2.2.1 _ htp).1
              have hb := hs.2.1 _ htp
              have gb : ∀ i, i < nC pr → gA (sI G 1100 0 (nI 0)) 1124 0 (46 + i) = nI ((σ 0).1 7 i) := fun i hi => by
                have := (hR4.2.2.2.2.2.2.1 i hi).2
                rw [Nat.zero_add] at this
                exact this
              have e69 : ∀ n i, i + n = nC pr → V_X11_agree_69 (nI c) (nI e) (nI (tpI pr (σ 0))) (nI (moN ((σ 0).1 7) c e i)) (nI i) (sI G 1100 0 (nI 0)) = some (some (vI (nI ((σ 0).1 7 (tpI pr (σ 0)) - moN ((σ 0).1 7) c e (nC pr) - 1))), sI G 1100 0 (nI 0)) := by
                intro n
                induction n with
                | zero =>
                  intro i hi
                  have : i = nC pr := by omega
                  subst this
                  rw [e_X11_agree_69, r_companies hR0.1, tbI_v, tltM (by omega) (by omega) (by omega)]
                  simp (disch := omega) only [nI_add, ttin, nI_clamp, gb _ htp]
                  exact cut2 (by omega) (by omega)
                | succ n ih =>
                  intro i hi
                  have h2 := ih (i + 1) (by omega)
                  have hmi := moN_le ((σ 0).1 7) c e i fun j hj => hs.2.1 j (by omega)
                  have hbi := hs.2.1 i (by omega)
                  rw [moN] at h2
                  rw [e_X11_agree_69, r_companies hR0.1, tbI_v, tltP (by omega) (by omega) (by omega)]
                  simp (disch := omega) only [nI_add, ttin, nI_clamp, gb i (by omega), teqN, tltN]
                  by_cases q1 : i = c
                  · rw [if_pos q1]; rw [if_pos (Or.inl q1)] at h2; exact h2
                  · rw [if_neg q1]
                    by_cases q2 : i = e
                    · rw [if_pos q2]; rw [if_pos (Or.inr q2)] at h2; exact h2
                    · rw [if_neg q2]
                      rw [if_neg (by rintro (z | z); exact q1 z; exact q2 z)] at h2
                      by_cases q3 : moN ((σ 0).1 7) c e i < (σ 0).1 7 i
                      · rw [if_pos q3]
                        rw [show max (moN ((σ 0).1 7) c e i) ((σ 0).1 7 i) = (σ 0).1 7 i by omega] at h2
                        exact h2
                      · rw [if_neg q3]
                        rw [show max (moN ((σ 0).1 7) c e i) ((σ 0).1 7 i) = moN ((σ 0).1 7) c e i by omega] at h2
                        exact h2
              have e52 : V_X11_agree_52 (nI c) (nI e) (nI (tpI pr (σ 0))) (sI G 1100 0 (nI 0)) = some (some (vI (nI (if pr 2 (tpI pr (σ 0)) = 1 then 0 else (σ 0).1 7 (tpI pr (σ 0)) - moN ((σ 0).1 7) c e (nC pr) - 1))), sI G 1100 0 (nI 0)) := by
                rw [e_X11_agree_52, r_sortOf hR0.1 ho htp, tbI_v, teqN (by omega) (by omega)]
                by_cases q1 : pr 2 (tpI pr (σ 0)) = 1
                · rw [if_pos q1, if_pos q1]
                · rw [if_neg q1, if_neg q1]
                  exact e69 (nC pr) 0 (by omega)
              rw [if_neg ht0, hI_pos ht0, show topN ((σ 0).1 7) (nC pr) - 1 = tpI pr (σ 0) from rfl, teqN (by omega) (by omega), teqN (by omega) (by omega), e52]
              by_cases q1 : tpI pr (σ 0) = c
              · rw [if_pos q1, if_neg (show ¬ (tpI pr (σ 0) ≠ c ∧ tpI pr (σ 0) ≠ e) from fun z => z.1 q1)]
              · rw [if_neg q1]
                by_cases q2 : tpI pr (σ 0) = e
                · rw [if_pos q2, if_neg (show ¬ (tpI pr (σ 0) ≠ c ∧ tpI pr (σ 0) ≠ e) from fun z => z.2 q2)]
                · rw [if_neg q2, if_pos ⟨q1, q2⟩]
        · refine PAIR.read h (r := -1) ?_ ?_
          · rw [e_X10_agree, c2, v_has, hP.2.1, hz, tbI_v, tn1, c2, v_has, hP.2.1, hz2, tbI_v, tn1, teqM (by omega) (by omega) hce, v_isHeld hP hS ho hs, if_neg m1, tbI_v, tn1]
          · rw [e_X11_agree]
            dsimp only
            rw [r_isC hR0.1 ho hc, tbI_v, tn1, r_isC hR0.1 ho he, tbI_v, tn1, teqM (by omega) (by omega) hce, r_isHeld hR0.2.2.2.1 (by omega) ho hs, if_neg m1, tbI_v, tn1]
    · refine PAIR.read h (r := -1) ?_ ?_
      · rw [e_X10_agree, c2, v_has, hP.2.1, hz, tbI_v, tn1, c2, v_has, hP.2.1, hz2, tbI_v, tn0]
      · rw [e_X11_agree]
        dsimp only
        rw [r_isC hR0.1 ho hc, tbI_v, tn1, r_isCompany _ hR0.1, hz2, tbI_v, tn0]
  · refine PAIR.read h (r := -1) ?_ ?_
    · rw [e_X10_agree, c2, v_has, hP.2.1, hz, tbI_v, tn0]
    · rw [e_X11_agree]
      dsimp only
      rw [r_isCompany _ hR0.1, hz, tbI_v, tn0]
