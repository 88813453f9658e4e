/-! PURE: rate, gather -/
/-- a town's year: means and what is left of the crop, when x of it is taken at once -/
def tkM (pr : mP) (t h : Nat) (k : Nat → Nat) (m c : Nat) : Nat := mwN m c - hmN pr t (k (crN pr t (mwN m c) h) - tthN pr (crN pr t (mwN m c) h))
def tkC (pr : mP) (t h : Nat) (k : Nat → Nat) (m c : Nat) : Nat := crN pr t (mwN m c) h - k (crN pr t (mwN m c) h)
theorem mwN_le (m c : Nat) : mwN m c ≤ 9999 := by unfold mwN; omega
theorem tkM_le (pr : mP) (t h : Nat) (k : Nat → Nat) (m c : Nat) : tkM pr t h k m c ≤ 9999 := by have := mwN_le m c; unfold tkM; omega
theorem tkC_le (pr : mP) (t h : Nat) (k : Nat → Nat) (m c : Nat) : tkC pr t h k m c ≤ 9999 := by have := crN_le pr t (mwN m c) h; unfold tkC; omega
def cG (G : tH) (p t h : Nat) : Prop := gR G 100 0 = p ∧ gI G 101 0 = nI t ∧ gI G 102 0 = nI h
theorem v_meansLeft {G : tH} {p t h m g a : Nat} {pr : mP} (hP : cP G p pr) (ho : okP pr) (hG : cG G p t h) (ht : t < nT pr) (hm : m ≤ 9999) (hg : g ≤ 9999) (ha : a ≤ 9999) : V_X1_meansLeft (nI m) (nI g) (nI a) G = some (some (vI (nI (m - hmN pr t (a - tthN pr g)))), G) := by
  have htt := tthN_le ho hg
  rw [e_X1_meansLeft, hG.1, v_titheOf hP ho hg, tbI_v, hG.2.1, nI_subcut (by omega) (by omega), v_meansBehind hP ho ht hm (by omega), tbI_v]
theorem r_left {G : tH} {t m g a : Nat} {pr : mP} (hP : rP G pr) (ho : okP pr) (ht : t < nT pr) (hm : m ≤ 9999) (hg : g ≤ 9999) (ha : a ≤ 9999) (K : Int32 → tH → Option tRes) : tbI (V_X11_titheOf (nI g) G) (fun r_6 G_5 => tbI (V_X11_over (nI a) r_6 G_5) (fun r_8 G_7 => tbI (V_X11_lostBy (nI t) r_8 G_7) (fun r_10 G_9 => tbI (V_X11_atMost (nI m - r_10) G_9) K))) = K (nI (m - hmN pr t (a - tthN pr g))) G := by
  have htt := tthN_le ho hg
  have hl := hmN_le pr t (a - tthN pr g)
  rw [r_titheOf hP ho hg, tbI_v, r_over (by omega) (by omega), tbI_v, r_lostBy hP ho ht (by omega), tbI_v, r_atMost, tbI_v, cl_sub (by omega) (by omega), Nat.min_eq_right (by omega)]
def rtM (pr : mP) (t h r : Nat) : Nat → Nat → Nat → Nat
  | 0, m, _ => m
  | n + 1, m, c => rtM pr t h r n (tkM pr t h (fun g => g * r / 100) m c) (tkC pr t h (fun g => g * r / 100) m c)
theorem pct {g r : Nat} (hg : g ≤ 9999) (hr : r ≤ 100) : g * r < 2 ^ 31 ∧ g * r / 100 ≤ g := by
  have h1 := Nat.mul_le_mul hg hr
  have h2 := Nat.mul_le_mul_left g hr
  exact ⟨by omega, by omega⟩
theorem v_meansByRate {G : tH} {p t h r : Nat} {pr : mP} (hP : cP G p pr) (ho : okP pr) (hG : cG G p t h) (ht : t < nT pr) (hh : h < nH pr) (hr : r ≤ 100) (Y : Nat) (hY : Y ≤ 20) : ∀ n i m c, i + n = Y → m ≤ 9999 → c ≤ 9999 → V_X1_meansByRate_10 (nI r) (nI Y) (nI m) (nI c) (nI i) G = some (some (vI (nI (rtM pr t h r n m c))), G) := by
  intro n
  induction n with
  | zero =>
    intro i m c hi hm hc
    rw [e_X1_meansByRate_10, tltM (by omega) (by omega) (by omega)]
    rfl
  | succ n ih =>
    intro i m c hi hm hc
    have hcr := crN_le pr t (mwN m c) h
    obtain ⟨q1, q2⟩ := pct hcr hr
    rw [e_X1_meansByRate_10, tltP (by omega) (by omega) (by omega), hG.1, v_meansWith hm hc, tbI_v, hG.1, hG.2.1, hG.2.2, v_cropOf hP ho ht (mwN_le m c) hh, tbI_v, tn100, pk_mul, pk_div q1 (by omega) (by omega), v_meansLeft hP ho hG ht (mwN_le m c) hcr (by omega), tbI_v, nI_sub q2, nI_add]
    exact ih (i + 1) _ _ (by omega) (tkM_le pr t h (fun g => g * r / 100) m c) (tkC_le pr t h (fun g => g * r / 100) m c)
theorem r_meansBy {G : tH} {t h r : Nat} {pr : mP} (hP : rP G pr) (ho : okP pr) (ht : t < nT pr) (hh : h < nH pr) (hr : r ≤ 100) (Y : Nat) (hY : Y ≤ 20) : ∀ n i m c, i + n = Y → m ≤ 9999 → c ≤ 9999 → V_X11_meansBy_24 (nI t) (nI h) (nI Y) (nI r) (nI m) (nI c) (nI i) G = some (some (vI (nI (rtM pr t h r n m c))), G) := by
  intro n
  induction n with
  | zero =>
    intro i m c hi hm hc
    rw [e_X11_meansBy_24, tltM (by omega) (by omega) (by omega)]
    rfl
  | succ n ih =>
    intro i m c hi hm hc
    have hcr := crN_le pr t (mwN m c) h
    obtain ⟨q1, q2⟩ := pct hcr hr
    rw [e_X11_meansBy_24, tltP (by omega) (by omega) (by omega), tn2, pk_div (by omega) (by omega) (by omega), nI_add, r_atMost, cl_nI (by omega), tbI_v, show min 9999 (m + c / 2) = mwN m c from rfl, r_cropOf hP ho ht (mwN_le m c) hh, tbI_v, tn100, pk_mul, Nat.mul_comm r, pk_div q1 (by omega) (by omega)]
    rw [r_left hP ho ht (mwN_le m c) hcr (by omega), nI_sub q2, nI_add]
    exact ih (i + 1) _ _ (by omega) (tkM_le pr t h (fun g => g * r / 100) m c) (tkC_le pr t h (fun g => g * r / 100) m c)
def rtN (f : Nat → Nat) (m : Nat) : Nat → Nat
  | 0 => 0
  | n + 1 => if f (n + 1) < m then rtN f m n else n + 1
theorem rtM_le (pr : mP) (t h r : Nat) : ∀ n m c, m ≤ 9999 → rtM pr t h r n m c ≤ 9999
  | 0, m, _, hm => hm
  | n + 1, m, c, _ => rtM_le pr t h r n _ _ (tkM_le _ _ _ _ _ _)
theorem p_rate (x1 x2 x3 : Int32) {G : tH} (h : INV G) : PAIR (V_X10_rate x1 x2 x3) (V_X11_rate x1 x2 x3) G := by
  obtain ⟨p, fr, q, pr, lw, σ, τ, ν, L, tx, nm, hM, hN, hC, hR⟩ := id h
  obtain ⟨ho, hs, hu, _⟩ := id hM
  obtain ⟨c1, c2, c3, hP, c5, c6, hS, _⟩ := hC.1
  have hR0 := hR.1.thr (nI 0)
  have hT := ho.1
  have hH := ho.2.2.1
  rcases has_cases (x := x1) (n := nT pr) (by omega) with ⟨t, ht, rfl, hz⟩ | ⟨hno, hz⟩
  · rcases has_cases (x := x2) (n := nH pr) (by omega) with ⟨hv, hh, rfl, hz2⟩ | ⟨hno, hz2⟩
    · rcases within_c (a := 1) (b := 20) x3 (by omega) (by omega) with ⟨Y, y1, y2, rfl, hw⟩ | ⟨hno, hw⟩
      · obtain ⟨b1, b2, b3, b4⟩ := hs.1 t ht
        have hbc : (σ 0).1 2 t ≤ 9999 := by omega
        obtain ⟨k1, k2, k3, k4, k5⟩ := hS.2.1 t ht
        obtain ⟨Ga, hGa⟩ : ∃ g, g = sI (sI (sR G 100 0 p) 101 0 (nI t)) 102 0 (nI hv) := ⟨_, rfl⟩
        have fa : tfr (fun f _ => 100 ≤ f ∧ f < 200) G Ga := by rw [hGa]; exact tfrI (tfrI (tfrR tfr.rf (by omega)) (by omega)) (by omega)
        have hPa := hP.kept fa fun f o z => by omega
        have ga : cG Ga p t hv := by
          rw [hGa]
          refine ⟨?_, ?_, gI_eq⟩
          · simp only [gR_sI, gR_eq]
          · simp (disch := omega) only [gI_ne, gI_eq]
        have a1 : gA Ga 701 0 t = nI ((σ 0).1 1 t) := by rw [(fa 701 0 (by omega)).2.2.2.1]; exact k1
        have a2 : gA Ga 702 0 t = nI ((σ 0).1 2 t) := by rw [(fa 702 0 (by omega)).2.2.2.1]; exact k2
        have key : ∀ r, r ≤ 100 → V_X1_highestRate_22 0 (nI t) (nI Y) (nI r) Ga = some (some (vI (nI (rtN (fun r => rtM pr t hv r Y ((σ 0).1 1 t) ((σ 0).1 2 t)) ((σ 0).1 1 t) r))), Ga) := by
          intro r
          induction r with
          | zero =>
            intro _
            rw [e_X1_highestRate_22, tl0M rfl]
            rfl
          | succ r ih =>
            intro hr
            have hm := rtM_le pr t hv (r + 1) Y ((σ 0).1 1 t) ((σ 0).1 2 t) b1
            rw [e_X1_highestRate_22, tl0P (by omega) (by omega)]
            simp (disch := omega) only [ttin, nI_clamp, a1, a2]
            rw [e_X1_meansByRate, v_meansByRate hPa ho ga ht hh hr Y y2 Y 0 _ _ (by omega) b1 hbc, tbI_v, a1, tltN (by omega) (by omega), pk_m1]
            show (if rtM pr t hv (r + 1) Y ((σ 0).1 1 t) ((σ 0).1 2 t) < (σ 0).1 1 t then _ else _) = some (some (vI (nI (if rtM pr t hv (r + 1) Y ((σ 0).1 1 t) ((σ 0).1 2 t) < (σ 0).1 1 t then _ else r + 1))), Ga)
            by_cases hq : rtM pr t hv (r + 1) Y ((σ 0).1 1 t) ((σ 0).1 2 t) < (σ 0).1 1 t
            · rw [if_pos hq, if_pos hq]; exact ih (by omega)
            · rw [if_neg hq, if_neg hq]
        refine PAIR.scr (r := nI (rtN (fun r => rtM pr t hv r Y ((σ 0).1 1 t) ((σ 0).1 2 t)) ((σ 0).1 1 t) 100)) hM hN hC hR (G1 := Ga) ?_ (fa.mono fun f o z => by unfold zV; omega) fun hR1 => ?_
        · rw [e_X10_rate, c2, v_has, hP.1, hz, tbI_v, tn1, c2, v_has, hP.2.2.1, hz2, tbI_v, tn1, tltM (by omega) (by omega) (by omega), tltM (by omega) (by omega) (by omega), e_X1_highestRate, hS.1]
          dsimp only
          rw [← hGa, key 100 (by omega), tbI_v]
        · have hR2 := hR1.1.thr (nI 0)
          obtain ⟨g1, g2, g3, g4, g5, g6⟩ := hR2.2.2.2.1.2.2.2.2.2.1 t ht
          simp only [Nat.zero_add] at g1 g2
          have key2 : ∀ r, r ≤ 100 → V_X11_rate_37 (nI t) (nI hv) (nI Y) (nI r) (sI Ga 1100 0 (nI 0)) = some (some (vI (nI (rtN (fun r => rtM pr t hv r Y ((σ 0).1 1 t) ((σ 0).1 2 t)) ((σ 0).1 1 t) r))), sI Ga 1100 0 (nI 0)) := by
            intro r
            induction r with
            | zero =>
              intro _
              rw [e_X11_rate_37, tl0M rfl]
              rfl
            | succ r ih =>
              intro hr
              have hm := rtM_le pr t hv (r + 1) Y ((σ 0).1 1 t) ((σ 0).1 2 t) b1
              rw [e_X11_rate_37, tl0P (by omega) (by omega), e_X11_meansBy]
              simp (disch := omega) only [ttin, nI_clamp, nI_add, g1, g2]
              rw [r_meansBy hR2.1 ho ht hh hr Y y2 Y 0 _ _ (by omega) b1 hbc, tbI_v]
              simp (disch := omega) only [g1]
              rw [tltN (by omega) (by omega), pk_m1]
              show (if rtM pr t hv (r + 1) Y ((σ 0).1 1 t) ((σ 0).1 2 t) < (σ 0).1 1 t then _ else _) = some (some (vI (nI (if rtM pr t hv (r + 1) Y ((σ 0).1 1 t) ((σ 0).1 2 t) < (σ 0).1 1 t then _ else r + 1))), sI Ga 1100 0 (nI 0))
              by_cases hq : rtM pr t hv (r + 1) Y ((σ 0).1 1 t) ((σ 0).1 2 t) < (σ 0).1 1 t
              · rw [if_pos hq, if_pos hq]; exact ih (by omega)
              · rw [if_neg hq, if_neg hq]
          refine ⟨sI Ga 1100 0 (nI 0), ?_, tfr.sI (by unfold zX; omega), fun _ _ => rfl⟩
          rw [e_X11_rate]
          dsimp only
          rw [r_isT hR2.1 ho ht, tbI_v, tn1, r_isH hR2.1 ho hh, tbI_v, tn1, r_win (by omega) y1 y2, tbI_v, tn1, key2 100 (by omega)]
      · refine PAIR.read h (r := -1) ?_ ?_
        · rw [e_X10_rate, c2, v_has, hP.1, hz, tbI_v, tn1, c2, v_has, hP.2.2.1, hz2, tbI_v, tn1]
          by_cases h1 : x3 < nI 1
          · rw [tif_pos h1]
          · rw [tif_neg h1]
            by_cases h2 : nI 20 < x3
            · rw [tif_pos h2]
            · exfalso
              rw [if_neg h1, if_neg h2] at hw
              exact absurd hw (by decide +kernel)
        · rw [e_X11_rate]
          dsimp only
          rw [r_isT hR0.1 ho ht, tbI_v, tn1, r_isH hR0.1 ho hh, tbI_v, tn1, r_within, hw, tbI_v, tn0]
    · refine PAIR.read h (r := -1) ?_ ?_
      · rw [e_X10_rate, c2, v_has, hP.1, hz, tbI_v, tn1, c2, v_has, hP.2.2.1, hz2, tbI_v, tn0]
      · rw [e_X11_rate]
        dsimp only
        rw [r_isT hR0.1 ho ht, tbI_v, tn1, r_isHarvest _ hR0.1, hz2, tbI_v, tn0]
  · refine PAIR.read h (r := -1) ?_ ?_
    · rw [e_X10_rate, c2, v_has, hP.1, hz, tbI_v, tn0]
    · rw [e_X11_rate]
      dsimp only
      rw [r_isTown _ hR0.1, hz, tbI_v, tn0]
/-! gather -/
abbrev gSt : Type := Nat × Nat × (Nat → Int32)
def gLf (m c : Nat) (r : Nat → Int32) (s : gSt) : gSt := if s.1 < c + 1 ∨ (c + 1 = s.1 ∧ s.2.1 < m + 1) then (c + 1, m + 1, r) else s
def itN {α : Type} (f : Nat → α → α) : Nat → α → α
  | 0, s => s
  | n + 1, s => f n (itN f n s)
def gF (pr : mP) (t h : Nat) : Nat → Nat → Nat → Nat → Nat → (Nat → Int32) → gSt → gSt
  | 0, _, m, _, k, r, s => gLf m k r s
  | y + 1, n, m, c, k, r, s => itN (fun q s => gF pr t h y (n + 1) (tkM pr t h (fun g => g * q / 4) m c) (tkC pr t h (fun g => g * q / 4) m c) (k + crN pr t (mwN m c) h * q / 4) (upd r n (nI q)) s) 5 s
def gOk (s : gSt) : Prop := s.1 ≤ 60000 ∧ s.2.1 ≤ 10000
theorem qtr {g q : Nat} (hg : g ≤ 9999) (hq : q ≤ 4) : g * q < 2 ^ 31 ∧ g * q / 4 ≤ g := by
  have h1 := Nat.mul_le_mul hg hq
  have h2 := Nat.mul_le_mul_left g hq
  exact ⟨by omega, by omega⟩
theorem gLf_ok {m c : Nat} {r : Nat → Int32} {s : gSt} (hm : m ≤ 9999) (hc : c ≤ 50000) (h : gOk s) : gOk (gLf m c r s) := by
  unfold gLf
  split
  · exact ⟨by show c + 1 ≤ _; omega, by show m + 1 ≤ _; omega⟩
  · exact h
theorem tltHH {a b : Nat} {x y : Option tRes} (ha : a < 2 ^ 30) (hb : b < 2 ^ 30) : tif (hI a < nI b) x y = if a < b + 1 then x else y := tltH ha hb
theorem teqHH {a b : Nat} {x y : Option tRes} (ha : a < 2 ^ 30) (hb : b < 2 ^ 30) : tif (nI b = hI a) x y = if b + 1 = a then x else y := teqH hb ha
/-- the class' best so far -/
def cB (G : tH) (Y : Nat) (s : gSt) : Prop := gI G 106 0 = hI s.1 ∧ gI G 107 0 = hI s.2.1 ∧ (s.1 ≠ 0 → ∀ j, j < Y → gA G 105 0 j = s.2.2 j)
def zG : Nat → Nat → Prop := fun f _ => 104 ≤ f ∧ f ≤ 107
theorem c_leaf {G : tH} {Y m k : Nat} {r : Nat → Int32} {s : gSt} (hY : Y ≤ 5) (hm : m ≤ 9999) (hk : k ≤ 50000) (hB : cB G Y s) (hs : gOk s) (hr : ∀ j, j < Y → gA G 104 0 j = r j) : ∃ G', V_X1_keepIfBetter (nI m) (nI k) G = some (none, G') ∧ cB G' Y (gLf m k r s) ∧ tfr zG G G' ∧ gA G' 104 0 = gA G 104 0 := by
  obtain ⟨b1, b2, b3⟩ := hB
  have e24 : V_X1_keepIfBetter_24 (nI m) (nI k) G = some (none, sA (sI (sI G 106 0 (nI k)) 107 0 (nI m)) 105 0 (va_cpy (gA G 104 0) (gA G 105 0) 0 0 5)) := by
    rw [e_X1_keepIfBetter_24]
    dsimp only
    rw [tcp5, nI_clamp (by omega), nI_clamp (by omega)]
    rfl
  have yes : cB (sA (sI (sI G 106 0 (nI k)) 107 0 (nI m)) 105 0 (va_cpy (gA G 104 0) (gA G 105 0) 0 0 5)) Y (k + 1, m + 1, r) ∧ tfr zG G (sA (sI (sI G 106 0 (nI k)) 107 0 (nI m)) 105 0 (va_cpy (gA G 104 0) (gA G 105 0) 0 0 5)) ∧ gA (sA (sI (sI G 106 0 (nI k)) 107 0 (nI m)) 105 0 (va_cpy (gA G 104 0) (gA G 105 0) 0 0 5)) 104 0 = gA G 104 0 := by
    refine ⟨⟨?_, ?_, fun _ j hj => ?_⟩, tfrA (tfrI (tfrI tfr.rf (by unfold zG; omega)) (by unfold zG; omega)) (by unfold zG; omega), ?_⟩
    · simp (disch := omega) only [gI_sA, gI_ne, gI_eq]; rw [hI_pos (by omega)]; rfl
    · simp (disch := omega) only [gI_sA, gI_eq]; rw [hI_pos (by omega)]; rfl
    · rw [gA_eq, cpy_in (by omega)]; exact hr j hj
    · simp (disch := omega) only [gA_ne, gA_sI]
  rw [e_X1_keepIfBetter, b1, b2, tltHH (by have := hs.1; omega) (by omega), teqHH (by have := hs.1; omega) (by omega), tltHH (by have := hs.2; omega) (by omega), e24]
  unfold gLf
  by_cases h1 : s.1 < k + 1
  · rw [if_pos h1, if_pos (Or.inl h1)]
    exact ⟨_, rfl, yes⟩
  · rw [if_neg h1]
    by_cases h2 : k + 1 = s.1
    · rw [if_pos h2]
      by_cases h3 : s.2.1 < m + 1
      · rw [if_pos h3, if_pos (Or.inr ⟨h2, h3⟩)]
        exact ⟨_, rfl, yes⟩
      · rw [if_neg h3, if_neg (by rintro (z | z); exact h1 z; exact h3 z.2)]
        exact ⟨G, rfl, ⟨b1, b2, b3⟩, tfr.rf, rfl⟩
    · rw [if_neg h2, if_neg (by rintro (z | z); exact h1 z; exact h2 z.1)]
      exact ⟨G, rfl, ⟨b1, b2, b3⟩, tfr.rf, rfl⟩
theorem depth_c {n a : Nat} (hn : n < 5) {x : Option tRes} : cond (Nat.blt ((6 - (nI n + nI 1).toInt).toNat + a) ((6 - n) + a) && true) x none = x := by
  rw [nI_add, nI_toInt (by omega)]
  have : (6 - ((n + 1 : Nat) : Int)).toNat = 5 - n := by omega
  rw [this]
  have h : Nat.blt (5 - n + a) (6 - n + a) = true := by
    rw [Nat.blt_eq]
    omega
  rw [h]
  rfl
theorem depth_e {n : Nat} (hn : n < 5) : (6 - (nI n + nI 1).toInt).toNat = 6 - (n + 1) := by
  rw [nI_add, nI_toInt (by omega)]
  omega
theorem c_gath {p t h Y : Nat} {pr : mP} (ho : okP pr) (ht : t < nT pr) (hh : h < nH pr) (hY : Y ≤ 5) : ∀ y n m c k r s G, n + y = Y → m ≤ 9999 → c ≤ 9999 → k ≤ 9999 * n → cP G p pr → cG G p t h → gI G 103 0 = nI Y → cB G Y s → gOk s → (∀ j, j < n → gA G 104 0 j = r j) →
    ∃ G', V_X1_gatherFrom (6 - n) (nI n) (nI m) (nI c) (nI k) G = some (none, G') ∧ cB G' Y (gF pr t h y n m c k r s) ∧ gOk (gF pr t h y n m c k r s) ∧ tfr zG G G' ∧ ∀ j, j < n → gA G' 104 0 j = gA G 104 0 j := by
  have hT := ho.1
  intro y
  induction y with
  | zero =>
    intro n m c k r s G hn hm hc hk hP hG h3 hB hs hr
    have : n = Y := by omega
    subst this
    obtain ⟨G', e1, b1, f1, a1⟩ := c_leaf (k := k) hY hm (by omega) hB hs hr
    refine ⟨G', ?_, b1, gLf_ok hm (by omega) hs, f1, fun j _ => by rw [a1]⟩
    rw [e_X1_gatherFrom, h3, tltM (by omega) (by omega) (by omega), e1, tbV_v]
  | succ y ih =>
    intro n m c k r s G hn hm hc hk hP hG h3 hB hs hr
    have hcr := crN_le pr t (mwN m c) h
    have loop : ∀ e q G1, q + e = 5 → tfr zG G G1 → cB G1 Y (itN (fun q s => gF pr t h y (n + 1) (tkM pr t h (fun g => g * q / 4) m c) (tkC pr t h (fun g => g * q / 4) m c) (k + crN pr t (mwN m c) h * q / 4) (upd r n (nI q)) s) q s) → gOk (itN (fun q s => gF pr t h y (n + 1) (tkM pr t h (fun g => g * q / 4) m c) (tkC pr t h (fun g => g * q / 4) m c) (k + crN pr t (mwN m c) h * q / 4) (upd r n (nI q)) s) q s) → (∀ j, j < n → gA G1 104 0 j = gA G 104 0 j) →
        ∃ G', V_X1_gatherFrom_49 (6 - n) (nI n) (nI k) (nI (mwN m c)) (nI (crN pr t (mwN m c) h)) (nI q) G1 = some (none, G') ∧ cB G' Y (gF pr t h (y + 1) n m c k r s) ∧ gOk (gF pr t h (y + 1) n m c k r s) ∧ tfr zG G G' ∧ ∀ j, j < n → gA G' 104 0 j = gA G 104 0 j := by
      intro e
      induction e with
      | zero =>
        intro q G1 hq f1 b1 o1 a1
        have : q = 5 := by omega
        subst this
        refine ⟨G1, ?_, b1, o1, f1, a1⟩
        rw [e_X1_gatherFrom_49, tltP (by omega) (by omega) (by omega)]
      | succ e ihe =>
        intro q G1 hq f1 b1 o1 a1
        obtain ⟨q1, q2⟩ := qtr hcr (show q ≤ 4 by omega)
        obtain ⟨G2, hG2⟩ : ∃ g, g = sA G1 104 0 (upd (gA G1 104 0) n (nI q)) := ⟨_, rfl⟩
        have f2 : tfr zG G1 G2 := by rw [hG2]; exact tfr.sA (by unfold zG; omega)
        have f02 := f1.tr f2
        have hP2 := hP.kept f02 fun f o z => by unfold zG at z; omega
        have hG2' : cG G2 p t h := by
          obtain ⟨w1, w2, w3⟩ := hG
          exact ⟨by rw [(f02 100 0 (by unfold zG; omega)).2.2.1]; exact w1, by rw [(f02 101 0 (by unfold zG; omega)).1]; exact w2, by rw [(f02 102 0 (by unfold zG; omega)).1]; exact w3⟩
        have h3' : gI G2 103 0 = nI Y := by rw [(f02 103 0 (by unfold zG; omega)).1]; exact h3
        have b2 : cB G2 Y (itN (fun q s => gF pr t h y (n + 1) (tkM pr t h (fun g => g * q / 4) m c) (tkC pr t h (fun g => g * q / 4) m c) (k + crN pr t (mwN m c) h * q / 4) (upd r n (nI q)) s) q s) := by
          obtain ⟨w1, w2, w3⟩ := b1
          rw [hG2]
          exact ⟨by rw [gI_sA]; exact w1, by rw [gI_sA]; exact w2, fun z j hj => by rw [gA_ne (by omega)]; exact w3 z j hj⟩
        obtain ⟨G3, e3, b3, o3, f3, a3⟩ := ih (n + 1) (tkM pr t h (fun g => g * q / 4) m c) (tkC pr t h (fun g => g * q / 4) m c) (k + crN pr t (mwN m c) h * q / 4) (upd r n (nI q)) _ G2 (by omega) (tkM_le _ _ _ _ _ _) (tkC_le _ _ _ _ _ _) (by omega) hP2 hG2' h3' b2 o1 (by
          intro j hj
          rw [hG2, gA_eq]
          by_cases hjn : j = n
          · subst hjn; rw [upd_eq, upd_eq]
          · rw [upd_ne hjn, upd_ne hjn, a1 j (by omega), hr j (by omega)])
        obtain ⟨G4, e4, r4⟩ := ihe (q + 1) G3 (by omega) (f02.tr f3) b3 o3 (by
          intro j hj
          rw [a3 j (by omega), hG2, gA_eq, upd_ne (by omega), a1 j hj])
        refine ⟨G4, ?_, r4⟩
        rw [e_X1_gatherFrom_49, tltM (by omega) (by omega) (by omega), tn4, ttin (by omega) (by omega), nI_clamp (by omega)]
        dsimp only
        rw [← hG2, pk_mul, pk_div q1 (by omega) (by omega), v_meansLeft hP2 ho hG2' ht (mwN_le m c) hcr (by omega), tbI_v, depth_c (by omega), depth_e (by omega), nI_sub q2, nI_add, nI_add]
        rw [show mwN m c - hmN pr t (crN pr t (mwN m c) h * q / 4 - tthN pr (crN pr t (mwN m c) h)) = tkM pr t h (fun g => g * q / 4) m c from rfl, show crN pr t (mwN m c) h - crN pr t (mwN m c) h * q / 4 = tkC pr t h (fun g => g * q / 4) m c from rfl, e3, tbV_v, nI_add]
        exact e4
    obtain ⟨G', e1, r1⟩ := loop 5 0 G (by omega) tfr.rf hB hs fun _ _ => rfl
    refine ⟨G', ?_, r1⟩
    rw [e_X1_gatherFrom, h3, tltP (by omega) (by omega) (by omega), hG.1, v_meansWith hm hc, tbI_v, hG.1, hG.2.1, hG.2.2, v_cropOf hP ho ht (mwN_le m c) hh, tbI_v]
    exact e1
/-! the reference -/
def rB (G : tH) (Y : Nat) (s : gSt) : Prop := gI G 1130 0 = hI s.1 ∧ gI G 1131 0 = hI s.2.1 ∧ (s.1 ≠ 0 → ∀ j, j < Y → gA G 1129 0 j = s.2.2 j)
def zH : Nat → Nat → Prop := fun f _ => 1128 ≤ f ∧ f ≤ 1131
theorem r_copyq (Y d : Nat) (hY : Y ≤ 5) (G : tH) : ∀ n i G1, i + n = Y → tfr (fun f _ => f = 1129) G G1 → (∀ j, j < i → gA G1 1129 0 j = gA G 1128 0 j) → ∃ G', V_X11_gathers_48 d (nI Y) (nI i) G1 = some (none, G') ∧ tfr (fun f _ => f = 1129) G G' ∧ ∀ j, j < Y → gA G' 1129 0 j = gA G 1128 0 j := by
  intro n
  induction n with
  | zero =>
    intro i G1 hi f1 a1
    have : i = Y := by omega
    subst this
    refine ⟨G1, ?_, f1, a1⟩
    rw [e_X11_gathers_48, tltM (by omega) (by omega) (by omega)]
  | succ n ih =>
    intro i G1 hi f1 a1
    rw [e_X11_gathers_48, tltP (by omega) (by omega) (by omega)]
    simp (disch := omega) only [ttin, nI_clamp, nI_add]
    refine ih (i + 1) _ (by omega) (tfrA f1 rfl) fun j hj => ?_
    rw [gA_eq]
    by_cases hji : j = i
    · subst hji; rw [upd_eq, (f1 1128 0 (by omega)).2.2.2.1]
    · rw [upd_ne hji]; exact a1 j (by omega)
theorem r_gath {t h Y : Nat} {pr : mP} (ho : okP pr) (ht : t < nT pr) (hh : h < nH pr) (hY : Y ≤ 5) : ∀ y n m c k r s G, n + y = Y → m ≤ 9999 → c ≤ 9999 → k ≤ 9999 * n → rP G pr → rB G Y s → gOk s → (∀ j, j < n → gA G 1128 0 j = r j) →
    ∃ G', V_X11_gathers (6 - n) (nI t) (nI h) (nI Y) (nI n) (nI m) (nI c) (nI k) G = some (none, G') ∧ rB G' Y (gF pr t h y n m c k r s) ∧ gOk (gF pr t h y n m c k r s) ∧ tfr zH G G' ∧ ∀ j, j < n → gA G' 1128 0 j = gA G 1128 0 j := by
  have hT := ho.1
  intro y
  induction y with
  | zero =>
    intro n m c k r s G hn hm hc hk hP hB hs hr
    have : n = Y := by omega
    subst this
    obtain ⟨b1, b2, b3⟩ := hB
    obtain ⟨G2, hG2⟩ : ∃ g, g = sI (sI G 1130 0 (nI k)) 1131 0 (nI m) := ⟨_, rfl⟩
    have f2 : tfr (fun f _ => f = 1130 ∨ f = 1131) G G2 := by rw [hG2]; exact tfrI (tfrI tfr.rf (by omega)) (by omega)
    obtain ⟨G3, e3, f3, a3⟩ := r_copyq n (6 - n) hY G2 n 0 G2 (by omega) tfr.rf fun j hj => by omega
    have yes : rB G3 n (k + 1, m + 1, r) ∧ gOk (k + 1, m + 1, r) ∧ tfr zH G G3 ∧ ∀ j, j < n → gA G3 1128 0 j = gA G 1128 0 j := by
      refine ⟨⟨?_, ?_, fun _ j hj => ?_⟩, ⟨by show k + 1 ≤ _; omega, by show m + 1 ≤ _; omega⟩, (f2.mono fun f o z => by unfold zH; omega).tr (f3.mono fun f o z => by unfold zH; omega), fun j _ => ?_⟩
      · show gI G3 1130 0 = hI (k + 1)
        rw [(f3 1130 0 (by omega)).1, hG2, gI_ne (by omega), gI_eq, hI_pos (by omega)]; rfl
      · show gI G3 1131 0 = hI (m + 1)
        rw [(f3 1131 0 (by omega)).1, hG2, gI_eq, hI_pos (by omega)]; rfl
      · rw [a3 j hj, (f2 1128 0 (by omega)).2.2.2.1]; exact hr j hj
      · rw [(f3 1128 0 (by omega)).2.2.2.1, (f2 1128 0 (by omega)).2.2.2.1]
    rw [e_X11_gathers, teqP rfl, b1, b2, tltHH (by have := hs.1; omega) (by omega), teqHH (by have := hs.1; omega) (by omega), tltHH (by have := hs.2; omega) (by omega)]
    dsimp only
    rw [← hG2, e3]
    show ∃ G', _ ∧ rB G' n (gLf m k r s) ∧ gOk (gLf m k r s) ∧ _
    unfold gLf
    by_cases h1 : s.1 < k + 1
    · rw [if_pos h1, if_pos (Or.inl h1)]
      exact ⟨_, rfl, yes⟩
    · rw [if_neg h1]
      by_cases h2 : k + 1 = s.1
      · rw [if_pos h2]
        by_cases h3 : s.2.1 < m + 1
        · rw [if_pos h3, if_pos (Or.inr ⟨h2, h3⟩)]
          exact ⟨_, rfl, yes⟩
        · rw [if_neg h3, if_neg (by rintro (z | z); exact h1 z; exact h3 z.2)]
          exact ⟨G, rfl, ⟨b1, b2, b3⟩, hs, tfr.rf, fun _ _ => rfl⟩
      · rw [if_neg h2, if_neg (by rintro (z | z); exact h1 z; exact h2 z.1)]
        exact ⟨G, rfl, ⟨b1, b2, b3⟩, hs, tfr.rf, fun _ _ => rfl⟩
  | succ y ih =>
    intro n m c k r s G hn hm hc hk hP hB hs hr
    have hcr := crN_le pr t (mwN m c) h
    have loop : ∀ e q G1, q + e = 5 → tfr zH G G1 → rB G1 Y (itN (fun q s => gF pr t h y (n + 1) (tkM pr t h (fun g => g * q / 4) m c) (tkC pr t h (fun g => g * q / 4) m c) (k + crN pr t (mwN m c) h * q / 4) (upd r n (nI q)) s) q s) → gOk (itN (fun q s => gF pr t h y (n + 1) (tkM pr t h (fun g => g * q / 4) m c) (tkC pr t h (fun g => g * q / 4) m c) (k + crN pr t (mwN m c) h * q / 4) (upd r n (nI q)) s) q s) → (∀ j, j < n → gA G1 1128 0 j = gA G 1128 0 j) →
        ∃ G', V_X11_gathers_101 (6 - n) (nI t) (nI h) (nI Y) (nI n) (nI k) (nI (mwN m c)) (nI (crN pr t (mwN m c) h)) (nI q) G1 = some (none, G') ∧ rB G' Y (gF pr t h (y + 1) n m c k r s) ∧ gOk (gF pr t h (y + 1) n m c k r s) ∧ tfr zH G G' ∧ ∀ j, j < n → gA G' 1128 0 j = gA G 1128 0 j := by
      intro e
      induction e with
      | zero =>
        intro q G1 hq f1 b1 o1 a1
        have : q = 5 := by omega
        subst this
        refine ⟨G1, ?_, b1, o1, f1, a1⟩
        rw [e_X11_gathers_101, tltM (by omega) (by omega) (by omega)]
      | succ e ihe =>
        intro q G1 hq f1 b1 o1 a1
        obtain ⟨q1, q2⟩ := qtr hcr (show q ≤ 4 by omega)
        obtain ⟨G2, hG2⟩ : ∃ g, g = sA G1 1128 0 (upd (gA G1 1128 0) n (nI q)) := ⟨_, rfl⟩
        have f2 : tfr zH G1 G2 := by rw [hG2]; exact tfr.sA (by unfold zH; omega)
        have f02 := f1.tr f2
        have hP2 := hP.kept f02 (by unfold zH; omega)
        have b2 : rB G2 Y (itN (fun q s => gF pr t h y (n + 1) (tkM pr t h (fun g => g * q / 4) m c) (tkC pr t h (fun g => g * q / 4) m c) (k + crN pr t (mwN m c) h * q / 4) (upd r n (nI q)) s) q s) := by
          obtain ⟨w1, w2, w3⟩ := b1
          rw [hG2]
          exact ⟨by rw [gI_sA]; exact w1, by rw [gI_sA]; exact w2, fun z j hj => by rw [gA_ne (by omega)]; exact w3 z j hj⟩
        obtain ⟨G3, e3, b3, o3, f3, a3⟩ := ih (n + 1) (tkM pr t h (fun g => g * q / 4) m c) (tkC pr t h (fun g => g * q / 4) m c) (k + crN pr t (mwN m c) h * q / 4) (upd r n (nI q)) _ G2 (by omega) (tkM_le _ _ _ _ _ _) (tkC_le _ _ _ _ _ _) (by omega) hP2 b2 o1 (by
          intro j hj
          rw [hG2, gA_eq]
          by_cases hjn : j = n
          · subst hjn; rw [upd_eq, upd_eq]
          · rw [upd_ne hjn, upd_ne hjn, a1 j (by omega), hr j (by omega)])
        obtain ⟨G4, e4, r4⟩ := ihe (q + 1) G3 (by omega) (f02.tr f3) b3 o3 (by
          intro j hj
          rw [a3 j (by omega), hG2, gA_eq, upd_ne (by omega), a1 j hj])
        refine ⟨G4, ?_, r4⟩
        rw [e_X11_gathers_101, tltP (by omega) (by omega) (by omega), tn4, ttin (by omega) (by omega), nI_clamp (by omega)]
        dsimp only
        rw [← hG2, pk_mul, Nat.mul_comm q, pk_div q1 (by omega) (by omega), r_left hP2 ho ht (mwN_le m c) hcr (by omega), depth_c (by omega), depth_e (by omega), nI_sub q2, nI_add, nI_add]
        rw [show mwN m c - hmN pr t (crN pr t (mwN m c) h * q / 4 - tthN pr (crN pr t (mwN m c) h)) = tkM pr t h (fun g => g * q / 4) m c from rfl, show crN pr t (mwN m c) h - crN pr t (mwN m c) h * q / 4 = tkC pr t h (fun g => g * q / 4) m c from rfl, e3, tbV_v, nI_add]
        exact e4
    obtain ⟨G', e1, r1⟩ := loop 5 0 G (by omega) tfr.rf hB hs fun _ _ => rfl
    refine ⟨G', ?_, r1⟩
    rw [e_X11_gathers, teqM (by omega) (by omega) (by omega), tn2, pk_div (by omega) (by omega) (by omega), nI_add, r_atMost, cl_nI (by omega), tbI_v, show min 9999 (m + c / 2) = mwN m c from rfl, r_cropOf hP ho ht (mwN_le m c) hh, tbI_v]
    exact e1
/-- some coins are had at the end -/
theorem gF_pos (pr : mP) (t h : Nat) : ∀ y n m c k r s, (gF pr t h y n m c k r s).1 ≠ 0
  | 0, n, m, c, k, r, s => by
    show (gLf m k r s).1 ≠ 0
    unfold gLf
    split
    · show k + 1 ≠ 0; omega
    · rename_i hq; intro z; exact hq (Or.inl (by omega))
  | y + 1, n, m, c, k, r, s => gF_pos pr t h y (n + 1) _ _ _ _ _
theorem p_gather (x1 x2 x3 x4 : Int32) {G : tH} (h : INV G) : PAIR (V_X10_gather x1 x2 x3 x4) (V_X11_gather x1 x2 x3 x4) G := by
  obtain ⟨p, fr, q, pr, lw, σ, τ, ν, L, tx, nm, hM, hN, hC, hR⟩ := id h
  obtain ⟨ho, hs, hu, _⟩ := id hM
  obtain ⟨c1, c2, c3, hP, c5, c6, hS, _⟩ := hC.1
  have hR0 := hR.1.thr (nI 0)
  have hT := ho.1
  have hH := ho.2.2.1
  rcases has_cases (x := x1) (n := nT pr) (by omega) with ⟨t, ht, rfl, hz⟩ | ⟨hno, hz⟩
  · rcases has_cases (x := x2) (n := nH pr) (by omega) with ⟨hv, hh, rfl, hz2⟩ | ⟨hno, hz2⟩
    · rcases within_c (a := 1) (b := 5) x3 (by omega) (by omega) with ⟨Y, y1, y2, rfl, hw⟩ | ⟨hno, hw⟩
      · rcases within_c (a := 0) (b := 1 + Y) x4 (by omega) (by omega) with ⟨v, _, v2, rfl, hw2⟩ | ⟨hno, hw2⟩
        · obtain ⟨b1, b2, b3, b4⟩ := hs.1 t ht
          have hbc : (σ 0).1 2 t ≤ 9999 := by omega
          obtain ⟨k1, k2, k3, k4, k5⟩ := hS.2.1 t ht
          obtain ⟨Ga, hGa⟩ : ∃ g, g = sI (sI (sI (sI (sI (sR G 100 0 p) 101 0 (nI t)) 102 0 (nI hv)) 103 0 (nI Y)) 106 0 (-1)) 107 0 (-1) := ⟨_, rfl⟩
          have fa : tfr (fun f _ => 100 ≤ f ∧ f < 200) G Ga := by rw [hGa]; exact tfrI (tfrI (tfrI (tfrI (tfrI (tfrR tfr.rf (by omega)) (by omega)) (by omega)) (by omega)) (by omega)) (by omega)
          have hPa := hP.kept fa fun f o z => by omega
          have ga : cG Ga p t hv := by
            rw [hGa]
            refine ⟨?_, ?_, ?_⟩
            · simp only [gR_sI, gR_eq]
            · simp (disch := omega) only [gI_ne, gI_eq]
            · simp (disch := omega) only [gI_ne, gI_eq]
          have a1 : gA Ga 701 0 t = nI ((σ 0).1 1 t) := by rw [(fa 701 0 (by omega)).2.2.2.1]; exact k1
          have a2 : gA Ga 702 0 t = nI ((σ 0).1 2 t) := by rw [(fa 702 0 (by omega)).2.2.2.1]; exact k2
          obtain ⟨Gb, e1, bb, ob, fb, _⟩ := c_gath (p := p) (Y := Y) ho ht hh y2 Y 0 ((σ 0).1 1 t) ((σ 0).1 2 t) 0 (fun _ => 0) (0, 0, fun _ => 0) Ga (by omega) b1 hbc (by omega) hPa ga (by rw [hGa]; simp (disch := omega) only [gI_ne, gI_eq]) ⟨by rw [hGa]; simp (disch := omega) only [gI_ne, gI_eq]; rfl, by rw [hGa, gI_eq]; rfl, fun z => absurd rfl z⟩ ⟨by show 0 ≤ _; omega, by show 0 ≤ _; omega⟩ (fun j hj => by omega)
          obtain ⟨S, hS0⟩ : ∃ S, S = gF pr t hv Y 0 ((σ 0).1 1 t) ((σ 0).1 2 t) 0 (fun _ => 0) (0, 0, fun _ => 0) := ⟨_, rfl⟩
          have hpos : S.1 ≠ 0 := by rw [hS0]; exact gF_pos _ _ _ _ _ _ _ _ _ _
          rw [← hS0] at bb ob
          have fab : tfr (fun f _ => 100 ≤ f ∧ f < 200) G Gb := fa.tr (fb.mono fun f o z => by unfold zG at z; omega)
          refine PAIR.scr (r := if v = 0 then hI S.1 else if v = 1 then hI S.2.1 else S.2.2 (v - 2)) hM hN hC hR (G1 := Gb) ?_ (fab.mono fun f o z => by unfold zV; omega) fun hR1 => ?_
          · rw [e_X10_gather, c2, v_has, hP.1, hz, tbI_v, tn1, c2, v_has, hP.2.2.1, hz2, tbI_v, tn1, tltM (by omega) (by omega) (by omega), tltM (by omega) (by omega) (by omega), tlt0 (by omega), nI_add, tltP (by omega) (by omega) (by omega), e_X1_seek, hS.1]
            dsimp only
            rw [if_neg (show ¬ nI 5 < nI Y by rw [nI_ltI (by omega) (by omega)]; omega), ← hGa, ttin (by omega) (by omega), ttin (by omega) (by omega), nI_clamp (by omega), a1, a2, show (6 - (nI 0).toInt).toNat = 6 - 0 from rfl, e1, tbV_v, tbV_v, bb.1, bb.2.1]
            by_cases v0 : v = 0
            · rw [if_pos v0, teqP v0]
            · rw [if_neg v0, teqM (by omega) (by omega) v0]
              by_cases v1 : v = 1
              · rw [if_pos v1, teqP v1]
              · rw [if_neg v1, teqM (by omega) (by omega) v1, nI_sub (by omega), ttin (by omega) (by omega), nI_clamp (by omega), bb.2.2 hpos _ (by omega)]
          · have hR2 := hR1.1.thr (nI 0)
            obtain ⟨g1, g2, g3, g4, g5, g6⟩ := hR2.2.2.2.1.2.2.2.2.2.1 t ht
            simp only [Nat.zero_add] at g1 g2
            obtain ⟨Gc, hGc⟩ : ∃ g, g = sI (sI (sI Gb 1100 0 (nI 0)) 1130 0 (-1)) 1131 0 (-1) := ⟨_, rfl⟩
            have fc : tfr zN Gb Gc := by rw [hGc]; exact tfrI (tfrI (tfrI tfr.rf (by unfold zN; omega)) (by unfold zN; omega)) (by unfold zN; omega)
            obtain ⟨Gd, e2, bd, od, fd, _⟩ := r_gath (Y := Y) ho ht hh y2 Y 0 ((σ 0).1 1 t) ((σ 0).1 2 t) 0 (fun _ => 0) (0, 0, fun _ => 0) Gc (by omega) b1 hbc (by omega) (hR1.1.sc fc).1 ⟨by rw [hGc]; simp (disch := omega) only [gI_ne, gI_eq]; rfl, by rw [hGc, gI_eq]; rfl, fun z => absurd rfl z⟩ ⟨by show 0 ≤ _; omega, by show 0 ≤ _; omega⟩ (fun j hj => by omega)
            rw [← hS0] at bd od
            have fcd : tfr zN Gb Gd := fc.tr (fd.mono fun f o z => by unfold zH at z; unfold zN; omega)
            refine ⟨Gd, ?_, zN_X fcd, fun i _ => by rw [zN_a fcd]⟩
            rw [e_X11_gather]
            dsimp only
            rw [r_isT hR2.1 ho ht, tbI_v, tn1, r_isH hR2.1 ho hh, tbI_v, tn1, r_win (by omega) y1 y2, tbI_v, tn1, nI_add, r_win (by omega) (by omega) v2, tbI_v, tn1, ← hGc]
            have gA1 : gA Gc 1124 0 = gA (sI Gb 1100 0 (nI 0)) 1124 0 := by rw [hGc]; simp only [gA_sI]
            simp (disch := omega) only [nI_add, ttin, nI_clamp, gA1, g1, g2]
            rw [show (6 - (nI 0).toInt).toNat = 6 - 0 from rfl, e2, tbV_v, bd.1, bd.2.1]
            by_cases v0 : v = 0
            · rw [if_pos v0, tz0P v0]
            · rw [if_neg v0, tz0M (by omega) v0]
              by_cases v1 : v = 1
              · rw [if_pos v1, teqP v1]
              · rw [if_neg v1, teqM (by omega) (by omega) v1, nI_sub (by omega), ttin (by omega) (by omega), nI_clamp (by omega), bd.2.2 hpos _ (by omega)]
        · refine PAIR.read h (r := -1) ?_ ?_
          · rw [e_X10_gather, c2, v_has, hP.1, hz, tbI_v, tn1, c2, v_has, hP.2.2.1, hz2, tbI_v, tn1, tltM (by omega) (by omega) (by omega), tltM (by omega) (by omega) (by omega)]
            by_cases h1 : x4 < 0
            · rw [tif_pos h1]
            · obtain ⟨k, hk, rfl⟩ := nI_of h1
              rw [tif_neg h1, nI_add, tltM hk (by omega) (Nat.le_of_not_lt fun q => hno ⟨k, by omega, by omega, rfl⟩)]
          · rw [e_X11_gather]
            dsimp only
            rw [r_isT hR0.1 ho ht, tbI_v, tn1, r_isH hR0.1 ho hh, tbI_v, tn1, r_win (by omega) y1 y2, tbI_v, tn1, nI_add, r_within, hw2, tbI_v, tn0]
      · refine PAIR.read h (r := -1) ?_ ?_
        · rw [e_X10_gather, c2, v_has, hP.1, hz, tbI_v, tn1, c2, v_has, hP.2.2.1, hz2, tbI_v, tn1]
          by_cases h1 : x3 < nI 1
          · rw [tif_pos h1]
          · rw [tif_neg h1]
            by_cases h2 : nI 5 < x3
            · rw [tif_pos h2]
            · exfalso
              rw [if_neg h1, if_neg h2] at hw
              exact absurd hw (by decide +kernel)
        · rw [e_X11_gather]
          dsimp only
          rw [r_isT hR0.1 ho ht, tbI_v, tn1, r_isH hR0.1 ho hh, tbI_v, tn1, r_within, hw, tbI_v, tn0]
    · refine PAIR.read h (r := -1) ?_ ?_
      · rw [e_X10_gather, c2, v_has, hP.1, hz, tbI_v, tn1, c2, v_has, hP.2.2.1, hz2, tbI_v, tn0]
      · rw [e_X11_gather]
        dsimp only
        rw [r_isT hR0.1 ho ht, tbI_v, tn1, r_isHarvest _ hR0.1, hz2, tbI_v, tn0]
  · refine PAIR.read h (r := -1) ?_ ?_
    · rw [e_X10_gather, c2, v_has, hP.1, hz, tbI_v, tn0]
    · rw [e_X11_gather]
      dsimp only
      rw [r_isTown _ hR0.1, hz, tbI_v, tn0]
