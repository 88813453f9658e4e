/-! PURE: bids at rest -/
noncomputable def gn (v b a : Int32) : Int32 := pif (b < a) (nI 0) (pif (a < b) (v - b) ((v - b) / nI 2))
theorem n2_0 : ¬ nI 2 = 0 := by decide +kernel
theorem c_gain (v b a : Int32) (G : tH) : V_X10_gain v b a G = some (some (vI (gn v b a)), G) := by
  rw [e_X10_gain]
  unfold gn
  by_cases h1 : b < a
  · rw [tif_pos h1, pif_1 h1]
  · rw [tif_neg h1, pif_0 h1]
    by_cases h2 : a < b
    · rw [tif_pos h2, pif_1 h2]
    · rw [tif_neg h2, pif_0 h2, tif_neg n2_0]
theorem r_gets (v b a : Int32) (G : tH) : V_X11_getsBy v b a G = some (some (vI (gn v b a)), G) := by
  rw [e_X11_getsBy]
  unfold gn
  by_cases h1 : b < a
  · have h2 : ¬ a < b := fun h => by simp only [Int32.lt_iff_toInt_lt] at h1 h; omega
    have h3 : ¬ b = a := fun h => by rw [h] at h1; exact Int32.lt_irrefl h1
    rw [tif_neg h2, tif_neg h3, pif_1 h1]
  · rw [pif_0 h1]
    by_cases h2 : a < b
    · rw [tif_pos h2, pif_1 h2]
    · have h3 : b = a := Int32.le_antisymm (Int32.not_lt.mp h2) (Int32.not_lt.mp h1)
      rw [tif_neg h2, tif_pos h3, pif_0 h2, tif_neg n2_0]
/-- a change pays -/
def bdR (v w a b e : Int32) : Prop := gn v a b < gn v e b ∨ gn w b a < gn w e a
def atR (v w a b : Int32) (i : Nat) : Prop := ∀ e, i ≤ e → e < 10 → ¬ bdR v w a b (nI e)
theorem atR_s {v w a b : Int32} {i : Nat} (hi : i < 10) : atR v w a b i ↔ ¬ bdR v w a b (nI i) ∧ atR v w a b (i + 1) := by
  constructor
  · intro h
    exact ⟨h i (Nat.le_refl i) hi, fun e h1 h2 => h e (by omega) h2⟩
  · rintro ⟨h1, h2⟩ e h3 h4
    by_cases he : e = i
    · rw [he]; exact h1
    · exact h2 e (by omega) h4
theorem atR_10 {v w a b : Int32} : atR v w a b 10 := fun e h1 h2 => by omega
theorem c_rest3 (v w a b : Int32) (G : tH) : ∀ m i, i + m = 10 → V_X10_areAtRest_3 v w a b (nI i) G = some (some (vI (pif (atR v w a b i) (nI 1) (nI 0))), G) := by
  intro m
  induction m with
  | zero =>
    intro i hi
    have hi : i = 10 := by omega
    subst hi
    rw [e_X10_areAtRest_3, tltM (by omega) (by omega) (by omega), tz1, pif_1 atR_10]
  | succ m ih =>
    intro i hi
    rw [e_X10_areAtRest_3, tltP (by omega) (by omega) (by omega), c_gain, tbI_v, c_gain, tbI_v]
    by_cases h1 : gn v a b < gn v (nI i) b
    · rw [tif_pos h1, tz0, pif_0 (fun h => ((atR_s (by omega)).mp h).1 (Or.inl h1))]
    · rw [tif_neg h1, c_gain, tbI_v, c_gain, tbI_v]
      by_cases h2 : gn w b a < gn w (nI i) a
      · rw [tif_pos h2, tz0, pif_0 (fun h => ((atR_s (by omega)).mp h).1 (Or.inr h2))]
      · rw [tif_neg h2, nI_add, ih (i + 1) (by omega)]
        have hb : ¬ bdR v w a b (nI i) := fun h => h.elim h1 h2
        by_cases h3 : atR v w a b (i + 1)
        · rw [pif_1 h3, pif_1 ((atR_s (by omega)).mpr ⟨hb, h3⟩)]
        · rw [pif_0 h3, pif_0 (fun h => h3 ((atR_s (by omega)).mp h).2)]
theorem c_rest (v w a b : Int32) (G : tH) : V_X10_areAtRest v w a b G = some (some (vI (pif (atR v w a b 0) (nI 1) (nI 0))), G) := by
  rw [e_X10_areAtRest]
  exact c_rest3 v w a b G 10 0 rfl
section RR
variable {v w x x4 x5 x6 x7 a b : Int32} {G : tH}
theorem r_73_0 : ∀ m i, i + m = 10 → V_X11_rests_73 v w x x4 x5 x6 x7 a b (nI 0) (nI i) G = V_X11_rests_73 v w x x4 x5 x6 x7 a b (nI 0) (nI 10) G := by
  intro m
  induction m with
  | zero =>
    intro i hi
    have hi : i = 10 := by omega
    subst hi
    rfl
  | succ m ih =>
    intro i hi
    rw [e_X11_rests_73, tltP (by omega) (by omega) (by omega), tn0, nI_add]
    exact ih (i + 1) (by omega)
theorem r_73_1 : ∀ m i, i + m = 10 → V_X11_rests_73 v w x x4 x5 x6 x7 a b (nI 1) (nI i) G = V_X11_rests_73 v w x x4 x5 x6 x7 a b (pif (atR v w a b i) (nI 1) (nI 0)) (nI 10) G := by
  intro m
  induction m with
  | zero =>
    intro i hi
    have hi : i = 10 := by omega
    subst hi
    rw [pif_1 atR_10]
  | succ m ih =>
    intro i hi
    rw [e_X11_rests_73, tltP (by omega) (by omega) (by omega), tn1, r_gets, tbI_v, r_gets, tbI_v]
    by_cases h1 : gn v a b < gn v (nI i) b
    · rw [tif_pos h1, pif_0 (fun h => ((atR_s (by omega)).mp h).1 (Or.inl h1)), nI_add]
      exact r_73_0 m (i + 1) (by omega)
    · rw [tif_neg h1, r_gets, tbI_v, r_gets, tbI_v]
      by_cases h2 : gn w b a < gn w (nI i) a
      · rw [tif_pos h2, pif_0 (fun h => ((atR_s (by omega)).mp h).1 (Or.inr h2)), nI_add]
        exact r_73_0 m (i + 1) (by omega)
      · rw [tif_neg h2, nI_add, ih (i + 1) (by omega)]
        have hb : ¬ bdR v w a b (nI i) := fun h => h.elim h1 h2
        by_cases h3 : atR v w a b (i + 1)
        · rw [pif_1 h3, pif_1 ((atR_s (by omega)).mpr ⟨hb, h3⟩)]
        · rw [pif_0 h3, pif_0 (fun h => h3 ((atR_s (by omega)).mp h).2)]
end RR
/-- the k-th pair of bids is at rest -/
def isR (v w : Int32) (k : Nat) : Prop := atR v w (nI (k / 10)) (nI (k % 10)) 0
noncomputable def cnR (v w : Int32) : Nat → Nat
  | 0 => 0
  | k + 1 => pif (isR v w k) (cnR v w k + 1) (cnR v w k)
noncomputable def fdR (v w x : Int32) : Nat → Int32
  | 0 => -1
  | k + 1 => pif (isR v w k ∧ nI (cnR v w k) = x) (nI k) (fdR v w x k)
theorem cnR_le (v w : Int32) : ∀ k, cnR v w k ≤ k
  | 0 => Nat.le_refl 0
  | k + 1 => by
    have := cnR_le v w k
    show pif (isR v w k) (cnR v w k + 1) (cnR v w k) ≤ k + 1
    by_cases h : isR v w k
    · rw [pif_1 h]; omega
    · rw [pif_0 h]; omega
theorem cnR_mono {v w : Int32} {i : Nat} : ∀ n, cnR v w i ≤ cnR v w (i + n)
  | 0 => Nat.le_refl _
  | n + 1 => by
    have := cnR_mono (v := v) (w := w) (i := i) n
    show cnR v w i ≤ pif (isR v w (i + n)) (cnR v w (i + n) + 1) (cnR v w (i + n))
    by_cases h : isR v w (i + n)
    · rw [pif_1 h]; omega
    · rw [pif_0 h]; omega
/-- once it is found it stays -/
theorem fdR_stay {v w x : Int32} {i : Nat} (hr : isR v w i) (hx : nI (cnR v w i) = x) : ∀ n, i + 1 + n ≤ 100 → fdR v w x (i + 1 + n) = nI i
  | 0, _ => pif_1 ⟨hr, hx⟩
  | n + 1, hn => by
    show pif (isR v w (i + 1 + n) ∧ nI (cnR v w (i + 1 + n)) = x) (nI (i + 1 + n)) (fdR v w x (i + 1 + n)) = nI i
    rw [pif_0, fdR_stay hr hx n (by omega)]
    rintro ⟨-, h⟩
    have h1 : cnR v w (i + 1) = cnR v w i + 1 := pif_1 hr
    have h2 := cnR_mono (v := v) (w := w) (i := i + 1) n
    have h3 := cnR_le v w i
    have h4 := cnR_le v w (i + 1 + n)
    have := nI_inj (by omega) (by omega) (h.trans hx.symm)
    omega
theorem fdR_none {v w x : Int32} : ∀ n, (∀ k, k < n → ¬ (isR v w k ∧ nI (cnR v w k) = x)) → fdR v w x n = -1
  | 0, _ => rfl
  | n + 1, h => by
    show pif (isR v w n ∧ nI (cnR v w n) = x) (nI n) (fdR v w x n) = -1
    rw [pif_0 (h n (by omega)), fdR_none n fun k hk => h k (by omega)]
def mayR (v w x : Int32) : Prop := ¬ v < 0 ∧ ¬ 10 ≤ v ∧ ¬ w < 0 ∧ ¬ 10 ≤ w ∧ -1 ≤ x
/-- the answer, or none where it is thrown -/
noncomputable def rsR (v w x : Int32) : Option Int32 := pif (mayR v w x) (pif (x < 0) (some (nI (cnR v w 100))) (pif (fdR v w x 100 < 0) none (some (fdR v w x 100)))) none
theorem r_41 {v w x : Int32} {G : tH} : ∀ m k, k + m = 100 → V_X11_rests_41 v w x (nI 1) (nI (cnR v w k)) (fdR v w x k) (nI k) G = V_X11_rests_177 x (nI 1) (nI (cnR v w 100)) (fdR v w x 100) G := by
  intro m
  induction m with
  | zero =>
    intro k hk
    have hk : k = 100 := by omega
    subst hk
    rw [e_X11_rests_41, tltM (by omega) (by omega) (by omega)]
  | succ m ih =>
    intro k hk
    have h10 : ¬ nI 10 = 0 := by decide +kernel
    have hc := cnR_le v w k
    rw [e_X11_rests_41, tltP (by omega) (by omega) (by omega), tn1, tif_neg h10, tif_neg h10, nI_rem (by omega) (by omega) (by omega), pk_div (by omega) (by omega) (by omega), r_73_1 10 0 rfl, e_X11_rests_73, tltM (by omega) (by omega) (by omega), ← ih (k + 1) (by omega), show atR v w (nI (k / 10)) (nI (k % 10)) 0 = isR v w k from rfl]
    show _ = V_X11_rests_41 v w x (nI 1) (nI (pif (isR v w k) (cnR v w k + 1) (cnR v w k))) (pif (isR v w k ∧ nI (cnR v w k) = x) (nI k) (fdR v w x k)) (nI (k + 1)) G
    by_cases h : isR v w k
    · rw [pif_1 (a := nI 1) h, pif_1 h, tn1]
      by_cases h2 : nI (cnR v w k) = x
      · rw [tif_pos h2, pif_1 ⟨h, h2⟩, e_X11_rests_154, tn1, nI_add, nI_add]
      · rw [tif_neg h2, pif_0 (fun q => h2 q.2), e_X11_rests_152, e_X11_rests_154, tn1, nI_add, nI_add]
    · rw [pif_0 (a := nI 1) h, pif_0 h, tn0, pif_0 (fun q => h q.1), e_X11_rests_152, e_X11_rests_154, tn0, nI_add, nI_add, Nat.add_zero]
theorem lt_m1 {x : Int32} : ¬ x < (-1 : Int32) ↔ (-1 : Int32) ≤ x := Int32.not_lt
theorem r_rests (v w x : Int32) (G : tH) : V_X11_rests v w x G = match rsR v w x with
    | some r => some (some (vI r), sI G 1100 0 (nI 0))
    | none => some (some (vI (nI 0)), sI G 1100 0 (nI 1)) := by
  have z : (0 : Int32) = nI 0 := by decide +kernel
  have bad : ∀ G : tH, V_X11_rests_41 v w x (nI 0) (nI 0) (-1) (nI 0) G = some (some (vI (nI 0)), sI G 1100 0 (nI 1)) := fun G => by
    rw [e_X11_rests_41, tltP (by omega) (by omega) (by omega), tn0, e_X11_rests_177, tn0, e_X11_rests_196, e_X11_rests_197]
    dsimp only
    rw [tif_pos (by rw [gI_eq]; decide +kernel)]
  have t9 : ∀ y : Int32, nI 9 < y ↔ 10 ≤ y := fun y => by
    have e9 : (nI 9).toInt = 9 := by decide +kernel
    have e10 : (10 : Int32).toInt = 10 := by decide +kernel
    simp only [Int32.lt_iff_toInt_lt, Int32.le_iff_toInt_le, e9, e10]
    omega
  rw [e_X11_rests, r_within, tbI_v]
  by_cases h1 : v < nI 0
  · rw [if_pos h1, tn0, bad, show rsR v w x = none from pif_0 fun h => h.1 (by rw [z]; exact h1)]
  rw [if_neg h1]
  by_cases h2 : nI 9 < v
  · rw [if_pos h2, tn0, bad, show rsR v w x = none from pif_0 fun h => h.2.1 ((t9 v).mp h2)]
  rw [if_neg h2, tn1, r_within, tbI_v]
  by_cases h3 : w < nI 0
  · rw [if_pos h3, tn0, bad, show rsR v w x = none from pif_0 fun h => h.2.2.1 (by rw [z]; exact h3)]
  rw [if_neg h3]
  by_cases h4 : nI 9 < w
  · rw [if_pos h4, tn0, bad, show rsR v w x = none from pif_0 fun h => h.2.2.2.1 ((t9 w).mp h4)]
  rw [if_neg h4, tn1]
  by_cases h5 : x < (-1 : Int32)
  · rw [tif_pos h5, bad, show rsR v w x = none from pif_0 fun h => Int32.not_lt.mpr h.2.2.2.2 h5]
  rw [tif_neg h5]
  rw [← z] at h1 h3
  have hm : mayR v w x := ⟨h1, fun h => h2 ((t9 v).mpr h), h3, fun h => h4 ((t9 w).mpr h), Int32.not_lt.mp h5⟩
  have e0 := r_41 (v := v) (w := w) (x := x) (G := G) 100 0 rfl
  rw [show cnR v w 0 = 0 from rfl, show fdR v w x 0 = -1 from rfl] at e0
  rw [e0, e_X11_rests_177, tn1, show rsR v w x = pif (x < 0) (some (nI (cnR v w 100))) (pif (fdR v w x 100 < 0) none (some (fdR v w x 100))) from pif_1 hm]
  by_cases h6 : x < 0
  · rw [tif_pos h6, pif_1 h6, e_X11_rests_192, e_X11_rests_197]
    dsimp only
    rw [tif_neg (by rw [gI_eq]; decide +kernel), tif_pos h6]
  · rw [tif_neg h6, pif_0 h6]
    by_cases h7 : fdR v w x 100 < 0
    · rw [tif_pos h7, pif_1 h7, e_X11_rests_196, e_X11_rests_197]
      dsimp only
      rw [tif_pos (by rw [gI_eq]; decide +kernel)]
    · rw [tif_neg h7, pif_0 h7, e_X11_rests_192, e_X11_rests_197]
      dsimp only
      rw [tif_neg (by rw [gI_eq]; decide +kernel), tif_neg h6]
theorem INV.thr2 {G : tH} {t : Int32} (h : INV G) : INV (sI G 1100 0 t) := by
  obtain ⟨p, fr, q, pr, lw, σ, τ, ν, L, tx, nm, hM, hN, hC, hR⟩ := h
  exact ⟨p, fr, q, pr, lw, σ, τ, ν, L, tx, nm, hM, hN, hC.kept (tfr.sI (by unfold zRef; omega)), hR⟩
