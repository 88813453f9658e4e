/-! PURE: words by their numbers -/
def wdL : List (List Nat) := [[20, 15, 23, 14], [13, 5, 1, 14, 19], [3, 15, 13, 16, 1, 14, 25], [3, 15, 9, 14, 19], [8, 1, 18, 22, 5, 19, 20], [7, 18, 15, 23, 19], [15, 4, 4, 19], [10, 21, 18, 15, 18], [8, 15, 12, 4, 19], [16, 18, 9, 3, 5], [20, 9, 20, 8, 5], [2, 1, 18], [1, 12, 15, 14, 5], [15, 23, 5, 19], [2, 9, 4], [1, 23, 1, 18, 4], [25, 5, 1, 18], [20, 1, 11, 5], [12, 5, 14, 4], [3, 1, 12, 12], [19, 16, 1, 18, 5], [2, 18, 9, 2, 5], [19, 21, 5], [3, 12, 15, 19, 5], [16, 12, 1, 9, 14], [18, 9, 3, 8], [16, 18, 15, 21, 4], [16, 15, 18, 20], [8, 15, 14, 5, 19, 20], [19, 20, 18, 1, 23], [14, 15, 2, 12, 5], [6, 1, 9, 18], [14, 15, 20], [1, 14, 4], [15, 18], [23, 5, 1, 12, 20, 8], [3, 18, 15, 16], [4, 5, 2, 20]]
def fx (l : List Nat) : List (List Nat) → Nat
  | [] => 0
  | x :: xs => if x = l then 0 else fx l xs + 1
def wn (l : List Nat) : Nat := fx l wdL
theorem fx_at {l : List Nat} : ∀ L : List (List Nat), fx l L < L.length → L.getD (fx l L) [] = l
  | [], h => absurd h (by show ¬ (fx l [] < 0); omega)
  | x :: xs, h => by
    unfold fx at h ⊢
    by_cases e : x = l
    · rw [if_pos e]; exact e
    · rw [if_neg e] at h ⊢
      have := fx_at (l := l) xs (by rw [List.length_cons] at h; omega)
      exact this
theorem fx_le {l : List Nat} : ∀ L : List (List Nat), fx l L ≤ L.length
  | [] => Nat.le_refl _
  | x :: xs => by
    unfold fx
    by_cases e : x = l
    · rw [if_pos e]; omega
    · rw [if_neg e, List.length_cons]
      have := fx_le (l := l) xs
      omega
theorem wn_le (l : List Nat) : wn l ≤ 38 := fx_le wdL
theorem wn_of : ∀ w, w < 38 → wn (wdL.getD w []) = w := by decide +kernel
theorem wn_at {l : List Nat} {w : Nat} (hw : w < 38) : wn l = w ↔ wdL.getD w [] = l := by
  constructor
  · intro h
    have := fx_at (l := l) wdL (by show wn l < 38; omega)
    rw [← h]; exact this
  · intro h; rw [← h]; exact wn_of w hw
theorem wd_ok : ∀ w, w < 38 → okW (wdL.getD w []) := by unfold okW; decide +kernel
theorem wd_37 : ∀ w, w < 38 → wcode 37 (wdL.getD w []) = mWords.getD w 0 := by decide +kernel
/-! codes of words -/
def rcode (B : Nat) : List Nat → Nat
  | [] => 0
  | x :: xs => x + B * rcode B xs
theorem wc_r (B : Nat) : ∀ l, wcode B l.reverse = rcode B l
  | [] => rfl
  | x :: xs => by
    rw [List.reverse_cons, wc_s, wc_r B xs]
    show B * rcode B xs + x = x + B * rcode B xs
    exact Nat.add_comm _ _
theorem rc_inj {B : Nat} (hB : 27 ≤ B) : ∀ l l' : List Nat, (∀ x, x ∈ l → 1 ≤ x ∧ x ≤ 26) → (∀ x, x ∈ l' → 1 ≤ x ∧ x ≤ 26) → rcode B l = rcode B l' → l = l'
  | [], [], _, _, _ => rfl
  | [], y :: ys, _, h2, e => by
    have := h2 y (List.mem_cons_self ..)
    unfold rcode at e
    omega
  | x :: xs, [], h1, _, e => by
    have := h1 x (List.mem_cons_self ..)
    unfold rcode at e
    omega
  | x :: xs, y :: ys, h1, h2, e => by
    have a1 := h1 x (List.mem_cons_self ..)
    have a2 := h2 y (List.mem_cons_self ..)
    unfold rcode at e
    have m1 : (x + B * rcode B xs) % B = x := by rw [Nat.add_mul_mod_self_left]; exact Nat.mod_eq_of_lt (by omega)
    have m2 : (y + B * rcode B ys) % B = y := by rw [Nat.add_mul_mod_self_left]; exact Nat.mod_eq_of_lt (by omega)
    have exy : x = y := by rw [← m1, ← m2, e]
    subst exy
    have e2 : B * rcode B xs = B * rcode B ys := by omega
    have e3 : rcode B xs = rcode B ys := Nat.eq_of_mul_eq_mul_left (by omega) e2
    rw [rc_inj hB xs ys (fun z hz => h1 z (List.mem_cons_of_mem _ hz)) (fun z hz => h2 z (List.mem_cons_of_mem _ hz)) e3]
theorem wc_inj {B : Nat} (hB : 27 ≤ B) {l l' : List Nat} (h1 : okW l) (h2 : okW l') (e : wcode B l = wcode B l') : l = l' := by
  have e1 : rcode B l.reverse = rcode B l'.reverse := by rw [← wc_r, ← wc_r, List.reverse_reverse, List.reverse_reverse]; exact e
  have := rc_inj hB l.reverse l'.reverse (fun x hx => h1.2.2 x (List.mem_reverse.mp hx)) (fun x hx => h2.2.2 x (List.mem_reverse.mp hx)) e1
  have h3 := congrArg List.reverse this
  rwa [List.reverse_reverse, List.reverse_reverse] at h3
theorem rc_lt {B : Nat} (hB : 27 ≤ B) : ∀ l : List Nat, (∀ x, x ∈ l → 1 ≤ x ∧ x ≤ 26) → rcode B l < B ^ l.length
  | [], _ => by show 0 < B ^ 0; rw [Nat.pow_zero]; omega
  | x :: xs, h => by
    have a1 := h x (List.mem_cons_self ..)
    have a2 := rc_lt hB xs (fun z hz => h z (List.mem_cons_of_mem _ hz))
    unfold rcode
    rw [List.length_cons, Nat.pow_succ]
    have a3 : B * (rcode B xs + 1) ≤ B * B ^ xs.length := Nat.mul_le_mul_left B a2
    rw [Nat.mul_comm (B ^ xs.length) B]
    rw [Nat.mul_add, Nat.mul_one] at a3
    omega
theorem wc_lt {B : Nat} (hB : 27 ≤ B) (hB2 : B ≤ 37) {l : List Nat} (h : okW l) : wcode B l < 2 ^ 63 := by
  have e : wcode B l = rcode B l.reverse := by rw [← wc_r, List.reverse_reverse]
  have h1 := rc_lt hB l.reverse (fun x hx => h.2.2 x (List.mem_reverse.mp hx))
  rw [List.length_reverse] at h1
  have h2 : B ^ l.length ≤ B ^ 8 := Nat.pow_le_pow_right (by omega) h.2.1
  have h3 : B ^ 8 ≤ 37 ^ 8 := Nat.pow_le_pow_left hB2 8
  have h4 : (37 : Nat) ^ 8 < 2 ^ 63 := by decide +kernel
  rw [e]
  omega
theorem lW_eq {B : Nat} (hB : 27 ≤ B) (hB2 : B ≤ 37) {l l' : List Nat} (h1 : okW l) (h2 : okW l') : lN (wcode B l) = lN (wcode B l') ↔ l = l' := by
  rw [pk_lEQ (wc_lt hB hB2 h1) (wc_lt hB hB2 h2)]
  exact ⟨fun e => wc_inj hB h1 h2 e, fun e => by rw [e]⟩
/-- a token that is a word -/
theorem wl_ok {z : mZ} {k : Nat} (h : kd z k = 1) : okW (wl z k) := by
  unfold kd at h
  have h1 : tst z k < z.1 := by
    refine Classical.byContradiction fun q => ?_
    rw [tkd_0.mpr q] at h
    omega
  by_cases hl : isLt (z.2 (tst z k))
  · obtain ⟨a1, a2⟩ := tk_let h1 hl
    have hg := ru_gt h1 hl
    rw [a2] at h
    by_cases q : ru isLt z (tst z k) - tst z k ≤ 8
    · unfold wl
      rw [a1]
      refine ⟨fun e => ?_, by rw [gl_len]; exact q, fun x hx => ?_⟩
      · have := congrArg List.length e
        rw [gl_len] at this
        have : ru isLt z (tst z k) - tst z k = 0 := this
        omega
      · obtain ⟨i, b1, b2, b3⟩ := gl_mem hx
        have := ru_all b1 b2
        unfold isLt at this
        omega
    · rw [pif_0 q] at h; omega
  · by_cases hd : isDg (z.2 (tst z k))
    · rw [(tk_dig h1 hl hd).2] at h
      by_cases q : ru isDg z (tst z k) - tst z k ≤ 4
      · rw [pif_1 q] at h; omega
      · rw [pif_0 q] at h; omega
    · rw [(tk_sgn h1 hl hd).2] at h
      by_cases q : isSg (z.2 (tst z k))
      · rw [pif_1 q] at h; omega
      · rw [pif_0 q] at h; omega
/-- the number of a token that is a word, or 38 -/
noncomputable def wN (z : mZ) (k : Nat) : Nat := pif (kd z k = 1) (wn (wl z k)) 38
theorem wN_le {z : mZ} {k : Nat} : wN z k ≤ 38 := by
  unfold wN
  by_cases h : kd z k = 1
  · rw [pif_1 h]; exact wn_le _
  · rw [pif_0 h]; omega
theorem wN_kd {z : mZ} {k : Nat} (h : wN z k < 38) : kd z k = 1 := by
  refine Classical.byContradiction fun q => ?_
  unfold wN at h
  rw [pif_0 q] at h
  omega
/-! the strings of the class, their words by number -/
def oI (o : Option Nat) : Int32 := match o with
  | none => -1
  | some j => nI j
def fi : List Nat → Nat → Nat → Option Nat
  | [], _, _ => none
  | c :: cs, i, t => if c = t then some i else fi cs (i + 1) t
def waF (f : Nat → Nat) (t : Nat) : Nat → Nat → Nat → Nat → Option Nat
  | 0, _, i, v => if v = t then some i else none
  | m + 1, p, i, v => cond (Nat.beq (f p) 32) (if v = t then some i else waF f t m (p + 1) (i + 1) 0) (waF f t m (p + 1) i (v * 32 + (f p - 96)))
def waK (f : Nat → Nat) : Nat → Nat → Nat → Bool
  | 0, _, v => Nat.blt v 9223372036854775808
  | m + 1, p, v => Nat.blt v 9223372036854775808 && cond (Nat.beq (f p) 32) (waK f m (p + 1) 0) (Nat.ble 97 (f p) && Nat.ble (f p) 122 && waK f m (p + 1) (v * 32 + (f p - 96)))
theorem byte_c : ∀ b, b < 127 → ((nI b &&& nI 255).toUInt32 % 65536).toInt32 = nI b := by decide +kernel
theorem v_charAt {o p b n : Nat} {G : tH} (hn : tslen.getD o 0 = n) (hp : p < n) (hn2 : n < 1000) (hb : (tsbyt.getD o []).getD p 0 = nI b) (hb2 : b < 127) : V_J0_charAt_5068e o (nI p) G = some (some (vI (nI b)), G) := by
  rw [e_J0_charAt_5068e, v_latin, tbI_v, tn1, e_J1_charAt_3b067, e_J0_checkIndex_df160, tlt0 (by omega), hn, show Int32.ofNat n = nI n from rfl, tltP (by omega) (by omega) hp, tbV_v, ttin hp (by omega), nI_clamp (by omega), hb, byte_c b hb2, tif_pos (char_ok b hb2), tbI_v, tif_pos (char_ok b hb2)]
theorem v_slen {o n : Nat} {G : tH} (hn : tslen.getD o 0 = n) (hn2 : n < 1000) : V_J0_length_8abf5 o G = some (some (vI (nI n)), G) := by
  rw [e_J0_length_8abf5, v_coder, tbI_v, hn, show Int32.ofNat n = nI n from rfl, pk_shrN (by omega) _ 0 (by decide +kernel), Nat.pow_zero, Nat.div_one]
theorem lcE {a b : Nat} {x y : Option tRes} (ha : a < 2 ^ 63) (hb : b < 2 ^ 63) (h : a = b) : tif (lg_cmp (lN a) (lN b) = 0) x y = x := tif_pos ((lg_cmp_eq _ _).mpr (by rw [h]))
theorem lcN {a b : Nat} {x y : Option tRes} (ha : a < 2 ^ 63) (hb : b < 2 ^ 63) (h : a ≠ b) : tif (lg_cmp (lN a) (lN b) = 0) x y = y := tif_neg fun q => h ((pk_lEQ ha hb).mp ((lg_cmp_eq _ _).mp q))
theorem v_wa {o n t : Nat} {f : Nat → Nat} {G : tH} (hn : tslen.getD o 0 = n) (hn2 : n < 1000) (hb : ∀ p, p < n → (tsbyt.getD o []).getD p 0 = nI (f p)) (hG : gL G 805 0 = lN t) (ht : t < 2 ^ 63) : ∀ m p i v, p + m = n → waK f m p v = true → V_X8_wordAmong_17 o (nI i) (lN v) (nI p) G = some (some (vI (oI (waF f t m p i v))), G) := by
  intro m
  induction m with
  | zero =>
    intro p i v hp hK
    have hv : v < 2 ^ 63 := Nat.le_of_ble_eq_true hK
    rw [e_X8_wordAmong_17, v_slen hn hn2, tbI_v, tltM (by omega) (by omega) (by omega), hG]
    unfold waF
    by_cases q : v = t
    · rw [lcE hv ht q, if_pos q]; rfl
    · rw [lcN hv ht q, if_neg q]; rfl
  | succ m ih =>
    intro p i v hp hK
    unfold waK at hK
    rw [Bool.and_eq_true] at hK
    have hv : v < 2 ^ 63 := Nat.le_of_ble_eq_true hK.1
    rw [e_X8_wordAmong_17, v_slen hn hn2, tbI_v, tltP (by omega) (by omega) (by omega)]
    unfold waF
    cases hq : Nat.beq (f p) 32 with
    | true =>
      have h32 : f p = 32 := Nat.eq_of_beq_eq_true hq
      have hK2 : waK f m (p + 1) 0 = true := by have := hK.2; rw [hq] at this; exact this
      rw [v_charAt hn (by omega) hn2 (hb p (by omega)) (by omega), tbI_v, teqP h32, hG, cond_true]
      by_cases q : v = t
      · rw [lcE hv ht q, if_pos q]; rfl
      · rw [lcN hv ht q, if_neg q, nI_add, nI_add, ih (p + 1) (i + 1) 0 (by omega) hK2]
    | false =>
      have h32 : f p ≠ 32 := Nat.ne_of_beq_eq_false hq
      have hK2 := hK.2
      rw [hq, cond_false, Bool.and_eq_true, Bool.and_eq_true] at hK2
      have b1 : 97 ≤ f p := Nat.le_of_ble_eq_true hK2.1.1
      have b2 : f p ≤ 122 := Nat.le_of_ble_eq_true hK2.1.2
      rw [v_charAt hn (by omega) hn2 (hb p (by omega)) (by omega), tbI_v, teqM (by omega) (by omega) h32, v_charAt hn (by omega) hn2 (hb p (by omega)) (by omega), tbI_v, cond_false, nI_sub b1, nI_add, nI_l (by omega), lN_mul, lN_add, nI_add, show f p - 97 + 1 = f p - 96 by omega, ih (p + 1) i _ (by omega) hK2.2]
def sW : Nat → List Nat := fun o => match o with
  | 1 => [0, 2, 4, 7, 10, 11, 12, 13]
  | 2 => [14, 15, 16, 17, 18, 19, 20, 21, 22, 23]
  | 3 => [24, 25, 26, 27]
  | 4 => [28, 29, 30, 31]
  | 5 => [1, 3, 5, 6, 8, 9, 32, 33, 34]
  | 6 => [1]
  | 7 => [3]
  | 8 => [5]
  | 9 => [6]
  | 10 => [8]
  | 11 => [9]
  | 12 => [35, 36, 37]
  | 13 => [32]
  | 14 => [33, 34]
  | _ => []
def sC (o : Nat) : List Nat := (sW o).map fun w => wcode 32 (wdL.getD w [])
def sB1 : Nat → Nat := fun p => ([116, 111, 119, 110, 32, 99, 111, 109, 112, 97, 110, 121, 32, 104, 97, 114, 118, 101, 115, 116, 32, 106, 117, 114, 111, 114, 32, 116, 105, 116, 104, 101, 32, 98, 97, 114, 32, 97, 108, 111, 110, 101, 32, 111, 119, 101, 115] : List Nat).getD p 0
theorem sb_1 : (∀ p, p < 47 → (tsbyt.getD 1 []).getD p 0 = nI (sB1 p)) ∧ waK sB1 47 0 0 = true := by decide +kernel
set_option maxRecDepth 10000 in
theorem sf_1 (t : Nat) : waF sB1 t 47 0 0 0 = fi (sC 1) 0 t := rfl
theorem vw_1 {t : Nat} {G : tH} (hG : gL G 805 0 = lN t) (ht : t < 2 ^ 63) : V_X8_wordAmong_17 1 (nI 0) (lN 0) (nI 0) G = some (some (vI (oI (fi (sC 1) 0 t))), G) := by rw [v_wa (o := 1) (n := 47) (f := sB1) rfl (by omega) sb_1.1 hG ht 47 0 0 0 rfl sb_1.2, sf_1]
def sB2 : Nat → Nat := fun p => ([98, 105, 100, 32, 97, 119, 97, 114, 100, 32, 121, 101, 97, 114, 32, 116, 97, 107, 101, 32, 108, 101, 110, 100, 32, 99, 97, 108, 108, 32, 115, 112, 97, 114, 101, 32, 98, 114, 105, 98, 101, 32, 115, 117, 101, 32, 99, 108, 111, 115, 101] : List Nat).getD p 0
theorem sb_2 : (∀ p, p < 51 → (tsbyt.getD 2 []).getD p 0 = nI (sB2 p)) ∧ waK sB2 51 0 0 = true := by decide +kernel
set_option maxRecDepth 10000 in
theorem sf_2 (t : Nat) : waF sB2 t 51 0 0 0 = fi (sC 2) 0 t := rfl
theorem vw_2 {t : Nat} {G : tH} (hG : gL G 805 0 = lN t) (ht : t < 2 ^ 63) : V_X8_wordAmong_17 2 (nI 0) (lN 0) (nI 0) G = some (some (vI (oI (fi (sC 2) 0 t))), G) := by rw [v_wa (o := 2) (n := 51) (f := sB2) rfl (by omega) sb_2.1 hG ht 51 0 0 0 rfl sb_2.2, sf_2]
def sB3 : Nat → Nat := fun p => ([112, 108, 97, 105, 110, 32, 114, 105, 99, 104, 32, 112, 114, 111, 117, 100, 32, 112, 111, 114, 116] : List Nat).getD p 0
theorem sb_3 : (∀ p, p < 21 → (tsbyt.getD 3 []).getD p 0 = nI (sB3 p)) ∧ waK sB3 21 0 0 = true := by decide +kernel
set_option maxRecDepth 10000 in
theorem sf_3 (t : Nat) : waF sB3 t 21 0 0 0 = fi (sC 3) 0 t := rfl
theorem vw_3 {t : Nat} {G : tH} (hG : gL G 805 0 = lN t) (ht : t < 2 ^ 63) : V_X8_wordAmong_17 3 (nI 0) (lN 0) (nI 0) G = some (some (vI (oI (fi (sC 3) 0 t))), G) := by rw [v_wa (o := 3) (n := 21) (f := sB3) rfl (by omega) sb_3.1 hG ht 21 0 0 0 rfl sb_3.2, sf_3]
def sB4 : Nat → Nat := fun p => ([104, 111, 110, 101, 115, 116, 32, 115, 116, 114, 97, 119, 32, 110, 111, 98, 108, 101, 32, 102, 97, 105, 114] : List Nat).getD p 0
theorem sb_4 : (∀ p, p < 23 → (tsbyt.getD 4 []).getD p 0 = nI (sB4 p)) ∧ waK sB4 23 0 0 = true := by decide +kernel
set_option maxRecDepth 10000 in
theorem sf_4 (t : Nat) : waF sB4 t 23 0 0 0 = fi (sC 4) 0 t := rfl
theorem vw_4 {t : Nat} {G : tH} (hG : gL G 805 0 = lN t) (ht : t < 2 ^ 63) : V_X8_wordAmong_17 4 (nI 0) (lN 0) (nI 0) G = some (some (vI (oI (fi (sC 4) 0 t))), G) := by rw [v_wa (o := 4) (n := 23) (f := sB4) rfl (by omega) sb_4.1 hG ht 23 0 0 0 rfl sb_4.2, sf_4]
def sB5 : Nat → Nat := fun p => ([109, 101, 97, 110, 115, 32, 99, 111, 105, 110, 115, 32, 103, 114, 111, 119, 115, 32, 111, 100, 100, 115, 32, 104, 111, 108, 100, 115, 32, 112, 114, 105, 99, 101, 32, 110, 111, 116, 32, 97, 110, 100, 32, 111, 114] : List Nat).getD p 0
theorem sb_5 : (∀ p, p < 45 → (tsbyt.getD 5 []).getD p 0 = nI (sB5 p)) ∧ waK sB5 45 0 0 = true := by decide +kernel
set_option maxRecDepth 10000 in
theorem sf_5 (t : Nat) : waF sB5 t 45 0 0 0 = fi (sC 5) 0 t := rfl
theorem vw_5 {t : Nat} {G : tH} (hG : gL G 805 0 = lN t) (ht : t < 2 ^ 63) : V_X8_wordAmong_17 5 (nI 0) (lN 0) (nI 0) G = some (some (vI (oI (fi (sC 5) 0 t))), G) := by rw [v_wa (o := 5) (n := 45) (f := sB5) rfl (by omega) sb_5.1 hG ht 45 0 0 0 rfl sb_5.2, sf_5]
def sB6 : Nat → Nat := fun p => ([109, 101, 97, 110, 115] : List Nat).getD p 0
theorem sb_6 : (∀ p, p < 5 → (tsbyt.getD 6 []).getD p 0 = nI (sB6 p)) ∧ waK sB6 5 0 0 = true := by decide +kernel
set_option maxRecDepth 10000 in
theorem sf_6 (t : Nat) : waF sB6 t 5 0 0 0 = fi (sC 6) 0 t := rfl
theorem vw_6 {t : Nat} {G : tH} (hG : gL G 805 0 = lN t) (ht : t < 2 ^ 63) : V_X8_wordAmong_17 6 (nI 0) (lN 0) (nI 0) G = some (some (vI (oI (fi (sC 6) 0 t))), G) := by rw [v_wa (o := 6) (n := 5) (f := sB6) rfl (by omega) sb_6.1 hG ht 5 0 0 0 rfl sb_6.2, sf_6]
def sB7 : Nat → Nat := fun p => ([99, 111, 105, 110, 115] : List Nat).getD p 0
theorem sb_7 : (∀ p, p < 5 → (tsbyt.getD 7 []).getD p 0 = nI (sB7 p)) ∧ waK sB7 5 0 0 = true := by decide +kernel
set_option maxRecDepth 10000 in
theorem sf_7 (t : Nat) : waF sB7 t 5 0 0 0 = fi (sC 7) 0 t := rfl
theorem vw_7 {t : Nat} {G : tH} (hG : gL G 805 0 = lN t) (ht : t < 2 ^ 63) : V_X8_wordAmong_17 7 (nI 0) (lN 0) (nI 0) G = some (some (vI (oI (fi (sC 7) 0 t))), G) := by rw [v_wa (o := 7) (n := 5) (f := sB7) rfl (by omega) sb_7.1 hG ht 5 0 0 0 rfl sb_7.2, sf_7]
def sB8 : Nat → Nat := fun p => ([103, 114, 111, 119, 115] : List Nat).getD p 0
theorem sb_8 : (∀ p, p < 5 → (tsbyt.getD 8 []).getD p 0 = nI (sB8 p)) ∧ waK sB8 5 0 0 = true := by decide +kernel
set_option maxRecDepth 10000 in
theorem sf_8 (t : Nat) : waF sB8 t 5 0 0 0 = fi (sC 8) 0 t := rfl
theorem vw_8 {t : Nat} {G : tH} (hG : gL G 805 0 = lN t) (ht : t < 2 ^ 63) : V_X8_wordAmong_17 8 (nI 0) (lN 0) (nI 0) G = some (some (vI (oI (fi (sC 8) 0 t))), G) := by rw [v_wa (o := 8) (n := 5) (f := sB8) rfl (by omega) sb_8.1 hG ht 5 0 0 0 rfl sb_8.2, sf_8]
def sB9 : Nat → Nat := fun p => ([111, 100, 100, 115] : List Nat).getD p 0
theorem sb_9 : (∀ p, p < 4 → (tsbyt.getD 9 []).getD p 0 = nI (sB9 p)) ∧ waK sB9 4 0 0 = true := by decide +kernel
set_option maxRecDepth 10000 in
theorem sf_9 (t : Nat) : waF sB9 t 4 0 0 0 = fi (sC 9) 0 t := rfl
theorem vw_9 {t : Nat} {G : tH} (hG : gL G 805 0 = lN t) (ht : t < 2 ^ 63) : V_X8_wordAmong_17 9 (nI 0) (lN 0) (nI 0) G = some (some (vI (oI (fi (sC 9) 0 t))), G) := by rw [v_wa (o := 9) (n := 4) (f := sB9) rfl (by omega) sb_9.1 hG ht 4 0 0 0 rfl sb_9.2, sf_9]
def sB10 : Nat → Nat := fun p => ([104, 111, 108, 100, 115] : List Nat).getD p 0
theorem sb_10 : (∀ p, p < 5 → (tsbyt.getD 10 []).getD p 0 = nI (sB10 p)) ∧ waK sB10 5 0 0 = true := by decide +kernel
set_option maxRecDepth 10000 in
theorem sf_10 (t : Nat) : waF sB10 t 5 0 0 0 = fi (sC 10) 0 t := rfl
theorem vw_10 {t : Nat} {G : tH} (hG : gL G 805 0 = lN t) (ht : t < 2 ^ 63) : V_X8_wordAmong_17 10 (nI 0) (lN 0) (nI 0) G = some (some (vI (oI (fi (sC 10) 0 t))), G) := by rw [v_wa (o := 10) (n := 5) (f := sB10) rfl (by omega) sb_10.1 hG ht 5 0 0 0 rfl sb_10.2, sf_10]
def sB11 : Nat → Nat := fun p => ([112, 114, 105, 99, 101] : List Nat).getD p 0
theorem sb_11 : (∀ p, p < 5 → (tsbyt.getD 11 []).getD p 0 = nI (sB11 p)) ∧ waK sB11 5 0 0 = true := by decide +kernel
set_option maxRecDepth 10000 in
theorem sf_11 (t : Nat) : waF sB11 t 5 0 0 0 = fi (sC 11) 0 t := rfl
theorem vw_11 {t : Nat} {G : tH} (hG : gL G 805 0 = lN t) (ht : t < 2 ^ 63) : V_X8_wordAmong_17 11 (nI 0) (lN 0) (nI 0) G = some (some (vI (oI (fi (sC 11) 0 t))), G) := by rw [v_wa (o := 11) (n := 5) (f := sB11) rfl (by omega) sb_11.1 hG ht 5 0 0 0 rfl sb_11.2, sf_11]
def sB12 : Nat → Nat := fun p => ([119, 101, 97, 108, 116, 104, 32, 99, 114, 111, 112, 32, 100, 101, 98, 116] : List Nat).getD p 0
theorem sb_12 : (∀ p, p < 16 → (tsbyt.getD 12 []).getD p 0 = nI (sB12 p)) ∧ waK sB12 16 0 0 = true := by decide +kernel
set_option maxRecDepth 10000 in
theorem sf_12 (t : Nat) : waF sB12 t 16 0 0 0 = fi (sC 12) 0 t := rfl
theorem vw_12 {t : Nat} {G : tH} (hG : gL G 805 0 = lN t) (ht : t < 2 ^ 63) : V_X8_wordAmong_17 12 (nI 0) (lN 0) (nI 0) G = some (some (vI (oI (fi (sC 12) 0 t))), G) := by rw [v_wa (o := 12) (n := 16) (f := sB12) rfl (by omega) sb_12.1 hG ht 16 0 0 0 rfl sb_12.2, sf_12]
def sB13 : Nat → Nat := fun p => ([110, 111, 116] : List Nat).getD p 0
theorem sb_13 : (∀ p, p < 3 → (tsbyt.getD 13 []).getD p 0 = nI (sB13 p)) ∧ waK sB13 3 0 0 = true := by decide +kernel
set_option maxRecDepth 10000 in
theorem sf_13 (t : Nat) : waF sB13 t 3 0 0 0 = fi (sC 13) 0 t := rfl
theorem vw_13 {t : Nat} {G : tH} (hG : gL G 805 0 = lN t) (ht : t < 2 ^ 63) : V_X8_wordAmong_17 13 (nI 0) (lN 0) (nI 0) G = some (some (vI (oI (fi (sC 13) 0 t))), G) := by rw [v_wa (o := 13) (n := 3) (f := sB13) rfl (by omega) sb_13.1 hG ht 3 0 0 0 rfl sb_13.2, sf_13]
def sB14 : Nat → Nat := fun p => ([97, 110, 100, 32, 111, 114] : List Nat).getD p 0
theorem sb_14 : (∀ p, p < 6 → (tsbyt.getD 14 []).getD p 0 = nI (sB14 p)) ∧ waK sB14 6 0 0 = true := by decide +kernel
set_option maxRecDepth 10000 in
theorem sf_14 (t : Nat) : waF sB14 t 6 0 0 0 = fi (sC 14) 0 t := rfl
theorem vw_14 {t : Nat} {G : tH} (hG : gL G 805 0 = lN t) (ht : t < 2 ^ 63) : V_X8_wordAmong_17 14 (nI 0) (lN 0) (nI 0) G = some (some (vI (oI (fi (sC 14) 0 t))), G) := by rw [v_wa (o := 14) (n := 6) (f := sB14) rfl (by omega) sb_14.1 hG ht 6 0 0 0 rfl sb_14.2, sf_14]
theorem vw {o t : Nat} {G : tH} (ho : 1 ≤ o) (ho2 : o ≤ 14) (hG : gL G 805 0 = lN t) (ht : t < 2 ^ 63) : V_X8_wordAmong_17 o (nI 0) (lN 0) (nI 0) G = some (some (vI (oI (fi (sC o) 0 t))), G) := by
  rcases (show o = 1 ∨ o = 2 ∨ o = 3 ∨ o = 4 ∨ o = 5 ∨ o = 6 ∨ o = 7 ∨ o = 8 ∨ o = 9 ∨ o = 10 ∨ o = 11 ∨ o = 12 ∨ o = 13 ∨ o = 14 by omega) with h | h | h | h | h | h | h | h | h | h | h | h | h | h <;> subst h
  · exact vw_1 hG ht
  · exact vw_2 hG ht
  · exact vw_3 hG ht
  · exact vw_4 hG ht
  · exact vw_5 hG ht
  · exact vw_6 hG ht
  · exact vw_7 hG ht
  · exact vw_8 hG ht
  · exact vw_9 hG ht
  · exact vw_10 hG ht
  · exact vw_11 hG ht
  · exact vw_12 hG ht
  · exact vw_13 hG ht
  · exact vw_14 hG ht
theorem sW_lt : ∀ o, o < 15 → ∀ w, w ∈ sW o → w < 38 := by decide +kernel
theorem fi_w {l : List Nat} (hl : okW l) : ∀ (ws : List Nat) i, (∀ w, w ∈ ws → w < 38) → fi (ws.map fun w => wcode 32 (wdL.getD w [])) i (wcode 32 l) = fi ws i (wn l)
  | [], _, _ => rfl
  | w :: ws, i, h => by
    have hw := h w (List.mem_cons_self ..)
    have ih := fi_w hl ws (i + 1) (fun x hx => h x (List.mem_cons_of_mem _ hx))
    rw [List.map_cons]
    unfold fi
    by_cases e : w = wn l
    · rw [if_pos e, if_pos (by rw [(wn_at hw).mp e.symm])]
    · rw [if_neg e, if_neg (fun q => e ((wn_at hw).mpr (wc_inj (by omega) (wd_ok w hw) hl q)).symm), ih]
theorem fi_no : ∀ (ws : List Nat) i, (∀ w, w ∈ ws → w < 38) → fi ws i 38 = none
  | [], _, _ => rfl
  | w :: ws, i, h => by
    have hw := h w (List.mem_cons_self ..)
    unfold fi
    rw [if_neg (by omega), fi_no ws (i + 1) (fun x hx => h x (List.mem_cons_of_mem _ hx))]
/-- which of the words of a string the token is -/
theorem c_among {z : mZ} {k o : Nat} {G : tH} (h : CT G z k) (ho : 1 ≤ o) (ho2 : o ≤ 14) : V_X8_wordAmong o G = some (some (vI (oI (fi (sW o) 0 (wN z k)))), G) := by
  have hkd : gI G 804 0 = nI (kd z k) := h.2.2.2.1
  have h4 : kd z k ≤ 4 := tkd_le
  rw [e_X8_wordAmong, hkd]
  unfold wN
  by_cases q : kd z k = 1
  · rw [teqP q, pif_1 q, vw ho ho2 (h.2.2.2.2.1 q) (wc_lt (by omega) (by omega) (wl_ok q))]
    unfold sC
    rw [show gl 96 z (tst z k) (tke z (tst z k)) = wl z k from rfl, fi_w (wl_ok q) _ _ (sW_lt o (by omega))]
  · rw [teqM (by omega) (by omega) q, pif_0 q, fi_no _ _ (sW_lt o (by omega))]
    rfl
