/-! PURE: reading a token: the class (c_) and the reference (r_) -/
noncomputable def fv (z : mZ) (k w : Nat) : Nat := w + 16 * tst z k
def TK (z : mZ) (N : Nat) : Prop := okZ z ∧ N ≤ z.1 ∧ kd z N = 0 ∧ ∀ j, j < N → kd z j ≠ 0
theorem TK.lt {z : mZ} {N k : Nat} (h : TK z N) (hk : k ≤ N) (hd : kd z k ≠ 0) : k < N := by
  rcases Nat.lt_or_ge k N with q | q
  · exact q
  · exact absurd (by rw [show k = N by omega]; exact h.2.2.1) hd
theorem TK.le {z : mZ} {N : Nat} (h : TK z N) : N ≤ 1000 := Nat.le_trans h.2.1 h.1.1
theorem fv_lt {z : mZ} {k w N : Nat} (h : TK z N) (hw : w ≤ 5) : fv z k w < 2 ^ 31 := by
  have h1 := tst_le (z := z) (k := k)
  have h2 := h.1.1
  unfold fv
  omega
theorem fv_pos {z : mZ} {k w : Nat} (hw : 1 ≤ w) : 0 < fv z k w := by unfold fv; omega
theorem CT.kept {G G' : tH} {z : mZ} {k : Nat} {S : Nat → Nat → Prop} (h : CT G z k) (hf : tfr S G G') (hS : ∀ f, 800 ≤ f → f ≤ 807 → ¬ S f 0) : CT G' z k := by
  have e : ∀ f, 800 ≤ f → f ≤ 807 → gI G' f 0 = gI G f 0 ∧ gL G' f 0 = gL G f 0 ∧ gA G' f 0 = gA G f 0 := fun f h1 h2 => ⟨(hf f 0 (hS f h1 h2)).1, (hf f 0 (hS f h1 h2)).2.1, (hf f 0 (hS f h1 h2)).2.2.2.1⟩
  unfold CT TP T4
  rw [(e 801 (by omega) (by omega)).1, (e 800 (by omega) (by omega)).2.2, (e 802 (by omega) (by omega)).1, (e 803 (by omega) (by omega)).1, (e 804 (by omega) (by omega)).1, (e 805 (by omega) (by omega)).2.1, (e 806 (by omega) (by omega)).1, (e 807 (by omega) (by omega)).1]
  exact h
theorem c_kd {G : tH} {z : mZ} {k : Nat} (h : CT G z k) : gI G 804 0 = nI (kd z k) := h.2.2.2.1
theorem kd_le {z : mZ} {k : Nat} : kd z k ≤ 4 := tkd_le
theorem c_blame {G : tH} {z : mZ} {k w : Nat} (h : CT G z k) (h0 : gI G 808 0 = nI 0) : V_X8_blame (nI w) G = some (some (vI (nI 0)), sI G 808 0 (nI (fv z k w))) := by
  rw [e_X8_blame, h0, tn0]
  dsimp only
  rw [tz0, h.2.2.1, pk_mul, nI_add]
  rfl
theorem c_isSign1 {G : tH} {z : mZ} {k c : Nat} (h : CT G z k) (hc : kd z k = 3 ∧ ch z k = c) : V_X8_isSign (nI c) G = some (some (vI (nI 1)), G) := by
  rw [e_X8_isSign, c_kd h, teqP hc.1, h.2.2.2.2.2.2 hc.1, show z.2 (tst z k) = ch z k from rfl, teqP hc.2, tz1]
theorem c_isSign0 {G : tH} {z : mZ} {k c N : Nat} (hT : TK z N) (h : CT G z k) (hc : ¬ (kd z k = 3 ∧ ch z k = c)) (hcc : c < 127) : V_X8_isSign (nI c) G = some (some (vI (nI 0)), G) := by
  have := kd_le (z := z) (k := k)
  rw [e_X8_isSign, c_kd h]
  by_cases q : kd z k = 3
  · have hs : tst z k < z.1 := Classical.byContradiction fun w => by have : kd z k = 0 := tkd_0.mpr w; omega
    have hx : ch z k ≤ 126 := okX_le (hT.1.2 _ hs)
    rw [teqP q, h.2.2.2.2.2.2 q, show z.2 (tst z k) = ch z k from rfl, teqM (by omega) (by omega) (fun w => hc ⟨q, w⟩), tz0]
  · rw [teqM (by omega) (by omega) q, tz0]
theorem c_sign1 {G : tH} {z : mZ} {k c N : Nat} (hT : TK z N) (h : CT G z k) (hc : kd z k = 3 ∧ ch z k = c) : ∃ G', V_X8_readSign (nI c) G = some (some (vI (nI 1)), G') ∧ CT G' z (k + 1) ∧ tfr zTk G G' := by
  obtain ⟨G', e, h1, h2⟩ := c_adv hT.1 h
  exact ⟨G', by rw [e_X8_readSign, c_isSign1 h hc, tbI_v, tn1, e, tbV_v, tz1], h1, h2⟩
theorem c_sign0 {G : tH} {z : mZ} {k c N : Nat} (hT : TK z N) (h : CT G z k) (h0 : gI G 808 0 = nI 0) (hc : ¬ (kd z k = 3 ∧ ch z k = c)) (hcc : c < 127) : V_X8_readSign (nI c) G = some (some (vI (nI 0)), sI G 808 0 (nI (fv z k 1))) := by
  rw [e_X8_readSign, c_isSign0 hT h hc hcc, tbI_v, tn0, c_blame h h0, tbI_v, tz0]
theorem dig_le {z : mZ} {s : Nat} : ∀ m, (∀ i, s ≤ i → i < s + m → isDg (z.2 i)) → wcode 10 (gl 48 z s (s + m)) < 10 ^ m := by
  intro m
  induction m with
  | zero => intro _; rw [Nat.add_zero, gl_0]; decide
  | succ m ih =>
    intro h
    have h1 := ih (fun i a b => h i a (by omega))
    have h2 := h (s + m) (by omega) (by omega)
    unfold isDg at h2
    rw [← Nat.add_assoc, gl_s (by omega), wc_s, Nat.pow_succ]
    omega
theorem nv_lt {z : mZ} {k : Nat} (h : kd z k = 2) : nv z k < 10000 := by
  unfold kd at h
  have h1 : tst z k < z.1 := by
    refine Classical.byContradiction fun q => ?_
    rw [tkd_0.mpr q] at h
    omega
  by_cases hl : isLt (z.2 (tst z k))
  · rw [(tk_let h1 hl).2] at h
    by_cases q : ru isLt z (tst z k) - tst z k ≤ 8
    · rw [pif_1 q] at h; omega
    · rw [pif_0 q] at h; omega
  · by_cases hd : isDg (z.2 (tst z k))
    · obtain ⟨a1, a2⟩ := tk_dig h1 hl hd
      rw [a2] at h
      by_cases q : ru isDg z (tst z k) - tst z k ≤ 4
      · have hg := ru_gt h1 hd
        have := dig_le (z := z) (s := tst z k) (ru isDg z (tst z k) - tst z k) (fun i b1 b2 => ru_all b1 (by omega))
        rw [show tst z k + (ru isDg z (tst z k) - tst z k) = ru isDg z (tst z k) by omega] at this
        have h4 : 10 ^ (ru isDg z (tst z k) - tst z k) ≤ 10 ^ 4 := Nat.pow_le_pow_right (by omega) q
        unfold nv
        rw [a1]
        omega
      · rw [pif_0 q] at h; omega
    · rw [(tk_sgn h1 hl hd).2] at h
      by_cases q : isSg (z.2 (tst z k))
      · rw [pif_1 q] at h; omega
      · rw [pif_0 q] at h; omega
theorem ch_lt {z : mZ} {k : Nat} (hz : okZ z) (h : kd z k = 3) : ch z k ≤ 126 := by
  refine okX_le (hz.2 _ ?_)
  refine Classical.byContradiction fun q => ?_
  have : kd z k = 0 := tkd_0.mpr q
  omega
/-- a number between -/
def isN (z : mZ) (k lo hi : Nat) : Prop := kd z k = 2 ∧ lo ≤ nv z k ∧ nv z k ≤ hi
/-- what is wrong if there is none -/
noncomputable def nf (z : mZ) (k : Nat) : Nat := pif (kd z k = 2) 4 1
theorem nf_in {z : mZ} {k : Nat} : 1 ≤ nf z k ∧ nf z k ≤ 5 := by
  unfold nf
  by_cases h : kd z k = 2
  · rw [pif_1 h]; omega
  · rw [pif_0 h]; omega
theorem c_num1 {G : tH} {z : mZ} {k lo hi N : Nat} (hT : TK z N) (h : CT G z k) (hlo : lo < 2 ^ 31) (hhi : hi < 2 ^ 31) (hc : isN z k lo hi) : ∃ G', V_X8_readNumber (nI lo) (nI hi) G = some (some (vI (nI (nv z k))), G') ∧ CT G' z (k + 1) ∧ tfr zTk G G' := by
  obtain ⟨G', e, h1, h2⟩ := c_adv hT.1 h
  have := nv_lt hc.1
  refine ⟨G', ?_, h1, h2⟩
  rw [e_X8_readNumber, c_kd h, teqP hc.1, h.2.2.2.2.2.1 hc.1, show wcode 10 (gl 48 z (tst z k) (tke z (tst z k))) = nv z k from rfl, tltM (by omega) (by omega) hc.2.1, tltM (by omega) (by omega) hc.2.2, e, tbV_v]
theorem c_num0 {G : tH} {z : mZ} {k lo hi : Nat} (h : CT G z k) (h0 : gI G 808 0 = nI 0) (hlo : lo < 2 ^ 31) (hhi : hi < 2 ^ 31) (hc : ¬ isN z k lo hi) : V_X8_readNumber (nI lo) (nI hi) G = some (some (vI (-1)), sI G 808 0 (nI (fv z k (nf z k)))) := by
  have h4 := kd_le (z := z) (k := k)
  rw [e_X8_readNumber, c_kd h]
  unfold nf
  by_cases q : kd z k = 2
  · have := nv_lt q
    have e32 : V_X8_readNumber_32 G = some (some (vI (-1)), sI G 808 0 (nI (fv z k 4))) := by rw [e_X8_readNumber_32, c_blame h h0, tbI_v]
    rw [teqP q, h.2.2.2.2.2.1 q, show wcode 10 (gl 48 z (tst z k) (tke z (tst z k))) = nv z k from rfl, pif_1 q, tltN (by omega) (by omega)]
    by_cases q2 : nv z k < lo
    · rw [if_pos q2, e32]
    · rw [if_neg q2, tltP (by omega) (by omega) (by unfold isN at hc; omega), e32]
  · rw [teqM (by omega) (by omega) q, pif_0 q, c_blame h h0, tbI_v]
theorem c_amg1 {G : tH} {z : mZ} {k o j N : Nat} (hT : TK z N) (h : CT G z k) (ho : 1 ≤ o) (ho2 : o ≤ 14) (hj : fi (sW o) 0 (wN z k) = some j) (hj2 : j < 38) : ∃ G', V_X8_readAmong o G = some (some (vI (nI j)), G') ∧ CT G' z (k + 1) ∧ tfr zTk G G' := by
  obtain ⟨G', e, h1, h2⟩ := c_adv hT.1 h
  refine ⟨G', ?_, h1, h2⟩
  rw [e_X8_readAmong, c_among h ho ho2, hj, tbI_v]
  show tif (nI j = -1) _ _ = _
  rw [tif_neg (m1_ne (by omega)), e, tbV_v]
  rfl
theorem c_amg0 {G : tH} {z : mZ} {k o : Nat} (h : CT G z k) (h0 : gI G 808 0 = nI 0) (ho : 1 ≤ o) (ho2 : o ≤ 14) (hj : fi (sW o) 0 (wN z k) = none) : V_X8_readAmong o G = some (some (vI (-1)), sI G 808 0 (nI (fv z k 1))) := by
  rw [e_X8_readAmong, c_among h ho ho2, hj, tbI_v]
  show tif ((-1 : Int32) = -1) _ _ = _
  rw [tif_pos rfl, c_blame h h0, tbI_v]
  rfl
/-- a name -/
def isNa (z : mZ) (k : Nat) : Prop := kd z k = 1 ∧ 35 ≤ wN z k
theorem fi_35 : ∀ n, n ≤ 38 → 35 ≤ n → fi (sW 1) 0 n = none ∧ fi (sW 2) 0 n = none ∧ fi (sW 3) 0 n = none ∧ fi (sW 4) 0 n = none ∧ fi (sW 5) 0 n = none := by decide +kernel
theorem fi_34 : ∀ n, n < 35 → ¬ oI (fi (sW 1) 0 n) = -1 ∨ ¬ oI (fi (sW 2) 0 n) = -1 ∨ ¬ oI (fi (sW 3) 0 n) = -1 ∨ ¬ oI (fi (sW 4) 0 n) = -1 ∨ ¬ oI (fi (sW 5) 0 n) = -1 := by decide +kernel
theorem c_name1 {G : tH} {z : mZ} {k : Nat} (h : CT G z k) (hn : isNa z k) : V_X8_isName G = some (some (vI (nI 1)), G) := by
  obtain ⟨a1, a2, a3, a4, a5⟩ := fi_35 _ (wN_le (z := z) (k := k)) hn.2
  have m : ∀ (x y : Option tRes), tif (oI none = -1) x y = x := fun x y => tif_pos rfl
  rw [e_X8_isName, c_kd h, teqP hn.1, c_among h (by omega) (by omega), a1, tbI_v, m, c_among h (by omega) (by omega), a2, tbI_v, m, c_among h (by omega) (by omega), a3, tbI_v, m, c_among h (by omega) (by omega), a4, tbI_v, m, c_among h (by omega) (by omega), a5, tbI_v, m, tz1]
theorem c_name0 {G : tH} {z : mZ} {k : Nat} (h : CT G z k) (hn : ¬ isNa z k) : V_X8_isName G = some (some (vI (nI 0)), G) := by
  have h4 := kd_le (z := z) (k := k)
  rw [e_X8_isName, c_kd h]
  by_cases q : kd z k = 1
  · have h35 := fi_34 (wN z k) (by unfold isNa at hn; omega)
    rw [teqP q, c_among h (by omega) (by omega), tbI_v]
    by_cases q1 : oI (fi (sW 1) 0 (wN z k)) = -1
    · rw [tif_pos q1, c_among h (by omega) (by omega), tbI_v]
      by_cases q2 : oI (fi (sW 2) 0 (wN z k)) = -1
      · rw [tif_pos q2, c_among h (by omega) (by omega), tbI_v]
        by_cases q3 : oI (fi (sW 3) 0 (wN z k)) = -1
        · rw [tif_pos q3, c_among h (by omega) (by omega), tbI_v]
          by_cases q4 : oI (fi (sW 4) 0 (wN z k)) = -1
          · rw [tif_pos q4, c_among h (by omega) (by omega), tbI_v]
            by_cases q5 : oI (fi (sW 5) 0 (wN z k)) = -1
            · rcases h35 with w | w | w | w | w
              · exact absurd q1 w
              · exact absurd q2 w
              · exact absurd q3 w
              · exact absurd q4 w
              · exact absurd q5 w
            · rw [tif_neg q5, tz0]
          · rw [tif_neg q4, tz0]
        · rw [tif_neg q3, tz0]
      · rw [tif_neg q2, tz0]
    · rw [tif_neg q1, tz0]
  · rw [teqM (by omega) (by omega) q, tz0]
/-! the reference -/
def RT (G : tH) (z : mZ) (N k : Nat) : Prop := (∀ j, j ≤ N → RTk G z j) ∧ k ≤ N ∧ gI G 1107 0 = nI k ∧ gI G 1108 0 = nI 0 ∧ RW G
/-- it has found a fault -/
def RF (G : tH) (v : Nat) : Prop := gI G 1108 0 = nI v ∧ 0 < v ∧ v < 2 ^ 31
theorem RF.kept {G G' : tH} {v : Nat} {S : Nat → Nat → Prop} (h : RF G v) (hf : tfr S G G') (h1 : ¬ S 1108 0) : RF G' v := by
  unfold RF
  rw [(hf 1108 0 h1).1]
  exact h
theorem RT.kept {G G' : tH} {z : mZ} {N k : Nat} {S : Nat → Nat → Prop} (h : RT G z N k) (hf : tfr S G G') (hS : ∀ f, 1104 ≤ f → f ≤ 1109 → ¬ S f 0) : RT G' z N k := by
  have e : ∀ f, 1104 ≤ f → f ≤ 1109 → gI G' f 0 = gI G f 0 ∧ gA G' f 0 = gA G f 0 ∧ gB G' f 0 = gB G f 0 := fun f h1 h2 => ⟨(hf f 0 (hS f h1 h2)).1, (hf f 0 (hS f h1 h2)).2.2.2.1, (hf f 0 (hS f h1 h2)).2.2.2.2⟩
  unfold RT RTk RW
  rw [(e 1104 (by omega) (by omega)).2.1, (e 1105 (by omega) (by omega)).2.1, (e 1106 (by omega) (by omega)).2.2, (e 1107 (by omega) (by omega)).1, (e 1108 (by omega) (by omega)).1, (e 1109 (by omega) (by omega)).2.2]
  exact h
theorem RT.at {G : tH} {z : mZ} {N k k' : Nat} (h : RT G z N k) (hk : k' ≤ N) : RT (sI G 1107 0 (nI k')) z N k' := by
  obtain ⟨a1, a2, a3, a4, a5⟩ := h
  exact ⟨a1, hk, gI_eq, by rw [gI_ne (by omega)]; exact a4, a5⟩
theorem RT.bad {G : tH} {z : mZ} {N k w : Nat} (hT : TK z N) (hw : 1 ≤ w) (hw2 : w ≤ 5) : RF (sI G 1108 0 (nI (fv z k w))) (fv z k w) := ⟨gI_eq, fv_pos hw, fv_lt hT hw2⟩
theorem r_wrong {G : tH} {z : mZ} {N k w : Nat} (hT : TK z N) (h : RT G z N k) : V_X11_wrong (nI w) G = some (none, sI G 1108 0 (nI (fv z k w))) := by
  have := hT.le
  have := h.2.1
  rw [e_X11_wrong, h.2.2.2.1, tn0, h.2.2.1, ttin (by omega) (by omega), nI_clamp (by omega), (h.1 k h.2.1).2.1, pk_mul, nI_add]
  rfl
theorem r_wrongF {G : tH} {v w : Nat} (h : RF G v) : V_X11_wrong (nI w) G = some (none, G) := by
  rw [e_X11_wrong, h.1, tz0M h.2.2 (by have := h.2.1; omega)]
theorem r_isSign1 {G : tH} {z : mZ} {N k c : Nat} (hT : TK z N) (h : RT G z N k) (hc : kd z k = 3 ∧ ch z k = c) : V_X11_isSign (nI c) G = some (some (vI (nI 1)), G) := by
  have := hT.le
  have := h.2.1
  have h5 := ch_lt hT.1 hc.1
  have hk := h.1 k h.2.1
  rw [e_X11_isSign, h.2.2.2.1, tn0, h.2.2.1, ttin (by omega) (by omega), nI_clamp (by omega), hk.1, teqP hc.1, ttin (by omega) (by omega), hk.2.2.2.2 hc.1, nI_l (by omega), lcE (by omega) (by omega) hc.2, tz1]
theorem r_isSign0 {G : tH} {z : mZ} {N k c : Nat} (hT : TK z N) (h : RT G z N k) (hc : ¬ (kd z k = 3 ∧ ch z k = c)) (hcc : c < 127) : V_X11_isSign (nI c) G = some (some (vI (nI 0)), G) := by
  have := hT.le
  have := h.2.1
  have h4 := kd_le (z := z) (k := k)
  have hk := h.1 k h.2.1
  rw [e_X11_isSign, h.2.2.2.1, tn0, h.2.2.1, ttin (by omega) (by omega), nI_clamp (by omega), hk.1]
  by_cases q : kd z k = 3
  · have h5 := ch_lt hT.1 q
    rw [teqP q, ttin (by omega) (by omega), hk.2.2.2.2 q, nI_l (by omega), lcN (by omega) (by omega) (fun w => hc ⟨q, w⟩), tz0]
  · rw [teqM (by omega) (by omega) q, tz0]
theorem r_isSignF {G : tH} {v : Nat} {x : Int32} (h : RF G v) : V_X11_isSign x G = some (some (vI (nI 0)), G) := by
  rw [e_X11_isSign, h.1, tz0M h.2.2 (by have := h.2.1; omega), tz0]
theorem r_sign1 {G : tH} {z : mZ} {N k c : Nat} (hT : TK z N) (h : RT G z N k) (hc : kd z k = 3 ∧ ch z k = c) : V_X11_takeSign (nI c) G = some (none, sI G 1107 0 (nI (k + 1))) := by
  rw [e_X11_takeSign, r_isSign1 hT h hc, tbI_v, tn1]
  dsimp only
  rw [h.2.2.1, nI_add]
theorem r_sign0 {G : tH} {z : mZ} {N k c : Nat} (hT : TK z N) (h : RT G z N k) (hc : ¬ (kd z k = 3 ∧ ch z k = c)) (hcc : c < 127) : V_X11_takeSign (nI c) G = some (none, sI G 1108 0 (nI (fv z k 1))) := by
  rw [e_X11_takeSign, r_isSign0 hT h hc hcc, tbI_v, tn0, r_wrong hT h, tbV_v]
theorem r_signF {G : tH} {v : Nat} {x : Int32} (h : RF G v) : V_X11_takeSign x G = some (none, G) := by
  rw [e_X11_takeSign, r_isSignF h, tbI_v, tn0, r_wrongF h, tbV_v]
theorem r_word {G : tH} {z : mZ} {N k w : Nat} (hT : TK z N) (h : RT G z N k) (hw : w < 38) : V_X11_isWord (nI w) G = some (some (vI (bN (wN z k = w))), G) := by
  have := hT.le
  have := h.2.1
  have h4 := kd_le (z := z) (k := k)
  have hk := h.1 k h.2.1
  rw [e_X11_isWord, h.2.2.2.1, tn0, h.2.2.1, ttin (by omega) (by omega), nI_clamp (by omega), hk.1]
  by_cases q : kd z k = 1
  · have hok := wl_ok q
    have e1 : wN z k = wn (wl z k) := by unfold wN; rw [pif_1 q]
    rw [teqP q, ttin (by omega) (by omega), ttin hw (by omega), nI_clamp (by omega), hk.2.2.1 q, h.2.2.2.2 w hw, ← wd_37 w hw]
    by_cases q2 : wN z k = w
    · rw [bN_1 q2]
      rw [e1, wn_at hw] at q2
      rw [q2, tif_pos ((lg_cmp_eq _ _).mpr rfl), tz1]
    · rw [bN_0 q2]
      rw [e1, wn_at hw] at q2
      rw [tif_neg (fun e => q2 ((lW_eq (by omega) (by omega) hok (wd_ok w hw)).mp ((lg_cmp_eq _ _).mp e)).symm), tz0]
  · have e1 : wN z k = 38 := by unfold wN; rw [pif_0 q]
    rw [teqM (by omega) (by omega) q, tz0, bN_0 (by omega)]
theorem r_wordF {G : tH} {v : Nat} {x : Int32} (h : RF G v) : V_X11_isWord x G = some (some (vI (nI 0)), G) := by
  rw [e_X11_isWord, h.1, tz0M h.2.2 (by have := h.2.1; omega), tz0]
theorem bN_e0 {c : Prop} : bN c = 0 ↔ ¬ c := by
  by_cases h : c
  · rw [bN_1 h]
    exact ⟨fun e => absurd e (by decide +kernel), fun n => absurd h n⟩
  · rw [bN_0 h]
    exact ⟨fun _ => h, fun _ => nI_0⟩
/-- which word of a row -/
noncomputable def wh (n fr mn : Nat) : Int32 := pif (fr ≤ n ∧ n < fr + mn) (nI (n - fr)) (-1)
theorem r_here_l {G : tH} {z : mZ} {N k fr mn : Nat} (hT : TK z N) (h : RT G z N k) (hf : fr + mn ≤ 38) : ∀ m i (x : Int32), i + m = mn → ((fr ≤ wN z k ∧ wN z k < fr + i) → x = nI (wN z k - fr)) → (¬ (fr ≤ wN z k ∧ wN z k < fr + i) → x = -1) → V_X11_wordHere_5 (nI fr) (nI mn) x (nI i) G = some (some (vI (wh (wN z k) fr mn)), G) := by
  intro m
  induction m with
  | zero =>
    intro i x hi h1 h2
    rw [e_X11_wordHere_5, tltM (by omega) (by omega) (by omega)]
    unfold wh
    have him : i = mn := by omega
    subst him
    by_cases q : fr ≤ wN z k ∧ wN z k < fr + i
    · rw [pif_1 q, h1 q]
    · rw [pif_0 q, h2 q]
  | succ m ih =>
    intro i x hi h1 h2
    rw [e_X11_wordHere_5, tltP (by omega) (by omega) (by omega), nI_add, r_word hT h (by omega), tbI_v, nI_add]
    by_cases q : wN z k = fr + i
    · rw [bN_1 q, tn1]
      refine ih (i + 1) _ (by omega) (fun w => by rw [q]; congr 1; omega) (fun w => absurd (show fr ≤ wN z k ∧ wN z k < fr + (i + 1) by omega) w)
    · rw [bN_0 q, tn0]
      refine ih (i + 1) _ (by omega) (fun w => h1 (by omega)) (fun w => h2 (by omega))
theorem r_here {G : tH} {z : mZ} {N k fr mn : Nat} (hT : TK z N) (h : RT G z N k) (hf : fr + mn ≤ 38) : V_X11_wordHere (nI fr) (nI mn) G = some (some (vI (wh (wN z k) fr mn)), G) := by
  rw [e_X11_wordHere]
  exact r_here_l hT h hf mn 0 (-1) (by omega) (fun w => by omega) (fun _ => rfl)
theorem r_hereF {G : tH} {v fr mn : Nat} (h : RF G v) (hm : mn < 1000) : V_X11_wordHere (nI fr) (nI mn) G = some (some (vI (-1)), G) := by
  have l : ∀ m i, i + m = mn → V_X11_wordHere_5 (nI fr) (nI mn) (-1) (nI i) G = some (some (vI (-1)), G) := by
    intro m
    induction m with
    | zero => intro i hi; rw [e_X11_wordHere_5, tltM (by omega) (by omega) (by omega)]
    | succ m ih => intro i hi; rw [e_X11_wordHere_5, tltP (by omega) (by omega) (by omega), r_wordF h, tbI_v, tn0, nI_add]; exact ih (i + 1) (by omega)
  rw [e_X11_wordHere]
  exact l mn 0 (by omega)
theorem wh_1 {n fr mn : Nat} (h : fr ≤ n ∧ n < fr + mn) : wh n fr mn = nI (n - fr) := pif_1 h
theorem wh_0 {n fr mn : Nat} (h : ¬ (fr ≤ n ∧ n < fr + mn)) : wh n fr mn = -1 := pif_0 h
theorem r_name1 {G : tH} {z : mZ} {N k : Nat} (hT : TK z N) (h : RT G z N k) (hn : isNa z k) : V_X11_isName G = some (some (vI (nI 1)), G) := by
  have := hT.le
  have := h.2.1
  have hn2 := hn.2
  have hk := h.1 k h.2.1
  rw [e_X11_isName, h.2.2.2.1, tn0, h.2.2.1, ttin (by omega) (by omega), nI_clamp (by omega), hk.1, teqP hn.1, r_here hT h (by omega), tbI_v, wh_0 (by omega), tif_pos m1_lt, tz1]
theorem r_name0 {G : tH} {z : mZ} {N k : Nat} (hT : TK z N) (h : RT G z N k) (hn : ¬ isNa z k) : V_X11_isName G = some (some (vI (nI 0)), G) := by
  have := hT.le
  have := h.2.1
  have h4 := kd_le (z := z) (k := k)
  have hk := h.1 k h.2.1
  rw [e_X11_isName, h.2.2.2.1, tn0, h.2.2.1, ttin (by omega) (by omega), nI_clamp (by omega), hk.1]
  by_cases q : kd z k = 1
  · have : wN z k < 35 := by unfold isNa at hn; omega
    rw [teqP q, r_here hT h (by omega), tbI_v, wh_1 (by omega), tlt0 (by omega), tz0]
  · rw [teqM (by omega) (by omega) q, tz0]
