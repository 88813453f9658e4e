/-! PURE: numbers, words and names that must stand there -/
theorem sI_id {G : tH} {f o : Nat} {v : Int32} (h : gI G f o = v) : sI G f o v = G := by
  refine congrArg (fun w : Nat → Nat → Int32 => ((w, G.2) : tH)) (funext fun f' => funext fun o' => ?_)
  show (if f' = f then (if o' = o then v else G.1 f' o') else G.1 f' o') = G.1 f' o'
  by_cases h1 : f' = f
  · by_cases h2 : o' = o
    · rw [if_pos h1, if_pos h2, h1, h2]; exact h.symm
    · rw [if_pos h1, if_neg h2]
  · rw [if_neg h1]
theorem lc_lt1 {a b : Nat} {x y : Option tRes} (ha : a < 2 ^ 63) (hb : b < 2 ^ 63) (h : a < b) : tif (lg_cmp (lN a) (lN b) < 0) x y = x := tif_pos ((lg_cmp_lt _ _).mpr ((pk_lLT ha hb).mpr h))
theorem lc_lt0 {a b : Nat} {x y : Option tRes} (ha : a < 2 ^ 63) (hb : b < 2 ^ 63) (h : b ≤ a) : tif (lg_cmp (lN a) (lN b) < 0) x y = y := tif_neg fun q => by have := (pk_lLT ha hb).mp ((lg_cmp_lt _ _).mp q); omega
theorem lc_gt1 {a b : Nat} {x y : Option tRes} (ha : a < 2 ^ 63) (hb : b < 2 ^ 63) (h : b < a) : tif (0 < lg_cmp (lN a) (lN b)) x y = x := tif_pos ((lg_cmp_gt _ _).mpr ((pk_lLT hb ha).mpr h))
theorem lc_gt0 {a b : Nat} {x y : Option tRes} (ha : a < 2 ^ 63) (hb : b < 2 ^ 63) (h : a ≤ b) : tif (0 < lg_cmp (lN a) (lN b)) x y = y := tif_neg fun q => by have := (pk_lLT hb ha).mp ((lg_cmp_gt _ _).mp q); omega
theorem r_num70 {G : tH} {v : Nat} (h : RF G v) : V_X11_takeNumber_70 G = some (some (vI (nI 0)), G) := by rw [e_X11_takeNumber_70, h.1, tl0P h.2.2 h.2.1]
theorem r_num1 {G : tH} {z : mZ} {N k lo hi : Nat} (hT : TK z N) (h : RT G z N k) (hlo : lo < 2 ^ 31) (hhi : hi < 2 ^ 31) (hc : isN z k lo hi) : V_X11_takeNumber (nI lo) (nI hi) G = some (some (vI (nI (nv z k))), sI G 1107 0 (nI (k + 1))) := by
  have := hT.le
  have := h.2.1
  have hk := h.1 k h.2.1
  have hn := nv_lt hc.1
  rw [e_X11_takeNumber, h.2.2.2.1, tn0, h.2.2.1, ttin (by omega) (by omega), nI_clamp (by omega), hk.1, teqP hc.1, e_X11_takeNumber_28, h.2.2.2.1, tn0, h.2.2.1, ttin (by omega) (by omega), nI_clamp (by omega), hk.2.2.2.1 hc.1, nI_l hlo, lc_lt0 (by omega) (by omega) hc.2.1, ttin (by omega) (by omega), nI_l hhi, lc_gt0 (by omega) (by omega) hc.2.2, e_X11_takeNumber_70, h.2.2.2.1, tl0M rfl]
  dsimp only
  rw [gI_eq, h.2.2.1, nI_add, nI_sub (by omega), show k + 1 - 1 = k by omega, ttin (by omega) (by omega), nI_clamp (by omega), gB_sI, hk.2.2.2.1 hc.1, lN_i]
theorem r_num0 {G : tH} {z : mZ} {N k lo hi : Nat} (hT : TK z N) (h : RT G z N k) (hlo : lo < 2 ^ 31) (hhi : hi < 2 ^ 31) (hc : ¬ isN z k lo hi) : V_X11_takeNumber (nI lo) (nI hi) G = some (some (vI (nI 0)), sI G 1108 0 (nI (fv z k (nf z k)))) := by
  have := hT.le
  have := h.2.1
  have h4 := kd_le (z := z) (k := k)
  have hk := h.1 k h.2.1
  have hb := RT.bad (G := G) (k := k) hT (nf_in (z := z) (k := k)).1 (nf_in (z := z) (k := k)).2
  rw [e_X11_takeNumber, h.2.2.2.1, tn0, h.2.2.1, ttin (by omega) (by omega), nI_clamp (by omega), hk.1]
  by_cases q : kd z k = 2
  · have hn := nv_lt q
    have e65 : V_X11_takeNumber_65 G = some (some (vI (nI 0)), sI G 1108 0 (nI (fv z k (nf z k)))) := by
      rw [e_X11_takeNumber_65, r_wrong hT h, tbV_v, show 4 = nf z k from (pif_1 q).symm, r_num70 hb]
    rw [teqP q, e_X11_takeNumber_28, h.2.2.2.1, tn0, h.2.2.1, ttin (by omega) (by omega), nI_clamp (by omega), hk.2.2.2.1 q, nI_l hlo, nI_l hhi]
    by_cases q2 : nv z k < lo
    · rw [lc_lt1 (by omega) (by omega) q2, e65]
    · rw [lc_lt0 (by omega) (by omega) (by omega), ttin (by omega) (by omega), lc_gt1 (by omega) (by omega) (by unfold isN at hc; omega), e65]
  · rw [teqM (by omega) (by omega) q, r_wrong hT h, tbV_v, show 1 = nf z k from (pif_0 q).symm, r_num70 hb]
theorem r_numF {G : tH} {v : Nat} {x y : Int32} (h : RF G v) : V_X11_takeNumber x y G = some (some (vI (nI 0)), G) := by
  have h0 := h.2.1
  rw [e_X11_takeNumber, h.1, tz0M h.2.2 (by omega), e_X11_takeNumber_28, h.1, tz0M h.2.2 (by omega), r_num70 h]
theorem r_hasW1 {G : tH} {z : mZ} {N k w : Nat} (hT : TK z N) (h : RT G z N k) (hw : w < 38) (hc : wN z k = w) : V_X11_hasWord (nI w) G = some (some (vI (nI 1)), sI G 1107 0 (nI (k + 1))) := by
  rw [e_X11_hasWord, r_word hT h hw, tbI_v, bN_1 hc, tn1]
  dsimp only
  rw [tz1, h.2.2.1, nI_add]
theorem r_hasW0 {G : tH} {z : mZ} {N k w : Nat} (hT : TK z N) (h : RT G z N k) (hw : w < 38) (hc : wN z k ≠ w) : V_X11_hasWord (nI w) G = some (some (vI (nI 0)), G) := by
  rw [e_X11_hasWord, r_word hT h hw, tbI_v, bN_0 hc, tn0]
  dsimp only
  rw [tz0, h.2.2.1, nI_add, Nat.add_zero, sI_id h.2.2.1]
theorem add_n0 (x : Int32) : x + nI 0 = x := by rw [nI_0, Int32.add_zero]
theorem r_hasWF {G : tH} {v : Nat} {x : Int32} (h : RF G v) : V_X11_hasWord x G = some (some (vI (nI 0)), G) := by
  rw [e_X11_hasWord, r_wordF h, tbI_v, tn0]
  dsimp only
  rw [tz0, add_n0, sI_id rfl]
theorem r_hasS1 {G : tH} {z : mZ} {N k c : Nat} (hT : TK z N) (h : RT G z N k) (hc : kd z k = 3 ∧ ch z k = c) : V_X11_hasSign (nI c) G = some (some (vI (nI 1)), sI G 1107 0 (nI (k + 1))) := by
  rw [e_X11_hasSign, r_isSign1 hT h hc, tbI_v, tn1]
  dsimp only
  rw [tz1, h.2.2.1, nI_add]
theorem r_hasS0 {G : tH} {z : mZ} {N k c : Nat} (hT : TK z N) (h : RT G z N k) (hc : ¬ (kd z k = 3 ∧ ch z k = c)) (hcc : c < 127) : V_X11_hasSign (nI c) G = some (some (vI (nI 0)), G) := by
  rw [e_X11_hasSign, r_isSign0 hT h hc hcc, tbI_v, tn0]
  dsimp only
  rw [tz0, add_n0, sI_id rfl]
theorem r_hasSF {G : tH} {v : Nat} {x : Int32} (h : RF G v) : V_X11_hasSign x G = some (some (vI (nI 0)), G) := by
  rw [e_X11_hasSign, r_isSignF h, tbI_v, tn0]
  dsimp only
  rw [tz0, add_n0, sI_id rfl]
theorem r_takeW1 {G : tH} {z : mZ} {N k w : Nat} (hT : TK z N) (h : RT G z N k) (hw : w < 38) (hc : wN z k = w) : V_X11_takeWord (nI w) G = some (none, sI G 1107 0 (nI (k + 1))) := by
  rw [e_X11_takeWord, r_hasW1 hT h hw hc, tbI_v, tn1]
theorem r_takeW0 {G : tH} {z : mZ} {N k w : Nat} (hT : TK z N) (h : RT G z N k) (hw : w < 38) (hc : wN z k ≠ w) : V_X11_takeWord (nI w) G = some (none, sI G 1108 0 (nI (fv z k 1))) := by
  rw [e_X11_takeWord, r_hasW0 hT h hw hc, tbI_v, tn0, r_wrong hT h, tbV_v]
theorem r_takeWF {G : tH} {v : Nat} {x w : Int32} (h : RF G v) : V_X11_takeWord x G = some (none, G) := by
  rw [e_X11_takeWord, r_hasWF h, tbI_v, tn0]
  rw [show nI 1 = nI 1 from rfl, r_wrongF h, tbV_v]
theorem wN_k {z : mZ} {N k w : Nat} (hT : TK z N) (hk : k ≤ N) (hc : wN z k = w) (hw : w < 38) : k + 1 ≤ N := hT.lt hk (by have := wN_kd (z := z) (k := k) (by omega); omega)
theorem r_aft1 {G : tH} {z : mZ} {N k w lo hi : Nat} (hT : TK z N) (h : RT G z N k) (hw : w < 38) (hc : wN z k = w) (hlo : lo < 2 ^ 31) (hhi : hi < 2 ^ 31) (hn : isN z (k + 1) lo hi) : V_X11_takeAfter (nI w) (nI lo) (nI hi) G = some (some (vI (nI (nv z (k + 1)))), sI (sI G 1107 0 (nI (k + 1))) 1107 0 (nI (k + 2))) := by
  rw [e_X11_takeAfter, r_takeW1 hT h hw hc, tbV_v, r_num1 hT (h.at (wN_k hT h.2.1 hc hw)) hlo hhi hn, tbI_v]
theorem r_aftA {G : tH} {z : mZ} {N k w lo hi : Nat} (hT : TK z N) (h : RT G z N k) (hw : w < 38) (hc : wN z k ≠ w) : V_X11_takeAfter (nI w) (nI lo) (nI hi) G = some (some (vI (nI 0)), sI G 1108 0 (nI (fv z k 1))) := by
  rw [e_X11_takeAfter, r_takeW0 hT h hw hc, tbV_v, r_numF (RT.bad hT (by omega) (by omega)), tbI_v]
theorem r_aftB {G : tH} {z : mZ} {N k w lo hi : Nat} (hT : TK z N) (h : RT G z N k) (hw : w < 38) (hc : wN z k = w) (hlo : lo < 2 ^ 31) (hhi : hi < 2 ^ 31) (hn : ¬ isN z (k + 1) lo hi) : V_X11_takeAfter (nI w) (nI lo) (nI hi) G = some (some (vI (nI 0)), sI (sI G 1107 0 (nI (k + 1))) 1108 0 (nI (fv z (k + 1) (nf z (k + 1))))) := by
  rw [e_X11_takeAfter, r_takeW1 hT h hw hc, tbV_v, r_num0 hT (h.at (wN_k hT h.2.1 hc hw)) hlo hhi hn, tbI_v]
theorem r_aftF {G : tH} {v : Nat} {x y w : Int32} (h : RF G v) : V_X11_takeAfter w x y G = some (some (vI (nI 0)), G) := by
  rw [e_X11_takeAfter, r_takeWF (w := 0) h, tbV_v, r_numF h, tbI_v]
theorem r_one51 {G : tH} {v : Nat} {x y : Int32} (h : RF G v) : V_X11_takeOne_34 x G = some (some (vI (nI 0)), G) := by
  rw [e_X11_takeOne_34, h.1, tl0P h.2.2 h.2.1, e_X11_takeOne_51]
  dsimp only
  rw [add_n0, sI_id rfl, h.1, tl0P h.2.2 h.2.1]
theorem r_one1 {G : tH} {z : mZ} {N k fr mn : Nat} (hT : TK z N) (h : RT G z N k) (hf : fr + mn ≤ 38) (hc : fr ≤ wN z k ∧ wN z k < fr + mn) : V_X11_takeOne (nI fr) (nI mn) G = some (some (vI (nI (wN z k - fr))), sI G 1107 0 (nI (k + 1))) := by
  have hw := wN_le (z := z) (k := k)
  rw [e_X11_takeOne, h.2.2.2.1, tl0M rfl, r_here hT h hf, tbI_v, wh_1 hc, e_X11_takeOne_17, h.2.2.2.1, tn0, tlt0 (by omega), e_X11_takeOne_34, h.2.2.2.1, tl0M rfl, e_X11_takeOne_51]
  dsimp only
  rw [gI_ne (by omega), h.2.2.2.1, tl0M rfl, h.2.2.1, nI_add]
theorem r_one0 {G : tH} {z : mZ} {N k fr mn : Nat} (hT : TK z N) (h : RT G z N k) (hf : fr + mn ≤ 38) (hc : ¬ (fr ≤ wN z k ∧ wN z k < fr + mn)) : V_X11_takeOne (nI fr) (nI mn) G = some (some (vI (nI 0)), sI G 1108 0 (nI (fv z k 1))) := by
  rw [e_X11_takeOne, h.2.2.2.1, tl0M rfl, r_here hT h hf, tbI_v, wh_0 hc, e_X11_takeOne_17, h.2.2.2.1, tn0, tif_pos m1_lt, r_wrong hT h, tbV_v, r_one51 (y := 0) (RT.bad hT (by omega) (by omega))]
theorem r_oneF {G : tH} {v : Nat} {x y : Int32} (h : RF G v) : V_X11_takeOne x y G = some (some (vI (nI 0)), G) := by
  have h0 := h.2.1
  rw [e_X11_takeOne, h.1, tl0P h.2.2 h.2.1, e_X11_takeOne_17, h.1, tz0M h.2.2 (by omega), r_one51 (y := 0) h]
/-! the class: a word and a number -/
theorem c_bhd1 {G : tH} {z : mZ} {k o j lo hi N : Nat} (hT : TK z N) (h : CT G z k) (ho : 1 ≤ o) (ho2 : o ≤ 14) (hj : fi (sW o) 0 (wN z k) = some j) (hj2 : j < 38) (hlo : lo < 2 ^ 31) (hhi : hi < 2 ^ 31) (hn : isN z (k + 1) lo hi) : ∃ G', V_X8_readNumberBehind o (nI lo) (nI hi) G = some (some (vI (nI (nv z (k + 1)))), G') ∧ CT G' z (k + 2) ∧ tfr zTk G G' := by
  obtain ⟨G1, e1, h1, f1⟩ := c_amg1 hT h ho ho2 hj hj2
  obtain ⟨G2, e2, h2, f2⟩ := c_num1 hT h1 hlo hhi hn
  exact ⟨G2, by rw [e_X8_readNumberBehind, e1, tbI_v, tif_neg (m1_ne (by omega)), e2, tbI_v], h2, f1.tr f2⟩
theorem c_bhdA {G : tH} {z : mZ} {k o lo hi : Nat} (h : CT G z k) (h0 : gI G 808 0 = nI 0) (ho : 1 ≤ o) (ho2 : o ≤ 14) (hj : fi (sW o) 0 (wN z k) = none) : V_X8_readNumberBehind o (nI lo) (nI hi) G = some (some (vI (-1)), sI G 808 0 (nI (fv z k 1))) := by
  rw [e_X8_readNumberBehind, c_amg0 h h0 ho ho2 hj, tbI_v, tif_pos rfl]
theorem c_bhdB {G : tH} {z : mZ} {k o j lo hi N : Nat} (hT : TK z N) (h : CT G z k) (h0 : gI G 808 0 = nI 0) (ho : 1 ≤ o) (ho2 : o ≤ 14) (hj : fi (sW o) 0 (wN z k) = some j) (hj2 : j < 38) (hlo : lo < 2 ^ 31) (hhi : hi < 2 ^ 31) (hn : ¬ isN z (k + 1) lo hi) : ∃ G', V_X8_readNumberBehind o (nI lo) (nI hi) G = some (some (vI (-1)), G') ∧ gI G' 808 0 = nI (fv z (k + 1) (nf z (k + 1))) ∧ tfr (fun f _ => 802 ≤ f ∧ f ≤ 808) G G' := by
  obtain ⟨G1, e1, h1, f1⟩ := c_amg1 hT h ho ho2 hj hj2
  have h01 : gI G1 808 0 = nI 0 := by rw [(f1 808 0 (by unfold zTk; omega)).1]; exact h0
  refine ⟨_, by rw [e_X8_readNumberBehind, e1, tbI_v, tif_neg (m1_ne (by omega)), c_num0 h1 h01 hlo hhi hn, tbI_v], gI_eq, tfrI (f1.mono fun f o q => by unfold zTk at q; omega) (by omega)⟩
/-! names -/
theorem c_find {G : tH} {r c : Nat} {f : Nat → List Nat} {l : List Nat} (hl : okW l) (hc : gI G 601 r = nI c) (hcl : c ≤ talen 600 r) (hf : ∀ i, i < c → gB G 600 r i = lN (wcode 32 (f i)) ∧ okW (f i)) : ∃ q : Option Nat, V_X6_find r (lN (wcode 32 l)) G = some (some (vI (oI q)), G) ∧ (∀ i, q = some i → i < c ∧ f i = l) ∧ (q = none → ∀ i, i < c → f i ≠ l) := by
  have h6 : talen 600 r ≤ 6 := by
    show (if r % 4 = 0 then 6 else 5) ≤ 6
    split <;> omega
  have lp : ∀ m i, i + m = c → ∃ q : Option Nat, V_X6_find_2 r (lN (wcode 32 l)) (nI i) G = some (some (vI (oI q)), G) ∧ (∀ j, q = some j → j < c ∧ f j = l) ∧ (q = none → ∀ j, i ≤ j → j < c → f j ≠ l) := by
    intro m
    induction m with
    | zero =>
      intro i hi
      refine ⟨none, ?_, fun j e => (by cases e), fun _ j h1 h2 => (by omega)⟩
      rw [e_X6_find_2, hc, tltM (by omega) (by omega) (by omega)]
      rfl
    | succ m ih =>
      intro i hi
      obtain ⟨b1, b2⟩ := hf i (by omega)
      by_cases e : f i = l
      · refine ⟨some i, ?_, fun j e' => ?_, fun e' => (by cases e')⟩
        · rw [e_X6_find_2, hc, tltP (by omega) (by omega) (by omega), ttin (by omega) (by omega), nI_clamp (by omega), b1, e, tif_pos ((lg_cmp_eq _ _).mpr rfl)]
          rfl
        · cases e'
          exact ⟨by omega, e⟩
      · obtain ⟨q, e1, h1, h2⟩ := ih (i + 1) (by omega)
        refine ⟨q, ?_, h1, fun e' j a b => ?_⟩
        · rw [e_X6_find_2, hc, tltP (by omega) (by omega) (by omega), ttin (by omega) (by omega), nI_clamp (by omega), b1, tif_neg (fun w => e ((lW_eq (by omega) (by omega) b2 hl).mp ((lg_cmp_eq _ _).mp w))), nI_add]
          exact e1
        · by_cases ej : j = i
          · rw [ej]; exact e
          · exact h2 e' j (by omega) b
  obtain ⟨q, e1, h1, h2⟩ := lp c 0 (by omega)
  exact ⟨q, by rw [e_X6_find]; exact e1, h1, fun e i hi => h2 e i (by omega) hi⟩
/-- the names of a roll -/
def NC (G : tH) (r c : Nat) (f : Nat → List Nat) : Prop := gI G 601 r = nI c ∧ c ≤ talen 600 r ∧ ∀ i, i < c → gB G 600 r i = lN (wcode 32 (f i)) ∧ okW (f i)
theorem c_known1 {G : tH} {z : mZ} {k r c i N : Nat} {f : Nat → List Nat} (hT : TK z N) (h : CT G z k) (hN : NC G r c f) (hn : isNa z k) (hi : i < c) (he : f i = wl z k) (hu : ∀ j, j < c → f j = wl z k → j = i) : ∃ G', V_X8_readKnown r G = some (some (vI (nI i)), G') ∧ CT G' z (k + 1) ∧ tfr zTk G G' := by
  obtain ⟨G', e, h1, h2⟩ := c_adv hT.1 h
  obtain ⟨q, e1, a1, a2⟩ := c_find (wl_ok hn.1) hN.1 hN.2.1 hN.2.2
  have h6 : talen 600 r ≤ 6 := by
    show (if r % 4 = 0 then 6 else 5) ≤ 6
    split <;> omega
  have hc := hN.2.1
  have hq : q = some i := by
    cases q with
    | none => exact absurd he (a2 rfl i hi)
    | some j => obtain ⟨b1, b2⟩ := a1 j rfl; rw [hu j b1 b2]
  refine ⟨G', ?_, h1, h2⟩
  rw [e_X8_readKnown, c_name1 h hn, tbI_v, tn1, h.2.2.2.2.1 hn.1, show gl 96 z (tst z k) (tke z (tst z k)) = wl z k from rfl, e1, tbI_v, hq]
  show tif (nI i = -1) _ _ = _
  rw [tif_neg (m1_ne (by omega)), e, tbV_v]
  rfl
theorem c_known0 {G : tH} {z : mZ} {k r c : Nat} {f : Nat → List Nat} (h : CT G z k) (h0 : gI G 808 0 = nI 0) (hN : NC G r c f) (hn : isNa z k) (he : ∀ j, j < c → f j ≠ wl z k) : V_X8_readKnown r G = some (some (vI (-1)), sI G 808 0 (nI (fv z k 2))) := by
  obtain ⟨q, e1, a1, a2⟩ := c_find (wl_ok hn.1) hN.1 hN.2.1 hN.2.2
  have hq : q = none := by
    cases q with
    | none => rfl
    | some j => obtain ⟨b1, b2⟩ := a1 j rfl; exact absurd b2 (he j b1)
  rw [e_X8_readKnown, c_name1 h hn, tbI_v, tn1, h.2.2.2.2.1 hn.1, show gl 96 z (tst z k) (tke z (tst z k)) = wl z k from rfl, e1, tbI_v, hq]
  show tif ((-1 : Int32) = -1) _ _ = _
  rw [tif_pos rfl, c_blame h h0, tbI_v]
  rfl
theorem c_knownN {G : tH} {z : mZ} {k r : Nat} (h : CT G z k) (h0 : gI G 808 0 = nI 0) (hn : ¬ isNa z k) : V_X8_readKnown r G = some (some (vI (-1)), sI G 808 0 (nI (fv z k 1))) := by
  rw [e_X8_readKnown, c_name0 h hn, tbI_v, tn0, c_blame h h0, tbI_v]
/-- the names of the reference -/
def NR (B : Nat → Int64) (A : Nat → Int32) (mn : Nat) (cnt : Nat → Nat) (nm : Nat → Nat → List Nat) : Prop := mn ≤ 21 ∧ (∀ k, k < mn → ∃ j i, j < 4 ∧ i < cnt j ∧ B k = lN (wcode 37 (nm j i)) ∧ A k = nI (20 * j + i)) ∧ ∀ j i, j < 4 → i < cnt j → ∃ k, k < mn ∧ B k = lN (wcode 37 (nm j i)) ∧ A k = nI (20 * j + i)
def NU (cnt : Nat → Nat) (nm : Nat → Nat → List Nat) : Prop := cnt 0 ≤ 6 ∧ cnt 1 ≤ 5 ∧ cnt 2 ≤ 5 ∧ cnt 3 ≤ 5 ∧ (∀ j i, j < 4 → i < cnt j → okW (nm j i)) ∧ ∀ j i j' i', j < 4 → i < cnt j → j' < 4 → i' < cnt j' → nm j i = nm j' i' → j = j' ∧ i = i'
theorem NU.le {cnt : Nat → Nat} {nm : Nat → Nat → List Nat} (h : NU cnt nm) {j : Nat} (hj : j < 4) : cnt j ≤ 6 := by
  obtain ⟨a, b, c, d, _⟩ := h
  rcases (show j = 0 ∨ j = 1 ∨ j = 2 ∨ j = 3 by omega) with e | e | e | e <;> subst e <;> omega
/-- where a name is sought: 0 in what is told, 1 in what is being read -/
def fB (b : Nat) : Nat := if b = 0 then 1114 else 1115
def fA (b : Nat) : Nat := if b = 0 then 1116 else 1117
def fM (b : Nat) : Nat := if b = 0 then 1118 else 1119
theorem r_find {G : tH} {z : mZ} {N k b mn : Nat} {cnt : Nat → Nat} {nm : Nat → Nat → List Nat} (hT : TK z N) (h : RT G z N k) (hk1 : kd z k = 1) (hb : b ≤ 1) (hM : gI G (fM b) 0 = nI mn) (hR : NR (gB G (fB b) 0) (gA G (fA b) 0) mn cnt nm) (hU : NU cnt nm) : ∃ x, V_X11_find (nI b) G = some (some (vI x), G) ∧ ((∃ j i, j < 4 ∧ i < cnt j ∧ nm j i = wl z k ∧ x = nI (20 * j + i)) ∨ (x = -1 ∧ ∀ j i, j < 4 → i < cnt j → nm j i ≠ wl z k)) := by
  have := hT.le
  have := h.2.1
  have hk := h.1 k h.2.1
  have hl := wl_ok hk1
  obtain ⟨r1, r2, r3⟩ := hR
  have e1 : ∀ i (x y : Int32), V_X11_find_2 (nI b) (nI i) G = V_X11_find_18 (nI b) (nI i) (nI mn) (nI i) G := by
    intro i x y
    rw [e_X11_find_2]
    rcases (show b = 0 ∨ b = 1 by omega) with e | e
    · subst e; rw [tn0, show gI G 1118 0 = nI mn from hM]
    · subst e; rw [tn1, show gI G 1119 0 = nI mn from hM]
  have e2 : ∀ i, i < mn → V_X11_find_18 (nI b) (nI i) (nI mn) (nI i) G = V_X11_find_40 (nI b) (nI i) (gB G (fB b) 0 i) G := by
    intro i hi
    rw [e_X11_find_18, tltP (by omega) (by omega) hi]
    rcases (show b = 0 ∨ b = 1 by omega) with e | e
    · subst e; rw [tn0, ttin (by omega) (by omega), nI_clamp (by omega)]; rfl
    · subst e; rw [tn1, ttin (by omega) (by omega), nI_clamp (by omega)]; rfl
  have e3 : ∀ i, i < mn → ∀ t, V_X11_find_40 (nI b) (nI i) t G = tif (lg_cmp t (lN (wcode 37 (wl z k))) = 0) (some (some (vI (gA G (fA b) 0 i)), G)) (V_X11_find_2 (nI b) (nI (i + 1)) G) := by
    intro i hi t
    rw [e_X11_find_40, h.2.2.1, ttin (by omega) (by omega), nI_clamp (by omega), hk.2.2.1 hk1, nI_add]
    rcases (show b = 0 ∨ b = 1 by omega) with e | e
    · subst e; rw [tn0, ttin (by omega) (by omega), nI_clamp (by omega)]; rfl
    · subst e; rw [tn1, ttin (by omega) (by omega), nI_clamp (by omega)]; rfl
  have lp : ∀ m i, i + m = mn → (∀ q, q < i → gB G (fB b) 0 q ≠ lN (wcode 37 (wl z k))) → ∃ x, V_X11_find_2 (nI b) (nI i) G = some (some (vI x), G) ∧ ((∃ j i, j < 4 ∧ i < cnt j ∧ nm j i = wl z k ∧ x = nI (20 * j + i)) ∨ (x = -1 ∧ ∀ q, q < mn → gB G (fB b) 0 q ≠ lN (wcode 37 (wl z k)))) := by
    intro m
    induction m with
    | zero =>
      intro i hi hq
      refine ⟨-1, ?_, Or.inr ⟨rfl, fun q w => hq q (by omega)⟩⟩
      rw [e1 i 0 0, e_X11_find_18, tltM (by omega) (by omega) (by omega)]
    | succ m ih =>
      intro i hi hq
      by_cases e : gB G (fB b) 0 i = lN (wcode 37 (wl z k))
      · obtain ⟨j, i', a1, a2, a3, a4⟩ := r2 i (by omega)
        refine ⟨gA G (fA b) 0 i, ?_, Or.inl ⟨j, i', a1, a2, ?_, a4⟩⟩
        · rw [e1 i 0 0, e2 i (by omega), e3 i (by omega), tif_pos ((lg_cmp_eq _ _).mpr e)]
        · rw [a3] at e
          exact (lW_eq (by omega) (by omega) (hU.2.2.2.2.1 j i' a1 a2) hl).mp e
      · obtain ⟨x, g1, g2⟩ := ih (i + 1) (by omega) (fun q w => by
          by_cases eq : q = i
          · rw [eq]; exact e
          · exact hq q (by omega))
        refine ⟨x, ?_, g2⟩
        rw [e1 i 0 0, e2 i (by omega), e3 i (by omega), tif_neg (fun w => e ((lg_cmp_eq _ _).mp w))]
        exact g1
  obtain ⟨x, g1, g2⟩ := lp mn 0 (by omega) (fun q w => by omega)
  refine ⟨x, by rw [e_X11_find]; exact g1, ?_⟩
  rcases g2 with g | ⟨ga, gb⟩
  · exact Or.inl g
  · refine Or.inr ⟨ga, fun j i hj hi e => ?_⟩
    obtain ⟨q, w1, w2, _⟩ := r3 j i hj hi
    exact gb q w1 (by rw [w2, e])
theorem r_told76 {G : tH} {v : Nat} {x : Int32} (h : RF G v) : V_X11_takeTold_59 x G = some (some (vI (nI 0)), G) := by
  rw [e_X11_takeTold_59, h.1, tl0P h.2.2 h.2.1, e_X11_takeTold_76]
  dsimp only
  rw [add_n0, sI_id rfl, h.1, tl0P h.2.2 h.2.1]
theorem r_toldF {G : tH} {v : Nat} {x y : Int32} (h : RF G v) : V_X11_takeTold x y G = some (some (vI (nI 0)), G) := by
  have h0 := h.2.1
  rw [e_X11_takeTold, h.1, tz0M h.2.2 (by omega), e_X11_takeTold_19, h.1, tl0P h.2.2 h.2.1, e_X11_takeTold_37, h.1, tz0M h.2.2 (by omega), r_told76 h]
theorem r_toldN {G : tH} {z : mZ} {N k : Nat} {x y : Int32} (hT : TK z N) (h : RT G z N k) (hn : ¬ isNa z k) : V_X11_takeTold x y G = some (some (vI (nI 0)), sI G 1108 0 (nI (fv z k 1))) := by
  have hb := RT.bad (G := G) (k := k) hT (show 1 ≤ 1 by omega) (by omega)
  have h0 := hb.2.1
  rw [e_X11_takeTold, h.2.2.2.1, tn0, r_name0 hT h hn, tbI_v, tn0, r_wrong hT h, tbV_v, e_X11_takeTold_19, hb.1, tl0P hb.2.2 hb.2.1, e_X11_takeTold_37, hb.1, tz0M hb.2.2 (by omega), r_told76 hb]
theorem wi_1 {n : Nat} {G : tH} (h : n ≤ 5) : V_X11_within (nI n) (nI 0) (nI 5) G = some (some (vI (nI 1)), G) := by
  rw [e_X11_within, tltM (by omega) (by omega) (by omega), tltM (by omega) (by omega) h, tz1]
theorem wi_2 {n : Nat} {G : tH} (h : 5 < n) (h2 : n < 2 ^ 31) : V_X11_within (nI n) (nI 0) (nI 5) G = some (some (vI (nI 0)), G) := by
  rw [e_X11_within, tltM (by omega) (by omega) (by omega), tltP (by omega) (by omega) h, tz0]
theorem wi_3 {x : Int32} {G : tH} (h : x < 0) : V_X11_within x (nI 0) (nI 5) G = some (some (vI (nI 0)), G) := by
  rw [e_X11_within, nI_0, tif_pos h, ← nI_0, tz0]
theorem r_told1 {G : tH} {z : mZ} {N k b mn j i : Nat} {cnt : Nat → Nat} {nm : Nat → Nat → List Nat} (hT : TK z N) (h : RT G z N k) (hn : isNa z k) (hb : b ≤ 1) (hM : gI G (fM b) 0 = nI mn) (hR : NR (gB G (fB b) 0) (gA G (fA b) 0) mn cnt nm) (hU : NU cnt nm) (hj : j < 4) (hi : i < cnt j) (he : nm j i = wl z k) : V_X11_takeTold (nI b) (nI (20 * j)) G = some (some (vI (nI i)), sI G 1107 0 (nI (k + 1))) := by
  obtain ⟨x, e, hx⟩ := r_find hT h hn.1 hb hM hR hU
  have h6 := hU.le hj
  have ex : x = nI (20 * j + i) := by
    rcases hx with ⟨j', i', a1, a2, a3, a4⟩ | ⟨_, a⟩
    · obtain ⟨w1, w2⟩ := hU.2.2.2.2.2 j' i' j i a1 a2 hj hi (by rw [a3, he])
      rw [a4, w1, w2]
    · exact absurd he (a j i hj hi)
  rw [e_X11_takeTold, h.2.2.2.1, tn0, r_name1 hT h hn, tbI_v, tn1, e_X11_takeTold_19, h.2.2.2.1, tl0M rfl, e, tbI_v, ex, nI_sub (by omega), show 20 * j + i - 20 * j = i by omega, e_X11_takeTold_37, h.2.2.2.1, tn0, wi_1 (by omega), tbI_v, tn1, e_X11_takeTold_59, h.2.2.2.1, tl0M rfl, e_X11_takeTold_76]
  dsimp only
  rw [gI_ne (by omega), h.2.2.2.1, tl0M rfl, h.2.2.1, nI_add]
theorem neg_k : ∀ j, j < 4 → (-1 : Int32) - nI (20 * j) < 0 := by decide +kernel
theorem r_told0 {G : tH} {z : mZ} {N k b mn j : Nat} {cnt : Nat → Nat} {nm : Nat → Nat → List Nat} (hT : TK z N) (h : RT G z N k) (hn : isNa z k) (hb : b ≤ 1) (hM : gI G (fM b) 0 = nI mn) (hR : NR (gB G (fB b) 0) (gA G (fA b) 0) mn cnt nm) (hU : NU cnt nm) (hj : j < 4) (he : ∀ i, i < cnt j → nm j i ≠ wl z k) : V_X11_takeTold (nI b) (nI (20 * j)) G = some (some (vI (nI 0)), sI G 1108 0 (nI (fv z k 2))) := by
  obtain ⟨x, e, hx⟩ := r_find hT h hn.1 hb hM hR hU
  have hbd := RT.bad (G := G) (k := k) hT (show 1 ≤ 2 by omega) (by omega)
  have hw : V_X11_within (x - nI (20 * j)) (nI 0) (nI 5) G = some (some (vI (nI 0)), G) := by
    rcases hx with ⟨j', i', a1, a2, a3, a4⟩ | ⟨a, _⟩
    · have h6 := hU.le a1
      rcases Nat.lt_trichotomy j' j with q | q | q
      · rw [a4]
        exact wi_3 (pk_sneg (by omega) (by omega))
      · subst q
        exact absurd a3 (he i' a2)
      · rw [a4, nI_sub (by omega)]
        exact wi_2 (by omega) (by omega)
    · rw [a]
      exact wi_3 (neg_k j hj)
  rw [e_X11_takeTold, h.2.2.2.1, tn0, r_name1 hT h hn, tbI_v, tn1, e_X11_takeTold_19, h.2.2.2.1, tl0M rfl, e, tbI_v, e_X11_takeTold_37, h.2.2.2.1, tn0, hw, tbI_v, tn0, r_wrong hT h, tbV_v, r_told76 hbd]
