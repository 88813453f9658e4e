/-! PURE: the levels of a law, its parts -/
theorem lv_full {z : mZ} {N q b L d M : Nat} {Op Hd : tH → Option tRes} (hT : TK z N) (hL : L ≤ 3) (hL1 : L ≠ 1) (hd5 : d ≤ 5) (hop : ∀ Gc Gr k cs, LQ z N q b Gc Gr k cs → b + cs.length ≤ k → OUT z N q b (Kc q (L + 1) d Gc) (Op Gr) Gc Gr k cs d M) (hF : ∀ G v, RF G v → Hd G = some (none, G)) (h0 : ∀ G k, RT G z N k → opA z k L = 0 → Hd G = some (none, G)) (h1 : ∀ G k, RT G z N k → opA z k L ≠ 0 → Hd G = tbV (Op (sI G 1107 0 (nI (k + 1)))) (fun G1 => tbV (V_X11_emit (nI (opA z k L)) (nI 0) G1) Hd)) :
    ∀ Gc Gr k cs, LQ z N q b Gc Gr k cs → b + cs.length ≤ k → OUT z N q b (Kc q L d Gc) (tbV (Op Gr) Hd) Gc Gr k cs d (M + 1) := by
  intro Gc Gr k cs hP hbk
  rw [Kc_1 hL hd5]
  rcases hop _ _ _ _ hP hbk with ⟨Gc2, Gr2, k2, e2, a1, a2, a3, a4, a5, a6, a7, a8, a9⟩ | ⟨Gc2, Gr2, v, c2, k2, ln, a1, a2, a3, a4, a5, a6, a7, a8, a9, a10, a11, a12⟩
  · rw [a1, a2, tbI_v, tbV_v, tn1]
    exact ch_loop hT hL hL1 a8 hop hF h0 h1 _ 0 k2 e2 Gc2 Gr2 (Nat.le_refl _) a3 (by rw [List.length_append]; omega) (a4.mono (by omega)) a5 a6 a7 a9 (by omega)
  · refine Or.inr ⟨Gc2, Gr2, v, c2, k2, ln, ?_, a2, ?_, a4, a5, a6, a7, a8, a9, a10, a11, a12⟩
    · rw [a1, tbI_v, tn0]
    · rw [a3, tbV_v, hF _ _ a4]
theorem lv_once {z : mZ} {N q b d M : Nat} {Op Hd : tH → Option tRes} (hT : TK z N) (hd5 : d ≤ 5) (hop : ∀ Gc Gr k cs, LQ z N q b Gc Gr k cs → b + cs.length ≤ k → OUT z N q b (Kc q 2 d Gc) (Op Gr) Gc Gr k cs d M) (hF : ∀ G v, RF G v → Hd G = some (none, G)) (h0 : ∀ G k, RT G z N k → opA z k 1 = 0 → Hd G = some (none, G)) (h1 : ∀ G k, RT G z N k → opA z k 1 ≠ 0 → Hd G = tbV (Op (sI G 1107 0 (nI (k + 1)))) (fun G1 => tbV (V_X11_emit (nI (opA z k 1)) (nI 0) G1) (fun G2 => some (none, G2)))) :
    ∀ Gc Gr k cs, LQ z N q b Gc Gr k cs → b + cs.length ≤ k → OUT z N q b (Kc q 1 d Gc) (tbV (Op Gr) Hd) Gc Gr k cs d (M + 1) := by
  intro Gc Gr k cs hP hbk
  rw [Kc_1 (by omega) hd5]
  rcases hop _ _ _ _ hP hbk with ⟨Gc2, Gr2, k2, e2, a1, a2, a3, a4, a5, a6, a7, a8, a9⟩ | ⟨Gc2, Gr2, v, c2, k2, ln, a1, a2, a3, a4, a5, a6, a7, a8, a9, a10, a11, a12⟩
  · rw [a1, a2, tbI_v, tbV_v, tn1]
    exact ch_once hT a8 hop h0 h1 a3 (by rw [List.length_append]; omega) (a4.mono (by omega)) a5 a6 a7 a9 (by omega)
  · refine Or.inr ⟨Gc2, Gr2, v, c2, k2, ln, ?_, a2, ?_, a4, a5, a6, a7, a8, a9, a10, a11, a12⟩
    · rw [a1, tbI_v, tn0]
    · rw [a3, tbV_v, hF _ _ a4]
def cb (L d : Nat) : Nat := 1 + 4 * (4 - d) + (4 - L)
/-- a part, at a depth -/
def Pp (z : mZ) (N q b d : Nat) : Prop := ∀ Gc Gr k cs, LQ z N q b Gc Gr k cs → b + cs.length ≤ k → OUT z N q b (V_X2_readPart (10 * (6 - d)) q (nI d) Gc) (V_X11_takePart (10 * (6 - d)) (nI d) Gr) Gc Gr k cs d (cb 4 d)
def P0 (z : mZ) (N q b d : Nat) : Prop := ∀ Gc Gr k cs, LQ z N q b Gc Gr k cs → b + cs.length ≤ k → OUT z N q b (Kc q 0 d Gc) (V_X11_all (10 * (6 - d)) (nI d) Gr) Gc Gr k cs d (cb 0 d)
theorem lv_4 {z : mZ} {N q b d : Nat} (hd : d ≤ 5) (h : Pp z N q b d) : ∀ Gc Gr k cs, LQ z N q b Gc Gr k cs → b + cs.length ≤ k → OUT z N q b (Kc q 4 d Gc) (V_X11_takePart (10 * (6 - d)) (nI d) Gr) Gc Gr k cs d (cb 4 d) := by
  intro Gc Gr k cs hP hbk
  have e : Kc q 4 d Gc = tbI (V_X2_readPart (10 * (6 - d)) q (nI d) Gc) (fun r G3 => tif (vp_nar .boolean r = r) (some (some (vI r), G3)) none) := by
    unfold Kc
    rw [e_X2_readChain, tltM (by omega) (by omega) (by omega), t6 (by omega), gok (by omega)]
  rw [e]
  rcases h _ _ _ _ hP hbk with ⟨Gc2, Gr2, k2, e2, a1, a2⟩ | ⟨Gc2, Gr2, v, c2, k2, ln, a1, a2⟩
  · exact Or.inl ⟨Gc2, Gr2, k2, e2, by rw [a1, tbI_v, tz1], a2⟩
  · exact Or.inr ⟨Gc2, Gr2, v, c2, k2, ln, by rw [a1, tbI_v, tz0], a2⟩
theorem op3 {z : mZ} {k : Nat} : opA z k 3 = pif (sg z k 42) 6 0 := rfl
theorem op2 {z : mZ} {k : Nat} : opA z k 2 = pif (sg z k 43) 4 (pif (sg z k 45) 5 0) := rfl
theorem op1 {z : mZ} {k : Nat} : opA z k 1 = pif (sg z k 60) 7 (pif (sg z k 61) 8 0) := rfl
theorem op0 {z : mZ} {k : Nat} : opA z k 0 = pif (wN z k = 33) 9 (pif (wN z k = 34) 10 0) := rfl
theorem lv_3 {z : mZ} {N q b d : Nat} (hT : TK z N) (hd : d ≤ 5) (h : Pp z N q b d) : ∀ Gc Gr k cs, LQ z N q b Gc Gr k cs → b + cs.length ≤ k → OUT z N q b (Kc q 3 d Gc) (V_X11_products (10 * (6 - d)) (nI d) Gr) Gc Gr k cs d (cb 4 d + 1) := by
  intro Gc Gr k cs hP hbk
  rw [e_X11_products, t6 (by omega), gok (by omega)]
  refine lv_full hT (by omega) (by omega) hd (lv_4 hd h) (Hd := V_X11_products_5 (10 * (6 - d)) (nI d)) (fun G v hv => ?_) (fun G k hk ho => ?_) (fun G k hk ho => ?_) Gc Gr k cs hP hbk
  · rw [e_X11_products_5, r_hasSF hv, tbI_v, tn0]
  · rw [op3] at ho
    rcases pif_c ho with ⟨a, b⟩ | ⟨a, b⟩
    · omega
    · rw [e_X11_products_5, r_hasS0 hT hk a (by omega), tbI_v, tn0]
  · rw [op3] at ho ⊢
    by_cases a : sg z k 42
    · rw [pif_1 a, e_X11_products_5, r_hasS1 hT hk a, tbI_v, tn1, t6 (by omega), gok (by omega)]
    · rw [pif_0 a] at ho; omega
theorem lv_2 {z : mZ} {N q b d : Nat} (hT : TK z N) (hd : d ≤ 5) (h : Pp z N q b d) : ∀ Gc Gr k cs, LQ z N q b Gc Gr k cs → b + cs.length ≤ k → OUT z N q b (Kc q 2 d Gc) (V_X11_sums (10 * (6 - d)) (nI d) Gr) Gc Gr k cs d (cb 4 d + 1 + 1) := by
  intro Gc Gr k cs hP hbk
  rw [e_X11_sums, t6 (by omega), gok (by omega)]
  refine lv_full hT (by omega) (by omega) hd (lv_3 hT hd h) (Hd := V_X11_sums_5 (10 * (6 - d)) (nI d)) (fun G v hv => ?_) (fun G k hk ho => ?_) (fun G k hk ho => ?_) Gc Gr k cs hP hbk
  · rw [e_X11_sums_5, r_isSignF hv, tbI_v, tn0, r_isSignF hv, tbI_v, tn0]
  · rw [op2] at ho
    rcases pif_c ho with ⟨a, b⟩ | ⟨a, ho⟩
    · omega
    · rcases pif_c ho with ⟨a2, b⟩ | ⟨a2, b⟩
      · omega
      · rw [e_X11_sums_5, r_isSign0 hT hk a (by omega), tbI_v, tn0, r_isSign0 hT hk a2 (by omega), tbI_v, tn0]
  · rw [op2] at ho ⊢
    by_cases a : sg z k 43
    · rw [pif_1 a, e_X11_sums_5, r_isSign1 hT hk a, tbI_v, tn1, e_X11_sums_23, r_isSign1 hT hk a, tbI_v]
      dsimp only
      rw [t6 (by omega), gok (by omega), hk.2.2.1, nI_add]
      simp only [tn1, e_X11_sums_55]
    · rw [pif_0 a] at ho ⊢
      by_cases a2 : sg z k 45
      · rw [pif_1 a2, e_X11_sums_5, r_isSign0 hT hk a (by omega), tbI_v, tn0, r_isSign1 hT hk a2, tbI_v, tn1, e_X11_sums_23, r_isSign0 hT hk a (by omega), tbI_v]
        dsimp only
        rw [t6 (by omega), gok (by omega), hk.2.2.1, nI_add]
        simp only [tn0, e_X11_sums_55]
      · rw [pif_0 a2] at ho; omega
theorem lv_1 {z : mZ} {N q b d : Nat} (hT : TK z N) (hd : d ≤ 5) (h : Pp z N q b d) : ∀ Gc Gr k cs, LQ z N q b Gc Gr k cs → b + cs.length ≤ k → OUT z N q b (Kc q 1 d Gc) (V_X11_test (10 * (6 - d)) (nI d) Gr) Gc Gr k cs d (cb 4 d + 1 + 1 + 1) := by
  intro Gc Gr k cs hP hbk
  rw [e_X11_test, t6 (by omega), gok (by omega)]
  refine lv_once hT hd (lv_2 hT hd h) (fun G v hv => ?_) (fun G k hk ho => ?_) (fun G k hk ho => ?_) Gc Gr k cs hP hbk
  · rw [r_isSignF hv, tbI_v, r_hasSF hv, tbI_v, tn0, r_hasSF hv, tbI_v, tn0]
  · rw [op1] at ho
    rcases pif_c ho with ⟨a, b⟩ | ⟨a, ho⟩
    · omega
    · rcases pif_c ho with ⟨a2, b⟩ | ⟨a2, b⟩
      · omega
      · rw [r_isSign0 hT hk a (by omega), tbI_v, r_hasS0 hT hk a (by omega), tbI_v, tn0, r_hasS0 hT hk a2 (by omega), tbI_v, tn0]
  · rw [op1] at ho ⊢
    by_cases a : sg z k 60
    · rw [pif_1 a, r_isSign1 hT hk a, tbI_v, r_hasS1 hT hk a, tbI_v, tn1, e_X11_test_30, t6 (by omega), gok (by omega)]
      simp only [tn1, e_X11_test_47]
    · rw [pif_0 a] at ho ⊢
      by_cases a2 : sg z k 61
      · rw [pif_1 a2, r_isSign0 hT hk a (by omega), tbI_v, r_hasS0 hT hk a (by omega), tbI_v, tn0, r_hasS1 hT hk a2, tbI_v, tn1, e_X11_test_30, t6 (by omega), gok (by omega)]
        simp only [tn0, e_X11_test_47]
      · rw [pif_0 a2] at ho; omega
theorem bN_n0 {c : Prop} {x y : Option tRes} (h : ¬ c) : tif (bN c = 0) x y = x := by rw [bN_0 h, tn0]
theorem bN_n1 {c : Prop} {x y : Option tRes} (h : c) : tif (bN c = 0) x y = y := by rw [bN_1 h, tn1]
theorem lv_0 {z : mZ} {N q b d : Nat} (hT : TK z N) (hd : d ≤ 5) (h : Pp z N q b d) : P0 z N q b d := by
  intro Gc Gr k cs hP hbk
  rw [show cb 0 d = cb 4 d + 1 + 1 + 1 + 1 from rfl, e_X11_all, t6 (by omega), gok (by omega)]
  refine lv_full hT (by omega) (by omega) hd (lv_1 hT hd h) (Hd := V_X11_all_5 (10 * (6 - d)) (nI d)) (fun G v hv => ?_) (fun G k hk ho => ?_) (fun G k hk ho => ?_) Gc Gr k cs hP hbk
  · rw [e_X11_all_5, r_wordF hv, tbI_v, tn0, r_wordF hv, tbI_v, tn0]
  · rw [op0] at ho
    rcases pif_c ho with ⟨a, b⟩ | ⟨a, ho⟩
    · omega
    · rcases pif_c ho with ⟨a2, b⟩ | ⟨a2, b⟩
      · omega
      · rw [e_X11_all_5, r_word hT hk (by omega), tbI_v, bN_n0 a, r_word hT hk (by omega), tbI_v, bN_n0 a2]
  · rw [op0] at ho ⊢
    by_cases a : wN z k = 33
    · rw [pif_1 a, e_X11_all_5, r_word hT hk (by omega), tbI_v, bN_n1 a, e_X11_all_23, r_word hT hk (by omega), tbI_v]
      dsimp only
      rw [t6 (by omega), gok (by omega), hk.2.2.1, nI_add]
      simp only [bN_n1 a, e_X11_all_57]
    · rw [pif_0 a] at ho ⊢
      by_cases a2 : wN z k = 34
      · rw [pif_1 a2, e_X11_all_5, r_word hT hk (by omega), tbI_v, bN_n0 a, r_word hT hk (by omega), tbI_v, bN_n1 a2, e_X11_all_23, r_word hT hk (by omega), tbI_v]
        dsimp only
        rw [t6 (by omega), gok (by omega), hk.2.2.1, nI_add]
        simp only [bN_n0 a, e_X11_all_57]
      · rw [pif_0 a2] at ho; omega
/-! a part -/
theorem fi_12 : ∀ n, n ≤ 38 → fi (sW 12) 0 n = if 35 ≤ n ∧ n < 38 then some (n - 35) else none := by decide +kernel
theorem fi_13 : ∀ n, n ≤ 38 → fi (sW 13) 0 n = if n = 32 then some 0 else none := by decide +kernel
theorem c_part45 {G : tH} {z : mZ} {N k q D : Nat} {x2 : Int32} (hT : TK z N) (h : CT G z k) : V_X2_readPart D q x2 G = V_X2_readPart_45 D q x2 (oI (fi (sW 12) 0 (wN z k))) (bN (kd z k = 2)) (bN (sg z k 40)) (bN (wN z k = 32)) G := by
  have h4 := kd_le (z := z) (k := k)
  have e1 : V_X2_readPart D q x2 G = V_X2_readPart_20 D q x2 (oI (fi (sW 12) 0 (wN z k))) (bN (kd z k = 2)) G := by
    rw [e_X2_readPart, c_among h (by omega) (by omega), tbI_v, c_kd h]
    by_cases q2 : kd z k = 2
    · rw [bN_1 q2, teqP q2]
    · rw [bN_0 q2, teqM (by omega) (by omega) q2]
  have e2 : V_X8_isSign (nI 40) G = some (some (vI (bN (sg z k 40))), G) := by
    by_cases a : sg z k 40
    · rw [bN_1 a, c_isSign1 h a]
    · rw [bN_0 a, c_isSign0 hT h a (by omega)]
  rw [e1, e_X2_readPart_20, e2, tbI_v, c_among h (by omega) (by omega), tbI_v, fi_13 _ wN_le]
  by_cases a : wN z k = 32
  · rw [if_pos a, bN_1 a]
    exact tif_neg (by decide +kernel)
  · rw [if_neg a, bN_0 a]
    exact tif_pos rfl
theorem r_part26 {G : tH} {z : mZ} {N k D : Nat} {x1 : Int32} (hT : TK z N) (h : RT G z N k) : V_X11_takePart D x1 G = V_X11_takePart_26 D x1 (bN (kd z k = 2)) G := by
  have := hT.le
  have := h.2.1
  have h4 := kd_le (z := z) (k := k)
  rw [e_X11_takePart, h.2.2.2.1, tl0M rfl, h.2.2.1, ttin (by omega) (by omega), nI_clamp (by omega), (h.1 k h.2.1).1]
  by_cases q2 : kd z k = 2
  · rw [bN_1 q2, teqP q2]
  · rw [bN_0 q2, teqM (by omega) (by omega) q2]
theorem r_part79F {G : tH} {v D : Nat} {x y w : Int32} (h : RF G v) : V_X11_takePart_79 D x y w G = some (none, G) := by
  rw [e_X11_takePart_79, h.1, tl0P h.2.2 h.2.1]
/-- a part that begins as one -/
def isP (z : mZ) (k : Nat) : Prop := (35 ≤ wN z k ∧ wN z k < 38) ∨ kd z k = 2 ∨ sg z k 40 ∨ wN z k = 32
theorem isP_kd {z : mZ} {k : Nat} (h : isP z k) : kd z k ≠ 0 := by
  rcases h with h | h | h | h
  · have := wN_kd (z := z) (k := k) (by omega); omega
  · omega
  · have := h.1; omega
  · have := wN_kd (z := z) (k := k) (by omega); omega
theorem c_part73 {G : tH} {z : mZ} {N k q D : Nat} {x2 : Int32} (hT : TK z N) (h : CT G z k) (hp : isP z k) : V_X2_readPart D q x2 G = V_X2_readPart_73 D q x2 (oI (fi (sW 12) 0 (wN z k))) (bN (kd z k = 2)) (bN (sg z k 40)) (bN (wN z k = 32)) G := by
  rw [c_part45 hT h, e_X2_readPart_45]
  by_cases a1 : oI (fi (sW 12) 0 (wN z k)) = -1
  · rw [tif_pos a1]
    by_cases a2 : kd z k = 2
    · rw [bN_n1 a2]
    · rw [bN_n0 a2]
      by_cases a3 : sg z k 40
      · rw [bN_n1 a3]
      · rw [bN_n0 a3]
        by_cases a4 : wN z k = 32
        · rw [bN_n1 a4]
        · exfalso
          rcases hp with w | w | w | w
          · rw [fi_12 _ wN_le, if_pos w] at a1
            exact m1_ne (show wN z k - 35 < 2 ^ 31 by omega) a1
          · exact a2 w
          · exact a3 w
          · exact a4 w
  · rw [tif_neg a1]
theorem r_part69 {G : tH} {z : mZ} {N k D : Nat} {x1 : Int32} (hT : TK z N) (h : RT G z N k) (hp : isP z k) : V_X11_takePart D x1 G = V_X11_takePart_69 D x1 (bN (kd z k = 2)) (wh (wN z k) 35 3) G := by
  rw [r_part26 hT h, e_X11_takePart_26, r_here hT h (by omega), tbI_v]
  by_cases a1 : 35 ≤ wN z k ∧ wN z k < 35 + 3
  · rw [wh_1 a1, tlt0 (by omega)]
  · rw [wh_0 a1, tif_pos m1_lt]
    by_cases a2 : kd z k = 2
    · rw [bN_n1 a2]
    · rw [bN_n0 a2]
      by_cases a3 : sg z k 40
      · rw [r_isSign1 hT h a3, tbI_v, tn1]
      · rw [r_isSign0 hT h a3 (by omega), tbI_v, tn0, r_word hT h (by omega), tbI_v]
        by_cases a4 : wN z k = 32
        · rw [bN_n1 a4]
        · exfalso
          rcases hp with w | w | w | w
          · omega
          · exact a2 w
          · exact a3 w
          · exact a4 w
theorem c_partE {G : tH} {z : mZ} {N k q D : Nat} {x2 : Int32} (hT : TK z N) (h : CT G z k) (h0 : gI G 808 0 = nI 0) (hp : ¬ isP z k) : V_X2_readPart D q x2 G = some (some (vI (nI 0)), sI G 808 0 (nI (fv z k 1))) := by
  unfold isP at hp
  have a1 : ¬ (35 ≤ wN z k ∧ wN z k < 38) := fun w => hp (Or.inl w)
  have a2 : ¬ kd z k = 2 := fun w => hp (Or.inr (Or.inl w))
  have a3 : ¬ sg z k 40 := fun w => hp (Or.inr (Or.inr (Or.inl w)))
  have a4 : ¬ wN z k = 32 := fun w => hp (Or.inr (Or.inr (Or.inr w)))
  rw [c_part45 hT h, e_X2_readPart_45, fi_12 _ wN_le, if_neg a1, show oI none = (-1 : Int32) from rfl, tif_pos rfl, bN_n0 a2, bN_n0 a3, bN_n0 a4, c_blame h h0, tbI_v, tz0]
theorem r_partE {G : tH} {z : mZ} {N k D : Nat} {x1 : Int32} (hT : TK z N) (h : RT G z N k) (hp : ¬ isP z k) : V_X11_takePart D x1 G = some (none, sI G 1108 0 (nI (fv z k 1))) := by
  unfold isP at hp
  have a1 : ¬ (35 ≤ wN z k ∧ wN z k < 35 + 3) := fun w => hp (Or.inl w)
  have a2 : ¬ kd z k = 2 := fun w => hp (Or.inr (Or.inl w))
  have a3 : ¬ sg z k 40 := fun w => hp (Or.inr (Or.inr (Or.inl w)))
  have a4 : ¬ wN z k = 32 := fun w => hp (Or.inr (Or.inr (Or.inr w)))
  rw [r_part26 hT h, e_X11_takePart_26, r_here hT h (by omega), tbI_v, wh_0 a1, tif_pos m1_lt, bN_n0 a2, r_isSign0 hT h a3 (by omega), tbI_v, tn0, r_word hT h (by omega), tbI_v, bN_n0 a4, r_wrong hT h, tbV_v, r_part79F (RT.bad hT (by omega) (by omega))]
theorem part_5 {z : mZ} {N q b : Nat} (hT : TK z N) : Pp z N q b 5 := by
  intro Gc Gr k cs hP hbk
  have hN := hT.le
  have hk := hP.2.2.1.2.1
  by_cases hp : isP z k
  · rw [c_part73 hT hP.1 hp, r_part69 hT hP.2.2.1 hp, e_X2_readPart_73, tltM (by omega) (by omega) (by omega), c_blame hP.1 hP.2.1, tbI_v, tz0, e_X11_takePart_69, tif_pos rfl, r_wrong hT hP.2.2.1, tbV_v, r_part79F (RT.bad hT (by omega) (by omega))]
    exact Or.inr (hP.bad hT (by omega) (by omega) (by omega) (by omega) FRM.rf)
  · rw [c_partE hT hP.1 hP.2.1 hp, r_partE hT hP.2.2.1 hp]
    exact Or.inr (hP.bad hT (by omega) (by omega) (by omega) (by omega) FRM.rf)
/-- a number or a fact -/
theorem part_push {z : mZ} {N q b k d : Nat} {Gc Gr : tH} {cs : List mC} (hT : TK z N) (hP : LQ z N q b Gc Gr k cs) (hbk : b + cs.length ≤ k) (hd : d ≤ 4) (hkd : kd z k ≠ 0) (x : mC) (hx : okc x) (hx2 : x.1 ≤ 2) : ∃ G1, V_X8_advance (addG Gc q cs.length (stp x)) = some (none, G1) ∧ SUC z N q b (some (some (vI (nI 1)), G1)) (some (none, sI (emG Gr (b + cs.length) x.1 x.2) 1107 0 (nI (k + 1)))) Gc Gr k cs d (cb 4 d) := by
  have hN := hT.le
  have hkN := hT.lt hP.2.2.1.2.1 hkd
  obtain ⟨hP1, fr1⟩ := hP.push x
  obtain ⟨G1, e, c1, f1⟩ := c_adv hT.1 hP1.1
  obtain ⟨hP2, fr2⟩ := hP1.go c1 f1 hkN
  refine ⟨G1, e, G1, _, k + 1, [x], rfl, rfl, hP2, ?_, fun c hc => by rw [List.mem_singleton.mp hc]; exact hx, Nat.le_refl _, by omega, hd, fr1.tr fr2⟩
  have := (hM_push (o := x.1) (a := x.2) hx2).mono (show 1 ≤ cb 4 d by unfold cb; omega)
  exact this
theorem part_s {z : mZ} {N q b d : Nat} (hT : TK z N) (hd : d ≤ 4) (ihp : Pp z N q b (d + 1)) (ih0 : P0 z N q b (d + 1)) : Pp z N q b d := by
  intro Gc Gr k cs hP hbk
  have hN := hT.le
  have hk := hP.2.2.1.2.1
  by_cases hp : isP z k
  · have hkd := isP_kd hp
    have hkN := hT.lt hk hkd
    have hR := hP.2.2.1
    rw [c_part73 hT hP.1 hp, r_part69 hT hR hp, e_X2_readPart_73, tltP (by omega) (by omega) (by omega), e_X11_takePart_69, teqM (by omega) (by omega) (by omega), e_X11_takePart_79, hR.2.2.2.1, tl0M rfl]
    by_cases a1 : 35 ≤ wN z k ∧ wN z k < 38
    · have hk1 := wN_kd (z := z) (k := k) (by omega)
      obtain ⟨a, ha⟩ : ∃ a, a = wN z k - 35 := ⟨_, rfl⟩
      obtain ⟨G1, e1, hS⟩ := part_push (d := d) hT hP hbk hd hkd (2, a) (Or.inr (Or.inl ⟨rfl, by show a < 3; omega⟩)) (by show 2 ≤ 2; omega)
      refine Or.inl ?_
      rw [fi_12 _ wN_le, if_pos a1, ← ha, show oI (some a) = nI a from rfl, bN_n0 (by omega), tif_neg (m1_ne (by omega)), show (-9 : Int32) - nI a = stp (2, a) from rfl, c_add hP.2.2.2.1.1 (by omega), tbV_v, e_X2_readPart_113, e1, tbV_v, bN_n0 (fun w => by have := w.1; omega), bN_n0 (by omega), tz1, r_hasW0 hT hR (by omega) (by omega), tbI_v, tn0, r_hasS0 hT hR (fun w => by have := w.1; omega) (by omega), tbI_v, tn0, bN_n0 (by omega), e_X11_takePart_147, bN_n0 (by omega), wh_1 (by omega), ← ha, e_X11_takePart_165, r_emit hP.2.2.2.2.1 (by omega), tbV_v]
      dsimp only
      rw [(em_fr2 1107 0 (by omega)).1, hR.2.2.1, nI_add]
      exact hS
    · by_cases a2 : kd z k = 2
      · have hw : wN z k = 38 := by unfold wN; rw [pif_0 (by omega)]
        have hn := nv_lt a2
        have h806 : gI Gc 806 0 = nI (nv z k) := hP.1.2.2.2.2.2.1 a2
        obtain ⟨G1, e1, hS⟩ := part_push (d := d) hT hP hbk hd hkd (1, nv z k) (Or.inl ⟨rfl, by show nv z k ≤ 9999; omega⟩) (by show 1 ≤ 2; omega)
        refine Or.inl ?_
        rw [bN_n1 a2, h806, show nI (nv z k) = stp (1, nv z k) from rfl, c_add hP.2.2.2.1.1 (by omega), tbV_v, e_X2_readPart_113, e1, tbV_v, bN_n0 (fun w => by have := w.1; omega), bN_n0 (by omega), tz1, r_hasW0 hT hR (by omega) (by omega), tbI_v, tn0, r_hasS0 hT hR (fun w => by have := w.1; omega) (by omega), tbI_v, tn0, bN_n1 a2, e_X11_takePart_147, bN_n1 a2, hR.2.2.1, ttin (by omega) (by omega), nI_clamp (by omega), (hR.1 k hk).2.2.2.1 a2, lN_i, e_X11_takePart_165, r_emit hP.2.2.2.2.1 (by omega), tbV_v]
        dsimp only
        rw [(em_fr2 1107 0 (by omega)).1, hR.2.2.1, nI_add]
        exact hS
      · rw [fi_12 _ wN_le, if_neg a1, show oI none = (-1 : Int32) from rfl, bN_n0 a2, tif_pos rfl, e_X2_readPart_113]
        obtain ⟨G1, e1, c1, f1⟩ := c_adv hT.1 hP.1
        obtain ⟨hP1, fr1⟩ := hP.go c1 f1 hkN
        rw [e1, tbV_v]
        by_cases a3 : sg z k 40
        · have hw : wN z k = 38 := by have := a3.1; unfold wN; rw [pif_0 (by omega)]
          rw [bN_n1 a3, r_hasW0 hT hR (by omega) (by omega), tbI_v, tn0, r_hasS1 hT hR a3, tbI_v, tn1, nI_add, t6 (by omega), t5 (by omega), gok (by omega), gok (by omega)]
          rcases ih0 _ _ _ _ hP1 (by omega) with ⟨Gc2, Gr2, k2, e2, b1, b2, b3, b4, b5, b6, b7, b8, b9⟩ | ⟨Gc2, Gr2, v, c2, k2, ln, b1, b2, b3, b4, b5, b6, b7, b8, b9, b10, b11, b12⟩
          · unfold Kc at b1
            have hl2 : (cs ++ e2).length = cs.length + e2.length := List.length_append
            have hk2 := b3.2.2.1.2.1
            rw [b1, b2, tbI_v, tbV_v, tn1]
            by_cases s : sg z k2 41
            · obtain ⟨G3, e3, c3, f3⟩ := c_sign1 hT b3.1 s
              obtain ⟨hP3, fr3⟩ := b3.go c3 f3 (hT.lt hk2 (by have := s.1; omega))
              refine Or.inl ⟨G3, _, k2 + 1, e2, ?_, ?_, hP3, ?_, b5, by omega, by omega, hd, (fr1.tr b9).tr fr3⟩
              · rw [e3, tbI_v, tn1, tz1]
              · rw [r_sign1 hT b3.2.2.1 s, tbV_v]
              · exact b4.mono (by unfold cb; omega)
            · rw [c_sign0 hT b3.1 b3.2.1 s (by omega), tbI_v, tn0, tz0, r_sign0 hT b3.2.2.1 s (by omega), tbV_v]
              exact Or.inr (b3.bad hT (by omega) (by omega) (by omega) (by omega) (fr1.tr b9))
          · unfold Kc at b1
            refine Or.inr ⟨Gc2, Gr2, v, c2, k2, ln, ?_, b2, ?_, b4, b5, b6, b7, by omega, b9, b10, b11, fr1.tr b12⟩
            · rw [b1, tbI_v, tn0, tz0]
            · rw [b3, tbV_v, r_signF b4, tbV_v]
        · have a4 : wN z k = 32 := by
            rcases hp with w | w | w | w
            · exact absurd w a1
            · exact absurd w a2
            · exact absurd w a3
            · exact w
          rw [bN_n0 a3, bN_n1 a4, r_hasW1 hT hR (by omega) a4, tbI_v, tn1, nI_add, t6 (by omega), gok (by omega), gok (by omega)]
          rcases ihp _ _ _ _ hP1 (by omega) with ⟨Gc2, Gr2, k2, e2, b1, b2, b3, b4, b5, b6, b7, b8, b9⟩ | ⟨Gc2, Gr2, v, c2, k2, ln, b1, b2, b3, b4, b5, b6, b7, b8, b9, b10, b11, b12⟩
          · have hl2 : (cs ++ e2).length = cs.length + e2.length := List.length_append
            have hk2 := b3.2.2.1.2.1
            obtain ⟨hP3, fr3⟩ := b3.push (3, 0)
            rw [List.append_assoc] at hP3
            refine Or.inl ⟨_, _, k2, e2 ++ [(3, 0)], ?_, ?_, hP3, (hM_not b4).mono (by unfold cb; omega), fun c hc => ?_, ?_, by omega, hd, (fr1.tr b9).tr fr3⟩
            · rw [b1, tbI_v, show (-8 : Int32) = stp (3, 0) from rfl, c_add b3.2.2.2.1.1 (by omega), tbV_v, tz1]
            · rw [b2, tbV_v, r_emit b3.2.2.2.2.1 (by omega), tbV_v]
            · rcases List.mem_append.mp hc with w | w
              · exact b5 c w
              · rw [List.mem_singleton.mp w]; exact Or.inr (Or.inr (Or.inl rfl))
            · rw [List.length_append]; show k + (e2.length + 1) ≤ k2; omega
          · obtain ⟨G5, n5, g1, g2, g3, g4⟩ := c_addF (x := -8) b10 b11
            refine Or.inr ⟨G5, emG Gr2 c2 3 0, v, c2 + 1, k2, n5, ?_, ?_, ?_, b4.kept em_fr2 (by omega), em_n, ?_, b7, by omega, by omega, g2, g3, (fr1.tr b12).tr ⟨g4.mono fun f o w => by unfold zLc; omega, em_fr, fun i hi => em_at (by omega)⟩⟩
            · rw [b1, tbI_v, g1, tbV_v, tz0]
            · rw [(g4 808 0 (by omega)).1]; exact b2
            · rw [b3, tbV_v, r_emit b5 (by omega), tbV_v]
            · rw [(em_fr2 1107 0 (by omega)).1]; exact b6
  · rw [c_partE hT hP.1 hP.2.1 hp, r_partE hT hP.2.2.1 hp]
    exact Or.inr (hP.bad hT (by omega) (by omega) (by omega) (by omega) FRM.rf)
theorem part_all {z : mZ} {N q b : Nat} (hT : TK z N) : ∀ m d, d + m = 5 → Pp z N q b d := by
  intro m
  induction m with
  | zero => intro d hd; rw [show d = 5 by omega]; exact part_5 hT
  | succ m ih =>
    intro d hd
    have h1 := ih (d + 1) (by omega)
    exact part_s hT (by omega) h1 (lv_0 hT (by omega) h1)
theorem law_all {z : mZ} {N q b : Nat} (hT : TK z N) : P0 z N q b 0 := lv_0 hT (by omega) (part_all hT 5 0 (by omega))
