/-! PURE: a province while it is read: the class' draft DC, the reference's DR -/
def lb (j : Nat) : Nat := if j = 0 then 8 else 10 + 10 * j
def mx (j : Nat) : Nat := if j = 0 then 6 else 5
theorem lb_in {j : Nat} (hj : j < 4) : 8 ≤ lb j ∧ lb j ≤ 40 := by unfold lb; split <;> omega
theorem mx_in {j : Nat} : 5 ≤ mx j ∧ mx j ≤ 6 := by unfold mx; split <;> omega
def DC (G : tH) (p : Nat) (pr : mP) (nm : Nat → Nat → List Nat) (ob : Nat) : Prop := (∀ j, j < 4 → gI G 601 (4 * p + j) = nI (cntP pr j) ∧ ∀ i, i < cntP pr j → gA G (504 + 2 * j) p i = nI (pr (2 * j) i) ∧ gA G (505 + 2 * j) p i = nI (pr (2 * j + 1) i) ∧ gB G 600 (4 * p + j) i = lN (wcode 32 (nm j i))) ∧ gI G 512 p = nI (pr 8 0) ∧ gI G 513 p = nI (pr 8 1) ∧ gI G 516 p = nI (16 * ob)
def DR (G : tH) (pr : mP) (nm : Nat → Nat → List Nat) (ob mn : Nat) : Prop := (∀ j, j < 4 → gA G 1110 0 (60 + j) = nI (cntP pr j) ∧ ∀ i, i < cntP pr j → gA G 1110 0 (60 + lb j + 2 * i) = nI (pr (2 * j) i) ∧ gA G 1110 0 (60 + lb j + 2 * i + 1) = nI (pr (2 * j + 1) i)) ∧ gA G 1110 0 64 = nI (pr 8 0) ∧ gA G 1110 0 65 = nI (pr 8 1) ∧ gI G 1120 0 = nI ob ∧ gI G 1119 0 = nI mn ∧ NR (gB G 1115 0) (gA G 1117 0) mn (cntP pr) nm ∧ mn = cntP pr 0 + cntP pr 1 + cntP pr 2 + cntP pr 3
def addP (pr : mP) (j n x y : Nat) : mP := u1 (u1 (u1 pr (2 * j) n x) (2 * j + 1) n y) 8 (2 + j) (n + 1)
def addN (nm : Nat → Nat → List Nat) (j n : Nat) (l : List Nat) : Nat → Nat → List Nat := fun j' i' => if j' = j ∧ i' = n then l else nm j' i'
def addC (cnt : Nat → Nat) (j n : Nat) : Nat → Nat := fun j' => if j' = j then n + 1 else cnt j'
theorem addC_s {cnt : Nat → Nat} {j n : Nat} : addC cnt j n j = n + 1 := if_pos rfl
theorem addC_o {cnt : Nat → Nat} {j n j' : Nat} (h : j' ≠ j) : addC cnt j n j' = cnt j' := if_neg h
theorem addN_s {nm : Nat → Nat → List Nat} {j n : Nat} {l : List Nat} : addN nm j n l j n = l := if_pos ⟨rfl, rfl⟩
theorem addN_o {nm : Nat → Nat → List Nat} {j n j' i' : Nat} {l : List Nat} (h : ¬ (j' = j ∧ i' = n)) : addN nm j n l j' i' = nm j' i' := if_neg h
theorem addP_c {pr : mP} {j n x y : Nat} (hj : j < 4) : cntP (addP pr j n x y) = addC (cntP pr) j n := by
  funext j'
  unfold cntP addP addC
  by_cases e : j' = j
  · rw [e, u1_eq, if_pos rfl]
  · rw [u1_ni (by omega), u1_nk (by omega), u1_nk (by omega), if_neg e]
theorem addP_8 {pr : mP} {j n x y i : Nat} (hj : j < 4) (hi : i < 2) : addP pr j n x y 8 i = pr 8 i := by unfold addP; rw [u1_ni (by omega), u1_nk (by omega), u1_nk (by omega)]
theorem addP_x {pr : mP} {j n x y : Nat} (hj : j < 4) : addP pr j n x y (2 * j) n = x := by unfold addP; rw [u1_nk (by omega), u1_nk (by omega), u1_eq]
theorem addP_y {pr : mP} {j n x y : Nat} (hj : j < 4) : addP pr j n x y (2 * j + 1) n = y := by unfold addP; rw [u1_nk (by omega), u1_eq]
theorem addP_o {pr : mP} {j n x y r i : Nat} (hr : r < 8) (h : i ≠ n ∨ (r ≠ 2 * j ∧ r ≠ 2 * j + 1)) : addP pr j n x y r i = pr r i := by
  unfold addP
  rw [u1_nk (by omega)]
  rcases h with h | ⟨h1, h2⟩
  · rw [u1_ni h, u1_ni h]
  · rw [u1_nk h2, u1_nk h1]
/-- the class has entered a name and told its numbers -/
theorem DC.add {G G' : tH} {p j n x y ob : Nat} {pr : mP} {nm : Nat → Nat → List Nat} {l : List Nat} (h : DC G p pr nm ob) (hj : j < 4) (hn : cntP pr j = n) (hf : tfr (fun f o => (802 ≤ f ∧ f ≤ 808) ∨ ((f = 600 ∨ f = 601) ∧ o = 4 * p + j) ∨ ((f = 504 + 2 * j ∨ f = 505 + 2 * j) ∧ o = p)) G G') (h1 : gI G' 601 (4 * p + j) = nI (n + 1)) (h2 : ∀ i, i ≠ n → gB G' 600 (4 * p + j) i = gB G 600 (4 * p + j) i) (h3 : gB G' 600 (4 * p + j) n = lN (wcode 32 l)) (h4 : ∀ i, i ≠ n → gA G' (504 + 2 * j) p i = gA G (504 + 2 * j) p i ∧ gA G' (505 + 2 * j) p i = gA G (505 + 2 * j) p i) (h5 : gA G' (504 + 2 * j) p n = nI x) (h6 : gA G' (505 + 2 * j) p n = nI y) : DC G' p (addP pr j n x y) (addN nm j n l) ob := by
  obtain ⟨a1, a2, a3, a4⟩ := h
  refine ⟨fun j' hj' => ?_, ?_, ?_, ?_⟩
  · rw [addP_c hj]
    obtain ⟨b1, b2⟩ := a1 j' hj'
    by_cases e : j' = j
    · subst e
      rw [addC_s]
      refine ⟨h1, fun i hi => ?_⟩
      by_cases ei : i = n
      · subst ei
        rw [addP_x hj, addP_y hj, addN_s]
        exact ⟨h5, h6, h3⟩
      · rw [addP_o (by omega) (Or.inl ei), addP_o (by omega) (Or.inl ei), addN_o (by omega), (h4 i ei).1, (h4 i ei).2, h2 i ei]
        exact b2 i (by omega)
    · rw [addC_o e]
      refine ⟨?_, fun i hi => ?_⟩
      · rw [(hf 601 (4 * p + j') (by omega)).1]; exact b1
      · rw [addP_o (by omega) (Or.inr (by omega)), addP_o (by omega) (Or.inr (by omega)), addN_o (by omega), (hf (504 + 2 * j') p (by omega)).2.2.2.1, (hf (505 + 2 * j') p (by omega)).2.2.2.1, (hf 600 (4 * p + j') (by omega)).2.2.2.2]
        exact b2 i hi
  · rw [addP_8 hj (by omega), (hf 512 p (by omega)).1]; exact a2
  · rw [addP_8 hj (by omega), (hf 513 p (by omega)).1]; exact a3
  · rw [(hf 516 p (by omega)).1]; exact a4
theorem NR.add {B B' : Nat → Int64} {A A' : Nat → Int32} {mn j n : Nat} {cnt : Nat → Nat} {nm : Nat → Nat → List Nat} {l : List Nat} (h : NR B A mn cnt nm) (hmn : mn < 21) (hj : j < 4) (hn : cnt j = n) (h1 : ∀ i, i ≠ mn → B' i = B i ∧ A' i = A i) (h2 : B' mn = lN (wcode 37 l)) (h3 : A' mn = nI (20 * j + n)) : NR B' A' (mn + 1) (addC cnt j n) (addN nm j n l) := by
  obtain ⟨a0, a1, a2⟩ := h
  refine ⟨hmn, fun k hk => ?_, fun j' i hj' hi => ?_⟩
  · by_cases e : k = mn
    · subst e
      exact ⟨j, n, hj, by rw [addC_s]; omega, by rw [addN_s]; exact h2, h3⟩
    · obtain ⟨j', i', b1, b2, b3, b4⟩ := a1 k (by omega)
      refine ⟨j', i', b1, ?_, ?_, ?_⟩
      · by_cases ej : j' = j
        · subst ej; rw [addC_s]; omega
        · rw [addC_o ej]; exact b2
      · rw [addN_o (fun w => by rw [w.1, w.2] at b2; omega), (h1 k e).1]; exact b3
      · rw [(h1 k e).2]; exact b4
  · by_cases e : j' = j ∧ i = n
    · obtain ⟨e1, e2⟩ := e
      subst e1
      subst e2
      exact ⟨mn, by omega, by rw [addN_s]; exact h2, h3⟩
    · have hi' : i < cnt j' := by
        by_cases ej : j' = j
        · subst ej; rw [addC_s] at hi; omega
        · rw [addC_o ej] at hi; exact hi
      obtain ⟨k, b1, b2, b3⟩ := a2 j' i hj' hi'
      refine ⟨k, by omega, ?_, ?_⟩
      · rw [addN_o e, (h1 k (by omega)).1]; exact b2
      · rw [(h1 k (by omega)).2]; exact b3
theorem NU.add {cnt : Nat → Nat} {nm : Nat → Nat → List Nat} {j n : Nat} {l : List Nat} (h : NU cnt nm) (hj : j < 4) (hn : cnt j = n) (hm : n < mx j) (hl : okW l) (hne : ∀ j' i', j' < 4 → i' < cnt j' → nm j' i' ≠ l) : NU (addC cnt j n) (addN nm j n l) := by
  obtain ⟨a0, a1, a2, a3, a4, a5⟩ := h
  have hc : ∀ j', j' < 4 → cnt j' ≤ mx j' → addC cnt j n j' ≤ mx j' := by
    intro j' _ h'
    by_cases e : j' = j
    · subst e; rw [addC_s]; exact hm
    · rw [addC_o e]; exact h'
  have inv : ∀ j' i', i' < addC cnt j n j' → (j' = j ∧ i' = n) ∨ i' < cnt j' := by
    intro j' i' hi
    by_cases e : j' = j
    · subst e
      rw [addC_s] at hi
      by_cases e2 : i' = n
      · exact Or.inl ⟨rfl, e2⟩
      · exact Or.inr (by omega)
    · rw [addC_o e] at hi
      exact Or.inr hi
  have val : ∀ j' i', i' < cnt j' → addN nm j n l j' i' = nm j' i' := fun j' i' hi => addN_o (fun w => by rw [w.1, w.2] at hi; omega)
  refine ⟨hc 0 (by omega) a0, hc 1 (by omega) a1, hc 2 (by omega) a2, hc 3 (by omega) a3, fun j' i' hj' hi => ?_, fun j1 i1 j2 i2 g1 g2 g3 g4 e => ?_⟩
  · rcases inv j' i' hi with ⟨w1, w2⟩ | w
    · rw [w1, w2, addN_s]; exact hl
    · rw [val _ _ w]; exact a4 j' i' hj' w
  · rcases inv j1 i1 g2 with ⟨w1, w2⟩ | w
    · rcases inv j2 i2 g4 with ⟨v1, v2⟩ | v
      · omega
      · rw [w1, w2, addN_s, val _ _ v] at e
        exact absurd e.symm (hne j2 i2 g3 v)
    · rcases inv j2 i2 g4 with ⟨v1, v2⟩ | v
      · rw [v1, v2, addN_s, val _ _ w] at e
        exact absurd e (hne j1 i1 g1 w)
      · rw [val _ _ w, val _ _ v] at e
        exact a5 j1 i1 j2 i2 g1 w g3 v e
/-- the reference has entered a name and told its numbers -/
theorem DR.add {G G' : tH} {j n x y ob mn : Nat} {pr : mP} {nm : Nat → Nat → List Nat} {l : List Nat} (h : DR G pr nm ob mn) (hU : NU (cntP pr) nm) (hj : j < 4) (hn : cntP pr j = n) (hm : n < mx j) (h0 : gI G' 1120 0 = gI G 1120 0) (h1 : gI G' 1119 0 = nI (mn + 1)) (h2 : ∀ i, i ≠ mn → gB G' 1115 0 i = gB G 1115 0 i ∧ gA G' 1117 0 i = gA G 1117 0 i) (h3 : gB G' 1115 0 mn = lN (wcode 37 l)) (h4 : gA G' 1117 0 mn = nI (20 * j + n)) (h5 : ∀ i, i ≠ 60 + lb j + 2 * n → i ≠ 60 + lb j + 2 * n + 1 → i ≠ 60 + j → gA G' 1110 0 i = gA G 1110 0 i) (h6 : gA G' 1110 0 (60 + j) = nI (n + 1)) (h7 : gA G' 1110 0 (60 + lb j + 2 * n) = nI x) (h8 : gA G' 1110 0 (60 + lb j + 2 * n + 1) = nI y) : DR G' (addP pr j n x y) (addN nm j n l) ob (mn + 1) := by
  obtain ⟨a1, a2, a3, a4, a5, a6, a7⟩ := h
  obtain ⟨u0, u1, u2, u3, _⟩ := id hU
  have hlj := lb_in hj
  have hmx := mx_in (j := j)
  have hmn : mn < 21 := by
    rcases (show j = 0 ∨ j = 1 ∨ j = 2 ∨ j = 3 by omega) with e | e | e | e <;> subst e
    · have : mx 0 = 6 := rfl
      omega
    · have : mx 1 = 5 := rfl
      omega
    · have : mx 2 = 5 := rfl
      omega
    · have : mx 3 = 5 := rfl
      omega
  refine ⟨fun j' hj' => ?_, ?_, ?_, ?_, h1, ?_, ?_⟩
  · rw [addP_c hj]
    obtain ⟨b1, b2⟩ := a1 j' hj'
    have hl' := lb_in hj'
    have hc' := hU.le hj'
    by_cases e : j' = j
    · subst e
      rw [addC_s]
      refine ⟨h6, fun i hi => ?_⟩
      by_cases ei : i = n
      · subst ei
        rw [addP_x hj, addP_y hj]
        exact ⟨h7, h8⟩
      · rw [addP_o (by omega) (Or.inl ei), addP_o (by omega) (Or.inl ei), h5 _ (by omega) (by omega) (by omega), h5 _ (by omega) (by omega) (by omega)]
        exact b2 i (by omega)
    · rw [addC_o e]
      refine ⟨?_, fun i hi => ?_⟩
      · rw [h5 _ (by omega) (by omega) (by omega)]; exact b1
      · have hcj : cntP pr j' ≤ mx j' := by
          rcases (show j' = 0 ∨ j' = 1 ∨ j' = 2 ∨ j' = 3 by omega) with q | q | q | q <;> subst q
          · exact u0
          · exact u1
          · exact u2
          · exact u3
        have ap : ∀ t, t < 2 → 60 + lb j' + 2 * i + t ≠ 60 + lb j + 2 * n ∧ 60 + lb j' + 2 * i + t ≠ 60 + lb j + 2 * n + 1 := by
          intro t ht
          have l0 : lb 0 = 8 := rfl
          have l1 : lb 1 = 20 := rfl
          have l2 : lb 2 = 30 := rfl
          have l3 : lb 3 = 40 := rfl
          have m0 : mx 0 = 6 := rfl
          have m1 : mx 1 = 5 := rfl
          have m2 : mx 2 = 5 := rfl
          have m3 : mx 3 = 5 := rfl
          rcases (show j = 0 ∨ j = 1 ∨ j = 2 ∨ j = 3 by omega) with q | q | q | q <;> rcases (show j' = 0 ∨ j' = 1 ∨ j' = 2 ∨ j' = 3 by omega) with q' | q' | q' | q' <;> rw [q] at hm ⊢ <;> rw [q'] at hcj hi ⊢ <;> omega
        have ap0 := ap 0 (by omega)
        have ap1 := ap 1 (by omega)
        rw [addP_o (by omega) (Or.inr (by omega)), addP_o (by omega) (Or.inr (by omega)), h5 (60 + lb j' + 2 * i) ap0.1 ap0.2 (by omega), h5 _ ap1.1 ap1.2 (by omega)]
        exact b2 i hi
  · rw [addP_8 hj (by omega), h5 _ (by omega) (by omega) (by omega)]; exact a2
  · rw [addP_8 hj (by omega), h5 _ (by omega) (by omega) (by omega)]; exact a3
  · rw [h0]; exact a4
  · rw [addP_c hj]; exact a6.add hmn hj hn h2 h3 h4
  · rw [addP_c hj]
    rcases (show j = 0 ∨ j = 1 ∨ j = 2 ∨ j = 3 by omega) with e | e | e | e <;> subst e
    · rw [addC_s, addC_o (by omega), addC_o (by omega), addC_o (by omega)]; omega
    · rw [addC_s, addC_o (by omega), addC_o (by omega), addC_o (by omega)]; omega
    · rw [addC_s, addC_o (by omega), addC_o (by omega), addC_o (by omega)]; omega
    · rw [addC_s, addC_o (by omega), addC_o (by omega), addC_o (by omega)]; omega
/-- sound numbers of a name -/
def okV (j x y c : Nat) : Prop := (j = 0 → x ≤ 3 ∧ y ≤ 999) ∧ (j = 1 → x ≤ 3 ∧ y ≤ 9999) ∧ (j = 2 → x ≤ 300 ∧ 1 ≤ y ∧ y ≤ 9) ∧ (j = 3 → x < c ∧ y ≤ 999)
theorem okP.add {pr : mP} {j n x y : Nat} (h : okP pr) (hj : j < 4) (hn : cntP pr j = n) (hm : n < mx j) (hv : okV j x y (cntP pr 1)) : okP (addP pr j n x y) := by
  have ec := addP_c (pr := pr) (j := j) (n := n) (x := x) (y := y) hj
  have c0 : nT (addP pr j n x y) = addC (cntP pr) j n 0 := congrFun ec 0
  have c1 : nC (addP pr j n x y) = addC (cntP pr) j n 1 := congrFun ec 1
  have c2 : nH (addP pr j n x y) = addC (cntP pr) j n 2 := congrFun ec 2
  have c3 : nJ (addP pr j n x y) = addC (cntP pr) j n 3 := congrFun ec 3
  have d0 : nT pr = cntP pr 0 := rfl
  have d1 : nC pr = cntP pr 1 := rfl
  have d2 : nH pr = cntP pr 2 := rfl
  have d3 : nJ pr = cntP pr 3 := rfl
  obtain ⟨a1, a2, a3, a4, a5, a6, a7, a8, a9, a10⟩ := h
  obtain ⟨v0, v1, v2, v3⟩ := hv
  have m0 : mx 0 = 6 := rfl
  have m1 : mx 1 = 5 := rfl
  have m2 : mx 2 = 5 := rfl
  have m3 : mx 3 = 5 := rfl
  unfold okP
  rw [c0, c1, c2, c3, addP_8 hj (by omega), addP_8 hj (by omega)]
  rcases (show j = 0 ∨ j = 1 ∨ j = 2 ∨ j = 3 by omega) with e | e | e | e <;> subst e
  · rw [addC_s, addC_o (by omega), addC_o (by omega), addC_o (by omega)]
    refine ⟨by omega, by omega, by omega, by omega, a5, a6, fun t ht => ?_, fun t ht => ?_, fun t ht => ?_, fun t ht => ?_⟩
    · by_cases et : t = n
      · subst et
        have w1 := addP_x (pr := pr) (j := 0) (n := t) (x := x) (y := y) hj
        have w2 := addP_y (pr := pr) (j := 0) (n := t) (x := x) (y := y) hj
        rw [show addP pr 0 t x y 0 t = x from w1, show addP pr 0 t x y 1 t = y from w2]
        exact v0 rfl
      · rw [addP_o (by omega) (Or.inl et), addP_o (by omega) (Or.inl et)]; exact a7 t (by omega)
    · rw [addP_o (by omega) (Or.inr (by omega)), addP_o (by omega) (Or.inr (by omega))]; exact a8 t ht
    · rw [addP_o (by omega) (Or.inr (by omega)), addP_o (by omega) (Or.inr (by omega))]; exact a9 t ht
    · rw [addP_o (by omega) (Or.inr (by omega)), addP_o (by omega) (Or.inr (by omega))]; exact a10 t ht
  · rw [addC_s, addC_o (by omega), addC_o (by omega), addC_o (by omega)]
    refine ⟨by omega, by omega, by omega, by omega, a5, a6, fun t ht => ?_, fun t ht => ?_, fun t ht => ?_, fun t ht => ?_⟩
    · rw [addP_o (by omega) (Or.inr (by omega)), addP_o (by omega) (Or.inr (by omega))]; exact a7 t ht
    · by_cases et : t = n
      · subst et
        have w1 := addP_x (pr := pr) (j := 1) (n := t) (x := x) (y := y) hj
        have w2 := addP_y (pr := pr) (j := 1) (n := t) (x := x) (y := y) hj
        rw [show addP pr 1 t x y 2 t = x from w1, show addP pr 1 t x y 3 t = y from w2]
        exact v1 rfl
      · rw [addP_o (by omega) (Or.inl et), addP_o (by omega) (Or.inl et)]; exact a8 t (by omega)
    · rw [addP_o (by omega) (Or.inr (by omega)), addP_o (by omega) (Or.inr (by omega))]; exact a9 t ht
    · rw [addP_o (by omega) (Or.inr (by omega)), addP_o (by omega) (Or.inr (by omega))]
      have := a10 t ht
      omega
  · rw [addC_s, addC_o (by omega), addC_o (by omega), addC_o (by omega)]
    refine ⟨by omega, by omega, by omega, by omega, a5, a6, fun t ht => ?_, fun t ht => ?_, fun t ht => ?_, fun t ht => ?_⟩
    · rw [addP_o (by omega) (Or.inr (by omega)), addP_o (by omega) (Or.inr (by omega))]; exact a7 t ht
    · rw [addP_o (by omega) (Or.inr (by omega)), addP_o (by omega) (Or.inr (by omega))]; exact a8 t ht
    · by_cases et : t = n
      · subst et
        have w1 := addP_x (pr := pr) (j := 2) (n := t) (x := x) (y := y) hj
        have w2 := addP_y (pr := pr) (j := 2) (n := t) (x := x) (y := y) hj
        rw [show addP pr 2 t x y 4 t = x from w1, show addP pr 2 t x y 5 t = y from w2]
        exact v2 rfl
      · rw [addP_o (by omega) (Or.inl et), addP_o (by omega) (Or.inl et)]; exact a9 t (by omega)
    · rw [addP_o (by omega) (Or.inr (by omega)), addP_o (by omega) (Or.inr (by omega))]; exact a10 t ht
  · rw [addC_s, addC_o (by omega), addC_o (by omega), addC_o (by omega)]
    refine ⟨by omega, by omega, by omega, by omega, a5, a6, fun t ht => ?_, fun t ht => ?_, fun t ht => ?_, fun t ht => ?_⟩
    · rw [addP_o (by omega) (Or.inr (by omega)), addP_o (by omega) (Or.inr (by omega))]; exact a7 t ht
    · rw [addP_o (by omega) (Or.inr (by omega)), addP_o (by omega) (Or.inr (by omega))]; exact a8 t ht
    · rw [addP_o (by omega) (Or.inr (by omega)), addP_o (by omega) (Or.inr (by omega))]; exact a9 t ht
    · by_cases et : t = n
      · subst et
        have w1 := addP_x (pr := pr) (j := 3) (n := t) (x := x) (y := y) hj
        have w2 := addP_y (pr := pr) (j := 3) (n := t) (x := x) (y := y) hj
        rw [show addP pr 3 t x y 6 t = x from w1, show addP pr 3 t x y 7 t = y from w2]
        exact v3 rfl
      · rw [addP_o (by omega) (Or.inl et), addP_o (by omega) (Or.inl et)]; exact a10 t (by omega)
