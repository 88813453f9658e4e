/-! PURE: names, the whole invariant, its frames -/
def wcode (B : Nat) (l : List Nat) : Nat := l.foldl (fun v x => B * v + x) 0
def okW (l : List Nat) : Prop := l ≠ [] ∧ l.length ≤ 8 ∧ ∀ x, x ∈ l → 1 ≤ x ∧ x ≤ 26
def cntP (pr : mP) (j : Nat) : Nat := pr 8 (2 + j)
def okN (pr : mP) (nm : Nat → Nat → List Nat) : Prop := (∀ j i, j < 4 → i < cntP pr j → okW (nm j i)) ∧ ∀ j i j' i', j < 4 → i < cntP pr j → j' < 4 → i' < cntP pr j' → nm j i = nm j' i' → j = j' ∧ i = i'
def C5 (G : tH) (p : Nat) (pr : mP) (nm : Nat → Nat → List Nat) : Prop := ∀ j i, j < 4 → i < cntP pr j → gB G 600 (4 * p + j) i = lN (wcode 32 (nm j i))
def R5 (G : tH) (pr : mP) (nm : Nat → Nat → List Nat) : Prop := ∃ mn, mn ≤ 21 ∧ gI G 1118 0 = nI mn ∧ (∀ k, k < mn → ∃ j i, j < 4 ∧ i < cntP pr j ∧ gB G 1114 0 k = lN (wcode 37 (nm j i)) ∧ gA G 1116 0 k = nI (20 * j + i)) ∧ ∀ j i, j < 4 → i < cntP pr j → ∃ k, k < mn ∧ gB G 1114 0 k = lN (wcode 37 (nm j i)) ∧ gA G 1116 0 k = nI (20 * j + i)
def mWords : List Nat := [1034460, 24619264, 8762515035, 6395136, 20630012061, 14052286, 765438, 19830538, 15769678, 30910767, 37966778, 2793, 2503055, 791486, 3075, 3041219, 1273225, 1014841, 615203, 153784, 36421547, 4672476, 26793, 6251562, 30596128, 924194, 30919646, 831669, 583580781, 36646821, 27001236, 305638, 19741, 1891, 573, 1604349645, 177172, 209551]
def RW (G : tH) : Prop := ∀ k, k < 38 → gB G 1109 0 k = lN (mWords.getD k 0)
def IC (G : tH) (p fr q : Nat) (pr : mP) (lw : mL) (σ : Nat → mS) (τ : Nat → Nat → Int32) (ν : Nat → Nat) (L : Nat → Nat → Nat) (tx : Nat → Nat) (nm : Nat → Nat → List Nat) : Prop := C1 G p fr pr lw σ ν ∧ C2 G τ ν ∧ C3 G q ν L ∧ C4 G ν tx ∧ C5 G p pr nm
def IR (G : tH) (pr : mP) (lw : mL) (σ : Nat → mS) (τ : Nat → Nat → Int32) (ν : Nat → Nat) (L : Nat → Nat → Nat) (tx : Nat → Nat) (nm : Nat → Nat → List Nat) : Prop := R1 G pr lw σ ν ∧ R2 G τ ν ∧ R3 G ν L ∧ R4 G ν tx ∧ R5 G pr nm ∧ RW G
def INV (G : tH) : Prop := ∃ p fr q pr lw σ τ ν L tx nm, okM pr σ τ ν L tx ∧ okN pr nm ∧ IC G p fr q pr lw σ τ ν L tx nm ∧ IR G pr lw σ τ ν L tx nm
def zRef : Nat → Nat → Prop := fun f _ => 1100 ≤ f
def zCls : Nat → Nat → Prop := fun f _ => f < 1100
theorem zC_s : ∀ f o, zC f o → zCls f o := fun f o q => by unfold zC at q; unfold zCls; omega
theorem zQ_s : ∀ f o, zQ f o → zRef f o := fun f o q => by unfold zQ at q; unfold zRef; omega
section FR
variable {G G' : tH} {p fr q : Nat} {pr : mP} {lw : mL} {σ : Nat → mS} {τ : Nat → Nat → Int32} {ν : Nat → Nat} {L : Nat → Nat → Nat} {tx : Nat → Nat} {nm : Nat → Nat → List Nat} {S : Nat → Nat → Prop}
theorem C1.kept (h : C1 G p fr pr lw σ ν) (hf : tfr S G G') (hS : ∀ f o, S f o → ¬ (f = 200 ∨ f = 201 ∨ (500 ≤ f ∧ f < 800) ∨ f = 901 ∨ f = 902 ∨ f = 1001 ∨ f = 1002)) : C1 G' p fr pr lw σ ν := by
  obtain ⟨h1, h2, h3, h4, h5, h6, h7, h8, h9, h10, h11, h12⟩ := h
  have n : ∀ f o, (f = 200 ∨ f = 201 ∨ (500 ≤ f ∧ f < 800) ∨ f = 901 ∨ f = 902 ∨ f = 1001 ∨ f = 1002) → ¬ S f o := fun f o q1 q2 => hS f o q2 q1
  refine ⟨h1, ?_, ?_, h4.kept hf fun f o q q2 => hS f o q (by omega), h5.kept hf (n _ _ (by omega)) (n _ _ (by omega)), h6.kept hf (n _ _ (by omega)) (n _ _ (by omega)), h7.kept hf fun f _ _ => n _ _ (by omega), h8, ?_, ?_, fun k hk => (h11 k hk).kept hf fun f _ _ => n _ _ (by omega), fun m hm => (h12 m hm).kept hf fun f _ _ => n _ _ (by omega)⟩
  · rw [(hf 1001 0 (n _ _ (by omega))).2.2.1]; exact h2
  · rw [(hf 1002 0 (n _ _ (by omega))).2.2.1]; exact h3
  · rw [(hf 901 0 (n _ _ (by omega))).1]; exact h9
  · rw [(hf 902 0 (n _ _ (by omega))).1]; exact h10
theorem C2.kept (h : C2 G τ ν) (hf : tfr S G G') (hS : ∀ f o, S f o → ¬ (1009 ≤ f ∧ f ≤ 1011)) : C2 G' τ ν := by
  have n : ∀ f o, 1009 ≤ f → f ≤ 1011 → ¬ S f o := fun f o q1 q3 q2 => hS f o q2 ⟨q1, q3⟩
  unfold C2
  rw [(hf 1011 0 (n _ _ (by omega) (by omega))).2.2.2.1, (hf 1009 0 (n _ _ (by omega) (by omega))).2.2.2.1, (hf 1010 0 (n _ _ (by omega) (by omega))).1]
  exact h
theorem C3.kept (h : C3 G q ν L) (hf : tfr S G G') (hS : ∀ f o, S f o → ¬ ((400 ≤ f ∧ f ≤ 403) ∨ f = 1003 ∨ f = 1004)) : C3 G' q ν L := by
  have n : ∀ f o, ((400 ≤ f ∧ f ≤ 403) ∨ f = 1003 ∨ f = 1004) → ¬ S f o := fun f o q1 q2 => hS f o q2 q1
  unfold C3
  rw [(hf 1003 0 (n _ _ (by omega))).2.2.1, (hf 1004 0 (n _ _ (by omega))).2.2.1, (hf 400 q (n _ _ (by omega))).1, (hf 401 q (n _ _ (by omega))).2.2.2.1, (hf 402 q (n _ _ (by omega))).2.2.2.1, (hf 403 q (n _ _ (by omega))).2.2.2.1]
  exact h
theorem C4.kept (h : C4 G ν tx) (hf : tfr S G G') (hS : ∀ f o, S f o → ¬ (f = 800 ∨ f = 801)) : C4 G' ν tx := by
  have n : ∀ f o, (f = 800 ∨ f = 801) → ¬ S f o := fun f o q1 q2 => hS f o q2 q1
  unfold C4
  rw [(hf 801 0 (n _ _ (by omega))).1, (hf 800 0 (n _ _ (by omega))).2.2.2.1]
  exact h
theorem C5.kept (h : C5 G p pr nm) (hf : tfr S G G') (hS : ∀ f o, S f o → f ≠ 600) : C5 G' p pr nm := fun j i hj hi => by
  rw [(hf 600 (4 * p + j) fun q => hS _ _ q rfl).2.2.2.2]
  exact h j i hj hi
theorem C2.nu (h : C2 G τ ν) {ν' : Nat → Nat} (e : ν' 1 = ν 1) : C2 G τ ν' := by
  unfold C2 mkB
  rw [e]
  exact h
theorem C3.nu (h : C3 G q ν L) {ν' : Nat → Nat} (e : ν' 2 = ν 2) : C3 G q ν' L := by
  unfold C3
  rw [e]
  exact h
theorem C4.nu (h : C4 G ν tx) {ν' : Nat → Nat} (e : ν' 3 = ν 3) : C4 G ν' tx := by
  unfold C4
  rw [e]
  exact h
theorem R3.nu (h : R3 G ν L) {ν' : Nat → Nat} (e : ν' 2 = ν 2) : R3 G ν' L := by
  unfold R3
  rw [e]
  exact h
theorem R4.nu (h : R4 G ν tx) {ν' : Nat → Nat} (e : ν' 3 = ν 3) : R4 G ν' tx := by
  unfold R4
  rw [e]
  exact h
theorem R3.kept (h : R3 G ν L) (hf : tfr S G G') (n : ¬ S 1121 0) : R3 G' ν L := by
  unfold R3
  rw [(hf 1121 0 n).2.2.2.1]
  exact h
theorem R4.kept (h : R4 G ν tx) (hf : tfr S G G') (n : ¬ S 1101 0) (n2 : ¬ S 1102 0) : R4 G' ν tx := by
  unfold R4
  rw [(hf 1102 0 n2).1, (hf 1101 0 n).2.2.2.1]
  exact h
theorem R5.kept (h : R5 G pr nm) (hf : tfr S G G') (n1 : ¬ S 1114 0) (n2 : ¬ S 1116 0) (n3 : ¬ S 1118 0) : R5 G' pr nm := by
  unfold R5
  rw [(hf 1118 0 n3).1, (hf 1116 0 n2).2.2.2.1, (hf 1114 0 n1).2.2.2.2]
  exact h
theorem RW.kept (h : RW G) (hf : tfr S G G') (n : ¬ S 1109 0) : RW G' := by
  unfold RW
  rw [(hf 1109 0 n).2.2.2.2]
  exact h
theorem R2.ext (h : R2 G τ ν) {ν' : Nat → Nat} (e : ν' 1 = ν 1) (h1 : gA G' 1126 0 = gA G 1126 0) (h2 : ∀ k, 56 ≤ k → k < 305 → gA G' 1124 0 k = gA G 1124 0 k) : R2 G' τ ν' := by
  obtain ⟨a1, a2, a3⟩ := h
  refine ⟨fun c hc => ?_, fun m hm c hc => ?_, fun m hm => ?_⟩
  · rw [h2 _ (by omega) (by omega)]; exact a1 c hc
  · have := hm.1
    rw [h2 _ (by omega) (by omega)]
    refine a2 m ?_ c hc
    unfold mkB at hm ⊢
    rw [e] at hm
    exact hm
  · rw [h1, e]; exact a3 m hm
theorem R1.kept (h : R1 G pr lw σ ν) (hf : tfr S G G') (n0 : ¬ S 1110 0) (n1 : ¬ S 1111 0) (n2 : ¬ S 1112 0) (n3 : ¬ S 1124 0) (n4 : ¬ S 1125 0) : R1 G' pr lw σ ν := by
  obtain ⟨h1, h2, h3, h4, h5, h6, h7⟩ := h
  refine ⟨h1.kept hf n0, h2.kept hf n0 n1 n2, h3.kept hf n0 n1 n2, ?_, ?_, fun k hk => ?_, fun m hm => ?_⟩
  · rw [(hf 1124 0 n3).2.2.2.1]; exact h4
  · rw [(hf 1125 0 n4).1]; exact h5
  · rw [(hf 1124 0 n3).2.2.2.1]; exact h6 k hk
  · rw [(hf 1124 0 n3).2.2.2.1]; exact h7 m hm
theorem IC.kept (h : IC G p fr q pr lw σ τ ν L tx nm) (hf : tfr zRef G G') : IC G' p fr q pr lw σ τ ν L tx nm := by
  obtain ⟨h1, h2, h3, h4, h5⟩ := h
  have n : ∀ f o, zRef f o → 1100 ≤ f := fun f o q => q
  exact ⟨h1.kept hf fun f o z => by have := n f o z; omega, h2.kept hf fun f o z => by have := n f o z; omega, h3.kept hf fun f o z => by have := n f o z; omega, h4.kept hf fun f o z => by have := n f o z; omega, h5.kept hf fun f o z => by have := n f o z; omega⟩
theorem IR.kept (h : IR G pr lw σ τ ν L tx nm) (hf : tfr zCls G G') : IR G' pr lw σ τ ν L tx nm := by
  obtain ⟨h1, h2, h3, h4, h5, h6⟩ := h
  have n : ∀ f o, 1100 ≤ f → ¬ zCls f o := fun f o q z => by unfold zCls at z; omega
  exact ⟨h1.kept hf (n _ _ (by omega)) (n _ _ (by omega)) (n _ _ (by omega)) (n _ _ (by omega)) (n _ _ (by omega)), h2.ext rfl (hf 1126 0 (n _ _ (by omega))).2.2.2.1 (fun k _ _ => by rw [(hf 1124 0 (n _ _ (by omega))).2.2.2.1]), h3.kept hf (n _ _ (by omega)), h4.kept hf (n _ _ (by omega)) (n _ _ (by omega)), h5.kept hf (n _ _ (by omega)) (n _ _ (by omega)) (n _ _ (by omega)), h6.kept hf (n _ _ (by omega))⟩
theorem IC.act (h : IC G p fr q pr lw σ τ ν L tx nm) {fr' : Nat} {σ' : Nat → mS} {ν' : Nat → Nat} (hc : C1 G' p fr' pr lw σ' ν') (hf : tfr zC G G') (hν : ∀ i, i ≠ 0 → ν' i = ν i) : IC G' p fr' q pr lw σ' τ ν' L tx nm := by
  obtain ⟨h1, h2, h3, h4, h5⟩ := h
  have n : ∀ f o, zC f o → (700 ≤ f ∧ f < 800) ∨ f = 202 ∨ f = 901 ∨ f = 902 := fun f o q => q
  exact ⟨hc, (h2.kept hf fun f o z => by have := n f o z; omega).nu (hν 1 (by omega)), (h3.kept hf fun f o z => by have := n f o z; omega).nu (hν 2 (by omega)), (h4.kept hf fun f o z => by have := n f o z; omega).nu (hν 3 (by omega)), h5.kept hf fun f o z => by have := n f o z; omega⟩
theorem IR.act (h : IR G pr lw σ τ ν L tx nm) {σ' : Nat → mS} {ν' : Nat → Nat} (hc : RQ G G' pr lw σ' ν') (hν : ∀ i, i ≠ 0 → ν' i = ν i) : IR G' pr lw σ' τ ν' L tx nm := by
  obtain ⟨h1, h2, h3, h4, h5, h6⟩ := h
  obtain ⟨c1, hf, c3⟩ := hc
  have n : ∀ f o, ¬ (f = 1100 ∨ f = 1122 ∨ f = 1123 ∨ f = 1124 ∨ f = 1125) → ¬ zQ f o := fun f o q z => q z
  exact ⟨c1, h2.ext (hν 1 (by omega)) (hf 1126 0 (n _ _ (by omega))).2.2.2.1 c3, (h3.kept hf (n _ _ (by omega))).nu (hν 2 (by omega)), (h4.kept hf (n _ _ (by omega)) (n _ _ (by omega))).nu (hν 3 (by omega)), h5.kept hf (n _ _ (by omega)) (n _ _ (by omega)) (n _ _ (by omega)), h6.kept hf (n _ _ (by omega))⟩
end FR
/-- both answer alike, and the invariant holds behind -/
def PAIR (f g : tH → Option tRes) (G : tH) : Prop := ∃ r G1 G2, f G = some (some (vI r), G1) ∧ g G1 = some (some (vI r), G2) ∧ INV G2
theorem PAIR.act {f g : tH → Option tRes} {G G1 : tH} {p fr q : Nat} {pr : mP} {lw : mL} {σ : Nat → mS} {τ : Nat → Nat → Int32} {ν : Nat → Nat} {L : Nat → Nat → Nat} {tx : Nat → Nat} {nm : Nat → Nat → List Nat} {fr' : Nat} {σ' : Nat → mS} {ν' : Nat → Nat} {r : Int32} (hM : okM pr σ τ ν L tx) (hN : okN pr nm) (hC : IC G p fr q pr lw σ τ ν L tx nm) (hR : IR G pr lw σ τ ν L tx nm) (hM' : okM pr σ' τ ν' L tx) (hν : ∀ i, i ≠ 0 → ν' i = ν i)
    (e1 : f G = some (some (vI r), G1)) (c1 : C1 G1 p fr' pr lw σ' ν') (f1 : tfr zC G G1) (e2 : R1 G1 pr lw σ ν → ∃ G2, g G1 = some (some (vI r), G2) ∧ RQ G1 G2 pr lw σ' ν') : PAIR f g G := by
  have hR1 := hR.kept (f1.mono zC_s)
  obtain ⟨G2, e3, rq⟩ := e2 hR1.1
  exact ⟨r, G1, G2, e1, e3, p, fr', q, pr, lw, σ', τ, ν', L, tx, nm, hM', hN, (hC.act c1 f1 hν).kept (rq.2.1.mono zQ_s), hR1.act rq hν⟩
theorem psN_n (ν : Nat → Nat) : ∀ i, i ≠ 0 → psN ν i = ν i := fun i h => psN_1 h

theorem p_bid (x1 : Int32) (x2 : Int32) {G : tH} (h : INV G) : PAIR (V_X10_bid x1 x2) (V_X11_bid x1 x2) G := by
  obtain ⟨p, fr, q, pr, lw, σ, τ, ν, L, tx, nm, hM, hN, hC, hR⟩ := h
  obtain ⟨ho, hs, hu, _⟩ := id hM
  by_cases hm0 : ∃ c x, x1 = nI c ∧ x2 = nI x ∧ mayBid pr (σ 0) c x
  · obtain ⟨c, x, rfl, rfl, hm⟩ := hm0
    obtain ⟨G1, fr', e1, c1, f1⟩ := k_bid hC.1 ho hs hu hm
    exact PAIR.act hM hN hC hR (okM_ps hM (ok_bid hs hm.2.2.1)) (psN_n ν) e1 c1 f1 fun hR1 => q_bid hR1 ho hs hu hm
  · obtain ⟨G1, e1, c1, f1⟩ := k_bid_n hC.1 ho hs hu (fun c x e0 e1 hm => hm0 ⟨c, x, e0, e1, hm⟩)
    exact PAIR.act hM hN hC hR hM (fun _ _ => rfl) e1 c1 f1 fun hR1 => ⟨_, q_bid_n hR1 ho hs hu (fun c x e0 e1 hm => hm0 ⟨c, x, e0, e1, hm⟩), RQ.same hR1⟩
theorem p_award {G : tH} (h : INV G) : PAIR (V_X10_award ) (V_X11_award ) G := by
  obtain ⟨p, fr, q, pr, lw, σ, τ, ν, L, tx, nm, hM, hN, hC, hR⟩ := h
  obtain ⟨ho, hs, hu, _⟩ := id hM
  by_cases hm0 : mayAward pr (σ 0)
  · have hm := hm0
    obtain ⟨G1, fr', e1, c1, f1⟩ := k_award hC.1 ho hs hu hm
    exact PAIR.act hM hN hC hR (okM_ps hM (ok_award hs hm)) (psN_n ν) e1 c1 f1 fun hR1 => q_award hR1 ho hs hu hm
  · obtain ⟨G1, e1, c1, f1⟩ := k_award_n hC.1 ho hs hu hm0
    exact PAIR.act hM hN hC hR hM (fun _ _ => rfl) e1 c1 f1 fun hR1 => ⟨_, q_award_n hR1 ho hs hu (hm0), RQ.same hR1⟩
theorem p_year (x1 : Int32) {G : tH} (h : INV G) : PAIR (V_X10_year x1) (V_X11_year x1) G := by
  obtain ⟨p, fr, q, pr, lw, σ, τ, ν, L, tx, nm, hM, hN, hC, hR⟩ := h
  obtain ⟨ho, hs, hu, _⟩ := id hM
  by_cases hm0 : ∃ h1, x1 = nI h1 ∧ mayYear pr (σ 0) h1
  · obtain ⟨h1, rfl, hm⟩ := hm0
    obtain ⟨G1, fr', e1, c1, f1⟩ := k_year hC.1 ho hs hu hm
    exact PAIR.act hM hN hC hR (okM_ps hM (ok_year hs hm)) (psN_n ν) e1 c1 f1 fun hR1 => q_year hR1 ho hs hu hm
  · obtain ⟨G1, e1, c1, f1⟩ := k_year_n hC.1 ho hs hu (fun h1 e0 hm => hm0 ⟨h1, e0, hm⟩)
    exact PAIR.act hM hN hC hR hM (fun _ _ => rfl) e1 c1 f1 fun hR1 => ⟨_, q_year_n hR1 ho hs hu (fun h1 e0 hm => hm0 ⟨h1, e0, hm⟩), RQ.same hR1⟩
theorem p_take (x1 : Int32) (x2 : Int32) {G : tH} (h : INV G) : PAIR (V_X10_take x1 x2) (V_X11_take x1 x2) G := by
  obtain ⟨p, fr, q, pr, lw, σ, τ, ν, L, tx, nm, hM, hN, hC, hR⟩ := h
  obtain ⟨ho, hs, hu, _⟩ := id hM
  by_cases hm0 : ∃ t x, x1 = nI t ∧ x2 = nI x ∧ mayTake pr (σ 0) t x
  · obtain ⟨t, x, rfl, rfl, hm⟩ := hm0
    obtain ⟨G1, fr', e1, c1, f1⟩ := k_take hC.1 ho hs hu hm
    exact PAIR.act hM hN hC hR (okM_ps hM (ok_take ho hs hm)) (psN_n ν) e1 c1 f1 fun hR1 => q_take hR1 ho hs hu hm
  · obtain ⟨G1, e1, c1, f1⟩ := k_take_n hC.1 ho hs hu (fun t x e0 e1 hm => hm0 ⟨t, x, e0, e1, hm⟩)
    exact PAIR.act hM hN hC hR hM (fun _ _ => rfl) e1 c1 f1 fun hR1 => ⟨_, q_take_n hR1 ho hs hu (fun t x e0 e1 hm => hm0 ⟨t, x, e0, e1, hm⟩), RQ.same hR1⟩
theorem p_lend (x1 : Int32) (x2 : Int32) {G : tH} (h : INV G) : PAIR (V_X10_lend x1 x2) (V_X11_lend x1 x2) G := by
  obtain ⟨p, fr, q, pr, lw, σ, τ, ν, L, tx, nm, hM, hN, hC, hR⟩ := h
  obtain ⟨ho, hs, hu, _⟩ := id hM
  by_cases hm0 : ∃ t x, x1 = nI t ∧ x2 = nI x ∧ mayLend pr (σ 0) t x
  · obtain ⟨t, x, rfl, rfl, hm⟩ := hm0
    obtain ⟨G1, fr', e1, c1, f1⟩ := k_lend hC.1 ho hs hu hm
    exact PAIR.act hM hN hC hR (okM_ps hM (ok_lend hs)) (psN_n ν) e1 c1 f1 fun hR1 => q_lend hR1 ho hs hu hm
  · obtain ⟨G1, e1, c1, f1⟩ := k_lend_n hC.1 ho hs hu (fun t x e0 e1 hm => hm0 ⟨t, x, e0, e1, hm⟩)
    exact PAIR.act hM hN hC hR hM (fun _ _ => rfl) e1 c1 f1 fun hR1 => ⟨_, q_lend_n hR1 ho hs hu (fun t x e0 e1 hm => hm0 ⟨t, x, e0, e1, hm⟩), RQ.same hR1⟩
theorem p_call (x1 : Int32) (x2 : Int32) {G : tH} (h : INV G) : PAIR (V_X10_call x1 x2) (V_X11_call x1 x2) G := by
  obtain ⟨p, fr, q, pr, lw, σ, τ, ν, L, tx, nm, hM, hN, hC, hR⟩ := h
  obtain ⟨ho, hs, hu, _⟩ := id hM
  by_cases hm0 : ∃ t x, x1 = nI t ∧ x2 = nI x ∧ mayCall pr (σ 0) t x
  · obtain ⟨t, x, rfl, rfl, hm⟩ := hm0
    obtain ⟨G1, fr', e1, c1, f1⟩ := k_call hC.1 ho hs hu hm
    exact PAIR.act hM hN hC hR (okM_ps hM (ok_call hs)) (psN_n ν) e1 c1 f1 fun hR1 => q_call hR1 ho hs hu hm
  · obtain ⟨G1, e1, c1, f1⟩ := k_call_n hC.1 ho hs hu (fun t x e0 e1 hm => hm0 ⟨t, x, e0, e1, hm⟩)
    exact PAIR.act hM hN hC hR hM (fun _ _ => rfl) e1 c1 f1 fun hR1 => ⟨_, q_call_n hR1 ho hs hu (fun t x e0 e1 hm => hm0 ⟨t, x, e0, e1, hm⟩), RQ.same hR1⟩
theorem p_spare (x1 : Int32) {G : tH} (h : INV G) : PAIR (V_X10_spare x1) (V_X11_spare x1) G := by
  obtain ⟨p, fr, q, pr, lw, σ, τ, ν, L, tx, nm, hM, hN, hC, hR⟩ := h
  obtain ⟨ho, hs, hu, _⟩ := id hM
  by_cases hm0 : ∃ t, x1 = nI t ∧ maySpare pr (σ 0) t
  · obtain ⟨t, rfl, hm⟩ := hm0
    obtain ⟨G1, fr', e1, c1, f1⟩ := k_spare hC.1 ho hs hu hm
    exact PAIR.act hM hN hC hR (okM_ps hM (ok_spare hs)) (psN_n ν) e1 c1 f1 fun hR1 => q_spare hR1 ho hs hu hm
  · obtain ⟨G1, e1, c1, f1⟩ := k_spare_n hC.1 ho hs hu (fun t e0 hm => hm0 ⟨t, e0, hm⟩)
    exact PAIR.act hM hN hC hR hM (fun _ _ => rfl) e1 c1 f1 fun hR1 => ⟨_, q_spare_n hR1 ho hs hu (fun t e0 hm => hm0 ⟨t, e0, hm⟩), RQ.same hR1⟩
theorem p_bribe (x1 : Int32) {G : tH} (h : INV G) : PAIR (V_X10_bribe x1) (V_X11_bribe x1) G := by
  obtain ⟨p, fr, q, pr, lw, σ, τ, ν, L, tx, nm, hM, hN, hC, hR⟩ := h
  obtain ⟨ho, hs, hu, _⟩ := id hM
  by_cases hm0 : ∃ j, x1 = nI j ∧ mayBribe pr (σ 0) j
  · obtain ⟨j, rfl, hm⟩ := hm0
    obtain ⟨G1, fr', e1, c1, f1⟩ := k_bribe hC.1 ho hs hu hm
    exact PAIR.act hM hN hC hR (okM_ps hM (ok_bribe hs)) (psN_n ν) e1 c1 f1 fun hR1 => q_bribe hR1 ho hs hu hm
  · obtain ⟨G1, e1, c1, f1⟩ := k_bribe_n hC.1 ho hs hu (fun j e0 hm => hm0 ⟨j, e0, hm⟩)
    exact PAIR.act hM hN hC hR hM (fun _ _ => rfl) e1 c1 f1 fun hR1 => ⟨_, q_bribe_n hR1 ho hs hu (fun j e0 hm => hm0 ⟨j, e0, hm⟩), RQ.same hR1⟩
theorem p_sue {G : tH} (h : INV G) : PAIR (V_X10_sue ) (V_X11_sue ) G := by
  obtain ⟨p, fr, q, pr, lw, σ, τ, ν, L, tx, nm, hM, hN, hC, hR⟩ := h
  obtain ⟨ho, hs, hu, _⟩ := id hM
  by_cases hm0 : (σ 0).1 10 0 ≠ 0
  · have hm := hm0
    obtain ⟨G1, fr', e1, c1, f1⟩ := k_sue hC.1 ho hs hu hm
    exact PAIR.act hM hN hC hR (okM_ps hM (ok_sue hs)) (psN_n ν) e1 c1 f1 fun hR1 => q_sue hR1 ho hs hu hm
  · obtain ⟨G1, e1, c1, f1⟩ := k_sue_n hC.1 ho hs hu (Classical.byContradiction hm0)
    exact PAIR.act hM hN hC hR hM (fun _ _ => rfl) e1 c1 f1 fun hR1 => ⟨_, q_sue_n hR1 ho hs hu (Classical.byContradiction hm0), RQ.same hR1⟩
theorem p_close {G : tH} (h : INV G) : PAIR (V_X10_close ) (V_X11_close ) G := by
  obtain ⟨p, fr, q, pr, lw, σ, τ, ν, L, tx, nm, hM, hN, hC, hR⟩ := h
  obtain ⟨ho, hs, hu, _⟩ := id hM
  by_cases hm0 : mayClose (σ 0)
  · have hm := hm0
    obtain ⟨G1, fr', e1, c1, f1⟩ := k_close hC.1 ho hs hu hm
    exact PAIR.act hM hN hC hR (okM_ps hM (ok_close hs)) (psN_n ν) e1 c1 f1 fun hR1 => q_close hR1 ho hs hu hm
  · obtain ⟨G1, e1, c1, f1⟩ := k_close_n hC.1 ho hs hu hm0
    exact PAIR.act hM hN hC hR hM (fun _ _ => rfl) e1 c1 f1 fun hR1 => ⟨_, q_close_n hR1 ho hs hu (hm0), RQ.same hR1⟩
