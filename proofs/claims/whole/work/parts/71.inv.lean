/-! PURE: the invariants: the class' side C1 .. C5, the reference's side R1 .. R5, what is sound of the model okM.
σ 0 now, σ (1 + m) marks, σ (5 + k) what can be undone; τ tales; ν 0 undos, 1 marks as bits, 2 lines, 3 tape's length -/
def mkB (ν : Nat → Nat) (m : Nat) : Prop := m < 4 ∧ ν 1 / 2 ^ m % 2 = 1
def C1 (G : tH) (p fr : Nat) (pr : mP) (lw : mL) (σ : Nat → mS) (ν : Nat → Nat) : Prop := p ≤ 1 ∧ gR G 1001 0 = p ∧ gR G 1002 0 = 1 - p ∧ cP G p pr ∧ cL G (2 * p + 0) (lw 0) ∧ cL G (2 * p + 1) (lw 1) ∧ cS G 0 p pr (σ 0) ∧ fr < 17 ∧ gI G 901 0 = nI fr ∧ gI G 902 0 = nI (ν 0) ∧
  (∀ k, k < ν 0 → cS G (2 + (fr + 17 - ν 0 + k) % 17) p pr (σ (5 + k))) ∧ ∀ m, mkB ν m → cS G (19 + m) p pr (σ (1 + m))
def R1 (G : tH) (pr : mP) (lw : mL) (σ : Nat → mS) (ν : Nat → Nat) : Prop := rP G pr ∧ rL G 0 (lw 0) ∧ rL G 1 (lw 1) ∧ rS (gA G 1124 0) 0 pr (σ 0) ∧ gI G 1125 0 = nI (ν 0) ∧ (∀ k, k < ν 0 → rS (gA G 1124 0) (61 * (5 + k)) pr (σ (5 + k))) ∧ ∀ m, mkB ν m → rS (gA G 1124 0) (61 * (1 + m)) pr (σ (1 + m))
def C2 (G : tH) (τ : Nat → Nat → Int32) (ν : Nat → Nat) : Prop := (∀ c, c < 5 → gA G 1011 0 c = τ 0 c) ∧ (∀ m, mkB ν m → ∀ c, c < 5 → gA G 1009 0 (m * 5 + c) = τ (1 + m) c) ∧ gI G 1010 0 = nI (ν 1)
def R2 (G : tH) (τ : Nat → Nat → Int32) (ν : Nat → Nat) : Prop := (∀ c, c < 5 → gA G 1124 0 (56 + c) = τ 0 c) ∧ (∀ m, mkB ν m → ∀ c, c < 5 → gA G 1124 0 (61 * (1 + m) + 56 + c) = τ (1 + m) c) ∧ ∀ m, m < 4 → gA G 1126 0 m = nI (ν 1 / 2 ^ m % 2)
def C3 (G : tH) (q : Nat) (ν : Nat → Nat) (L : Nat → Nat → Nat) : Prop := q ≤ 1 ∧ gR G 1003 0 = q ∧ gR G 1004 0 = 1 - q ∧ gI G 400 q = nI (ν 2) ∧ ∀ i, i < ν 2 → gA G 401 q i = nI (L i 0) ∧ gA G 402 q i = nI (L i 1) ∧ gA G 403 q i = nI (L i 2)
def R3 (G : tH) (ν : Nat → Nat) (L : Nat → Nat → Nat) : Prop := gA G 1121 0 0 = nI (ν 2) ∧ ∀ i, i < ν 2 → gA G 1121 0 (1 + 3 * i) = nI (L i 0) ∧ gA G 1121 0 (1 + 3 * i + 1) = nI (L i 1) ∧ gA G 1121 0 (1 + 3 * i + 2) = nI (L i 2)
def C4 (G : tH) (ν : Nat → Nat) (tx : Nat → Nat) : Prop := gI G 801 0 = nI (ν 3) ∧ ∀ i, i < ν 3 → gA G 800 0 i = nI (tx i)
def R4 (G : tH) (ν : Nat → Nat) (tx : Nat → Nat) : Prop := gI G 1102 0 = nI (ν 3) ∧ ∀ i, i < ν 3 → gA G 1101 0 i = nI (tx i)
/-- a line of a past -/
def okL (pr : mP) (l : Nat → Nat) : Prop := l 0 ≤ 9 ∧ l 2 ≤ 9999 ∧ (l 0 = 0 → l 1 < nC pr) ∧ (l 0 = 2 → l 1 < nH pr) ∧ (3 ≤ l 0 → l 0 ≤ 5 → l 1 < nT pr ∧ 1 ≤ l 2) ∧ (l 0 = 6 → l 1 < nT pr) ∧ (l 0 = 7 → l 1 < nJ pr)
/-- a tale -/
def okT (pr : mP) (t : Nat → Int32) : Prop := ∀ c, c < 5 → t c = -1 ∨ (c < nC pr ∧ ∃ w, w ≤ 99999 ∧ t c = nI w)
/-- a sign that the tape keeps -/
def okX (x : Nat) : Prop := x = 10 ∨ (32 ≤ x ∧ x ≤ 126)
def okM (pr : mP) (σ : Nat → mS) (τ : Nat → Nat → Int32) (ν : Nat → Nat) (L : Nat → Nat → Nat) (tx : Nat → Nat) : Prop := okP pr ∧ okS pr (σ 0) ∧ ν 0 ≤ 16 ∧ (∀ k, k < ν 0 → okS pr (σ (5 + k))) ∧ ν 1 < 16 ∧ (∀ m, mkB ν m → okS pr (σ (1 + m))) ∧ okT pr (τ 0) ∧ (∀ m, mkB ν m → okT pr (τ (1 + m))) ∧ ν 2 ≤ 40 ∧ (∀ i, i < ν 2 → okL pr (L i)) ∧ ν 3 ≤ 1000 ∧ ∀ i, i < ν 3 → okX (tx i)
/-- something was done -/
def psS (σ : Nat → mS) (u : Nat) (s : mS) : Nat → mS := fun i => if i = 0 then s else if i < 5 then σ i else if u = 16 then (if i = 20 then σ 0 else σ (i + 1)) else if i = 5 + u then σ 0 else σ i
def psN (ν : Nat → Nat) : Nat → Nat := fun i => if i = 0 then min 16 (ν 0 + 1) else ν i
theorem psS_0 {σ : Nat → mS} {u : Nat} {s : mS} : psS σ u s 0 = s := if_pos rfl
theorem psS_m {σ : Nat → mS} {u m : Nat} {s : mS} (hm : m < 4) : psS σ u s (1 + m) = σ (1 + m) := by unfold psS; rw [if_neg (by omega), if_pos (by omega)]
theorem psN_1 {ν : Nat → Nat} {i : Nat} (h : i ≠ 0) : psN ν i = ν i := if_neg h
theorem psN_0 {ν : Nat → Nat} : psN ν 0 = min 16 (ν 0 + 1) := if_pos rfl
theorem mkB_ps {ν : Nat → Nat} {m : Nat} : mkB (psN ν) m ↔ mkB ν m := by unfold mkB; rw [psN_1 (by omega)]
theorem okM_ps {pr : mP} {σ : Nat → mS} {τ : Nat → Nat → Int32} {ν : Nat → Nat} {L : Nat → Nat → Nat} {tx : Nat → Nat} {s : mS} (h : okM pr σ τ ν L tx) (hs : okS pr s) : okM pr (psS σ (ν 0) s) τ (psN ν) L tx := by
  obtain ⟨h1, h2, h3, h4, h5, h6, h7, h8, h9, h10, h11, h12⟩ := h
  refine ⟨h1, ?_, ?_, fun k hk => ?_, ?_, fun m hm => ?_, h7, fun m hm => h8 m (mkB_ps.mp hm), ?_, ?_, ?_, ?_⟩
  · rw [psS_0]; exact hs
  · rw [psN_0]; omega
  · rw [psN_0] at hk
    unfold psS
    rw [if_neg (by omega), if_neg (by omega)]
    by_cases hu : ν 0 = 16
    · rw [if_pos hu]
      by_cases hk2 : 5 + k = 20
      · rw [if_pos hk2]; exact h2
      · rw [if_neg hk2]; exact h4 (k + 1) (by omega)
    · rw [if_neg hu]
      by_cases hk2 : 5 + k = 5 + ν 0
      · rw [if_pos hk2]; exact h2
      · rw [if_neg hk2]; exact h4 k (by omega)
  · rw [psN_1 (by omega)]; exact h5
  · rw [psS_m hm.1]; exact h6 m (mkB_ps.mp hm)
  · rw [psN_1 (by omega)]; exact h9
  · rw [psN_1 (by omega)]; exact h10
  · rw [psN_1 (by omega)]; exact h11
  · rw [psN_1 (by omega)]; exact h12
theorem cL.kept {G G' : tH} {q : Nat} {f : Int32 → Int32 → Int32 → Int32} {S : Nat → Nat → Prop} (h : cL G q f) (hf : tfr S G G') (h0 : ¬ S 200 q) (h1 : ¬ S 201 q) : cL G' q f := by
  unfold cL
  rw [(hf 200 q h0).2.2.2.1, (hf 201 q h1).1]
  exact h
/-- what an act of the class may change -/
def zC : Nat → Nat → Prop := fun f _ => (700 ≤ f ∧ f < 800) ∨ f = 202 ∨ f = 901 ∨ f = 902
theorem zS_C {o : Nat} : ∀ f o', zS o f o' → zC f o' := fun f o' h => by unfold zS at h; unfold zC; omega
theorem zT_C {o : Nat} : ∀ f o', zT o f o' → zC f o' := fun f o' h => by unfold zT at h; unfold zC; omega
/-! the trail -/
theorem c_lay {G : tH} {p fr : Nat} {pr : mP} {lw : mL} {σ : Nat → mS} {ν : Nat → Nat} (h : C1 G p fr pr lw σ ν) (ho : okP pr) (hu : ν 0 ≤ 16) : ∃ G1, V_X9_layDown 0 G = some (none, G1) ∧ C1 G1 p fr pr lw σ ν ∧ cS G1 (2 + fr) p pr (σ 0) ∧ tfr zC G G1 := by
  obtain ⟨h1, h2, h3, h4, h5, h6, h7, h8, h9, h10, h11, h12⟩ := h
  obtain ⟨G1, e1, e2, e3⟩ := c_copy (o := 2 + fr) (o1 := 0) ho h7 (by omega)
  have f1 := e3.mono zT_C
  refine ⟨G1, ?_, ⟨h1, ?_, ?_, ?_, ?_, ?_, ?_, h8, ?_, ?_, fun k hk => ?_, fun m hm => ?_⟩, e2, f1⟩
  · rw [e_X9_layDown, h9, ttin h8 (by omega), nI_clamp (by omega), e1, tbV_v]
  · rw [(f1 1001 0 (by unfold zC; omega)).2.2.1]; exact h2
  · rw [(f1 1002 0 (by unfold zC; omega)).2.2.1]; exact h3
  · exact h4.kept f1 fun f o q => by unfold zC at q; omega
  · exact h5.kept f1 (by unfold zC; omega) (by unfold zC; omega)
  · exact h6.kept f1 (by unfold zC; omega) (by unfold zC; omega)
  · exact h7.kept e3 fun f _ _ => by unfold zT; omega
  · rw [(e3 901 0 (by unfold zT; omega)).1]; exact h9
  · rw [(e3 902 0 (by unfold zT; omega)).1]; exact h10
  · exact (h11 k hk).kept e3 fun f _ _ => by unfold zT; omega
  · exact (h12 m hm).kept e3 fun f _ _ => by have := hm.1; unfold zT; omega
theorem nI_rem {a b : Nat} (ha : a < 2 ^ 31) (hb : b < 2 ^ 31) (h0 : 0 < b) : nI a - nI a / nI b * nI b = nI (a % b) := by
  have h := Nat.div_add_mod a b
  have h2 : a / b * b ≤ a := Nat.div_mul_le_self a b
  rw [pk_div ha h0 hb, pk_mul, nI_sub h2]
  congr 1
  rw [Nat.mul_comm] at h
  omega
theorem c_settle1 {G : tH} {fr u : Nat} (hf : fr < 17) (hu : u ≤ 16) (h1 : gI G 901 0 = nI fr) (h2 : gI G 902 0 = nI u) : V_X9_settle (nI 1) G = some (some (vI (nI 1)), sI (sI G 901 0 (nI ((fr + 1) % 17))) 902 0 (nI (min 16 (u + 1)))) := by
  rw [e_X9_settle, tn1, tn17]
  simp (disch := omega) only [h1, h2, gI_ne, nI_add, nI_rem, iltN, tz1]
  congr 4
  by_cases h : u + 1 < 16
  · rw [if_pos h, show min 16 (u + 1) = u + 1 by omega]
  · rw [if_neg h, show min 16 (u + 1) = 16 by omega]
theorem c_settle0 {G : tH} : V_X9_settle (nI 0) G = some (some (vI (nI 0)), G) := by rw [e_X9_settle, tn0, tz0]
/-- an act that is done -/
theorem c_did {G G1 G2 : tH} {p fr : Nat} {pr : mP} {lw : mL} {σ : Nat → mS} {ν : Nat → Nat} {s : mS} (h : C1 G1 p fr pr lw σ ν) (hs : cS G1 (2 + fr) p pr (σ 0)) (f1 : tfr zC G G1) (hu : ν 0 ≤ 16) (h2 : cS G2 0 p pr s) (f2 : tfr (zS 0) G1 G2) :
    ∃ G3 fr', V_X9_settle (nI 1) G2 = some (some (vI (nI 1)), G3) ∧ C1 G3 p fr' pr lw (psS σ (ν 0) s) (psN ν) ∧ tfr zC G G3 := by
  obtain ⟨k1, k2, k3, k4, k5, k6, k7, k8, k9, k10, k11, k12⟩ := h
  have g1 : gI G2 901 0 = nI fr := by rw [(f2 901 0 (by unfold zS; omega)).1]; exact k9
  have g2 : gI G2 902 0 = nI (ν 0) := by rw [(f2 902 0 (by unfold zS; omega)).1]; exact k10
  have e := c_settle1 k8 hu g1 g2
  obtain ⟨G3, hG3⟩ : ∃ g, g = sI (sI G2 901 0 (nI ((fr + 1) % 17))) 902 0 (nI (min 16 (ν 0 + 1))) := ⟨_, rfl⟩
  rw [← hG3] at e
  have f3 : tfr (fun f _ => f = 901 ∨ f = 902) G2 G3 := by rw [hG3]; exact tfrI (tfrI tfr.rf (Or.inl rfl)) (Or.inr rfl)
  have f13 : tfr zC G1 G3 := (f2.mono zS_C).tr (f3.mono fun f o q => by unfold zC; omega)
  have keep : ∀ o s', o ≠ 0 → cS G1 o p pr s' → cS G3 o p pr s' := fun o s' ho hc => (hc.kept f2 fun f _ _ => by unfold zS; omega).kept f3 fun f _ _ => by omega
  refine ⟨G3, (fr + 1) % 17, e, ⟨k1, ?_, ?_, ?_, ?_, ?_, ?_, Nat.mod_lt _ (by omega), ?_, ?_, fun k hk => ?_, fun m hm => ?_⟩, f1.tr f13⟩
  · rw [(f13 1001 0 (by unfold zC; omega)).2.2.1]; exact k2
  · rw [(f13 1002 0 (by unfold zC; omega)).2.2.1]; exact k3
  · exact k4.kept f13 fun f o q => by unfold zC at q; omega
  · exact k5.kept f13 (by unfold zC; omega) (by unfold zC; omega)
  · exact k6.kept f13 (by unfold zC; omega) (by unfold zC; omega)
  · rw [psS_0]; exact h2.kept f3 fun f _ _ => by omega
  · rw [hG3]; simp (disch := omega) only [gI_ne, gI_eq]
  · rw [hG3, gI_eq, psN_0]
  · rw [psN_0] at hk ⊢
    unfold psS
    rw [if_neg (by omega), if_neg (by omega)]
    by_cases h16 : ν 0 = 16
    · rw [if_pos h16]
      by_cases hk2 : 5 + k = 20
      · rw [if_pos hk2, show 2 + ((fr + 1) % 17 + 17 - min 16 (ν 0 + 1) + k) % 17 = 2 + fr by omega]
        exact keep _ _ (by omega) hs
      · rw [if_neg hk2]
        have := k11 (k + 1) (by omega)
        rw [show 2 + (fr + 17 - ν 0 + (k + 1)) % 17 = 2 + ((fr + 1) % 17 + 17 - min 16 (ν 0 + 1) + k) % 17 by omega] at this
        exact keep _ _ (by omega) this
    · rw [if_neg h16]
      by_cases hk2 : 5 + k = 5 + ν 0
      · rw [if_pos hk2, show 2 + ((fr + 1) % 17 + 17 - min 16 (ν 0 + 1) + k) % 17 = 2 + fr by omega]
        exact keep _ _ (by omega) hs
      · rw [if_neg hk2]
        have := k11 k (by omega)
        rw [show 2 + (fr + 17 - ν 0 + k) % 17 = 2 + ((fr + 1) % 17 + 17 - min 16 (ν 0 + 1) + k) % 17 by omega] at this
        exact keep _ _ (by omega) this
  · rw [psS_m hm.1]; exact keep _ _ (by omega) (k12 m (mkB_ps.mp hm))
/-! the reference keeps -/
theorem r_keep_loop {G : tH} : ∀ n i a, i + n = 16 → 1 ≤ i → ∃ a', V_X11_keeps_11 (nI i) (sA G 1124 0 a) = V_X11_keeps_53 (sI (sA G 1124 0 a') 1125 0 (gI G 1125 0 - nI 1)) ∧ (∀ k, i ≤ k → k < 16 → ∀ j, j < 56 → a' (61 * (5 + (k - 1)) + j) = a (61 * (5 + k) + j)) ∧ ∀ k, k < 61 * (5 + (i - 1)) ∨ 61 * 20 ≤ k → a' k = a k := by
  intro n
  induction n with
  | zero =>
    intro i a hi h1
    refine ⟨a, ?_, fun k hk => by omega, fun k hk => rfl⟩
    rw [e_X11_keeps_11, tltM (by omega) (by omega) (by omega)]
    rfl
  | succ n ih =>
    intro i a hi h1
    obtain ⟨a1, e1, x1, x2⟩ := r_copies (61 * (5 + i)) (61 * (5 + i - 1)) 56 (by omega) (by omega) (by omega) (sA G 1124 0 a)
    rw [gA_eq] at x1 x2
    obtain ⟨a', e, y1, y2⟩ := ih (i + 1) a1 (by omega) (by omega)
    refine ⟨a', ?_, fun k hk hk2 j hj => ?_, fun k hk => ?_⟩
    · rw [e_X11_keeps_11, tltP (by omega) (by omega) (by omega)]
      simp (disch := omega) only [nI_add, nI_sub, pk_mul]
      rw [e1, tbV_v, sA_sA]
      exact e
    · by_cases hki : k = i
      · subst hki
        rw [y2 _ (by omega), show 61 * (5 + (k - 1)) + j = 61 * (5 + k - 1) + j by omega, x1 j hj]
      · rw [y1 k (by omega) hk2 j hj, x2 _ (by omega)]
    · rw [y2 k (by omega), x2 k (by omega)]
def zK : Nat → Nat → Prop := fun f _ => f = 1124 ∨ f = 1125
theorem r_keeps {G : tH} {u : Nat} (hu : u ≤ 16) (h1 : gI G 1125 0 = nI u) : ∃ G', V_X11_keeps G = some (none, G') ∧ tfr zK G G' ∧ gI G' 1125 0 = nI (min 16 (u + 1)) ∧ (∀ k, k < min 16 (u + 1) → ∀ j, j < 56 → gA G' 1124 0 (61 * (5 + k) + j) = if u = 16 then (if k = 15 then gA G 1124 0 j else gA G 1124 0 (61 * (5 + (k + 1)) + j)) else if k = u then gA G 1124 0 j else gA G 1124 0 (61 * (5 + k) + j)) ∧ ∀ k, k < 305 ∨ 1281 ≤ k → gA G' 1124 0 k = gA G 1124 0 k := by
  have e53 : ∀ (G : tH) (u : Nat), u ≤ 15 → gI G 1125 0 = nI u → ∃ a', V_X11_keeps_53 G = some (none, sI (sA G 1124 0 a') 1125 0 (nI (u + 1))) ∧ (∀ j, j < 56 → a' (61 * (5 + u) + j) = gA G 1124 0 j) ∧ ∀ k, k < 61 * (5 + u) ∨ 61 * (5 + u) + 56 ≤ k → a' k = gA G 1124 0 k := by
    intro G u hu h1
    obtain ⟨a', e, x1, x2⟩ := r_copies 0 (61 * (5 + u)) 56 (by omega) (by omega) (by omega) G
    refine ⟨a', ?_, fun j hj => by rw [x1 j hj, Nat.zero_add], x2⟩
    rw [e_X11_keeps_53, h1, nI_add, pk_mul, e, tbV_v]
    simp only [gI_sA, h1, nI_add]
  by_cases h16 : u = 16
  · subst h16
    obtain ⟨a1, e1, x1, x2⟩ := r_keep_loop (G := G) 15 1 (gA G 1124 0) (by omega) (by omega)
    rw [sA_id] at e1
    obtain ⟨a2, e2, y1, y2⟩ := e53 (sI (sA G 1124 0 a1) 1125 0 (gI G 1125 0 - nI 1)) 15 (by omega) (by rw [gI_eq, h1, nI_sub (by omega)])
    simp only [gA_sI, gA_eq] at y1 y2
    refine ⟨sI (sA (sI (sA G 1124 0 a1) 1125 0 (gI G 1125 0 - nI 1)) 1124 0 a2) 1125 0 (nI (15 + 1)), ?_, ?_, ?_, fun k hk j hj => ?_, fun k hk => ?_⟩
    · rw [e_X11_keeps, tif_pos h1]; exact e1.trans e2
    · exact tfrI (tfrA (tfrI (tfrA tfr.rf (Or.inl rfl)) (Or.inr rfl)) (Or.inl rfl)) (Or.inr rfl)
    · rw [gI_eq]; rfl
    · rw [if_pos rfl]
      simp only [gA_sI, gA_eq]
      by_cases hk15 : k = 15
      · subst hk15
        rw [if_pos rfl, y1 j hj, x2 j (by omega)]
      · rw [if_neg hk15, y2 _ (by omega)]
        have := x1 (k + 1) (by omega) (by omega) j hj
        rw [show k + 1 - 1 = k by omega] at this
        exact this
    · simp only [gA_sI, gA_eq]
      rw [y2 k (by omega), x2 k (by omega)]
  · obtain ⟨a2, e2, y1, y2⟩ := e53 G u (by omega) h1
    refine ⟨sI (sA G 1124 0 a2) 1125 0 (nI (u + 1)), ?_, ?_, ?_, fun k hk j hj => ?_, fun k hk => ?_⟩
    · rw [e_X11_keeps, h1, teqM (by omega) (by omega) h16, e2]
    · exact tfrI (tfrA tfr.rf (Or.inl rfl)) (Or.inr rfl)
    · rw [gI_eq, show min 16 (u + 1) = u + 1 by omega]
    · rw [if_neg h16]
      simp only [gA_sI, gA_eq]
      by_cases hku : k = u
      · subst hku
        rw [if_pos rfl, y1 j hj]
      · rw [if_neg hku, y2 _ (by omega)]
    · simp only [gA_sI, gA_eq]
      rw [y2 k (by omega)]
