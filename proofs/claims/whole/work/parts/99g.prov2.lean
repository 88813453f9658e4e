/-! PURE: province -/
theorem rP.ext {G G' : tH} {pr : mP} (ho : okP pr) (h : rP G pr) (he : ∀ i, i < 60 → gA G' 1110 0 i = gA G 1110 0 i) : rP G' pr := by
  obtain ⟨a1, a2, a3, a4, a5, a6, a7, a8, a9, a10⟩ := h
  have h1 := ho.1
  have h2 := ho.2.1
  have h3 := ho.2.2.1
  have h4 := ho.2.2.2.1
  refine ⟨?_, ?_, ?_, ?_, ?_, ?_, fun t ht => ?_, fun t ht => ?_, fun t ht => ?_, fun t ht => ?_⟩
  · rw [he _ (by omega)]; exact a1
  · rw [he _ (by omega)]; exact a2
  · rw [he _ (by omega)]; exact a3
  · rw [he _ (by omega)]; exact a4
  · rw [he _ (by omega)]; exact a5
  · rw [he _ (by omega)]; exact a6
  · rw [he _ (by omega), he _ (by omega)]; exact a7 t ht
  · rw [he _ (by omega), he _ (by omega)]; exact a8 t ht
  · rw [he _ (by omega), he _ (by omega)]; exact a9 t ht
  · rw [he _ (by omega), he _ (by omega)]; exact a10 t ht
theorem rL.ext {G G' : tH} {t : Nat} {f : Int32 → Int32 → Int32 → Int32} (h : rL G t f) (ht : t < 2) (he : ∀ i, i < 60 → gA G' 1110 0 i = gA G 1110 0 i) (hc : ∀ i, i < 1100 → gA G' 1111 0 i = gA G 1111 0 i ∧ gA G' 1112 0 i = gA G 1112 0 i) : rL G' t f := by
  unfold rL
  rw [he _ (by omega)]
  rcases h with h | ⟨h1, h2⟩
  · exact Or.inl h
  · exact Or.inr ⟨h1, fun G'' e1 e2 => h2 G'' (fun i hi => (e1 i hi).trans (hc i hi).1) (fun i hi => (e2 i hi).trans (hc i hi).2)⟩
theorem cP.kept2 {G G' : tH} {p : Nat} {pr : mP} {S : Nat → Nat → Prop} (h : cP G p pr) (hf : tfr S G G') (h1 : ∀ f, 500 ≤ f → f < 600 → ¬ S f p) (h2 : ∀ j, j < 4 → ¬ S 601 (4 * p + j)) : cP G' p pr := by
  obtain ⟨a1, a2, a3, a4, a5, a6, a7, a8, a9, a10⟩ := h
  have n : ∀ f, 500 ≤ f → f < 600 → gA G' f p = gA G f p := fun f x y => (hf f p (h1 f x y)).2.2.2.1
  refine ⟨?_, ?_, ?_, ?_, ?_, ?_, fun t ht => ?_, fun t ht => ?_, fun t ht => ?_, fun t ht => ?_⟩
  · rw [(hf 601 _ (h2 0 (by omega))).1]; exact a1
  · rw [(hf 601 _ (h2 1 (by omega))).1]; exact a2
  · rw [(hf 601 _ (h2 2 (by omega))).1]; exact a3
  · rw [(hf 601 _ (h2 3 (by omega))).1]; exact a4
  · rw [(hf 512 _ (h1 _ (by omega) (by omega))).1]; exact a5
  · rw [(hf 513 _ (h1 _ (by omega) (by omega))).1]; exact a6
  · rw [n _ (by omega) (by omega), n _ (by omega) (by omega)]; exact a7 t ht
  · rw [n _ (by omega) (by omega), n _ (by omega) (by omega)]; exact a8 t ht
  · rw [n _ (by omega) (by omega), n _ (by omega) (by omega)]; exact a9 t ht
  · rw [n _ (by omega) (by omega), n _ (by omega) (by omega)]; exact a10 t ht
theorem DC.cP {G : tH} {p ob : Nat} {pr : mP} {nm : Nat → Nat → List Nat} (h : DC G p pr nm ob) : cP G p pr := by
  obtain ⟨a1, a2, a3, a4⟩ := h
  exact ⟨(a1 0 (by omega)).1, (a1 1 (by omega)).1, (a1 2 (by omega)).1, (a1 3 (by omega)).1, a2, a3, fun t ht => ⟨((a1 0 (by omega)).2 t ht).1, ((a1 0 (by omega)).2 t ht).2.1⟩, fun t ht => ⟨((a1 1 (by omega)).2 t ht).1, ((a1 1 (by omega)).2 t ht).2.1⟩, fun t ht => ⟨((a1 2 (by omega)).2 t ht).1, ((a1 2 (by omega)).2 t ht).2.1⟩, fun t ht => ⟨((a1 3 (by omega)).2 t ht).1, ((a1 3 (by omega)).2 t ht).2.1⟩⟩
theorem DC.C5 {G : tH} {p ob : Nat} {pr : mP} {nm : Nat → Nat → List Nat} (h : DC G p pr nm ob) : C5 G p pr nm := fun j i hj hi => ((h.1 j hj).2 i hi).2.2
theorem c_tl {G : tH} : ∀ m i a, i + m = 5 → ∃ a', V_X10_startAnew_33 (nI i) (sA G 1011 0 a) = some (none, sA G 1011 0 a') ∧ (∀ c, i ≤ c → c < 5 → a' c = -1) ∧ ∀ k, k < i ∨ 5 ≤ k → a' k = a k := by
  intro m
  induction m with
  | zero =>
    intro i a hi
    refine ⟨a, ?_, fun k h1 h2 => by omega, fun k _ => rfl⟩
    rw [e_X10_startAnew_33, tltM (by omega) (by omega) (by omega)]
  | succ m ih =>
    intro i a hi
    obtain ⟨a', e, h1, h2⟩ := ih (i + 1) (upd a i (-1)) (by omega)
    refine ⟨a', ?_, fun k h3 h4 => ?_, fun k h3 => ?_⟩
    · rw [e_X10_startAnew_33, tltP (by omega) (by omega) (by omega), ttin (by omega) (by omega), nI_clamp (by omega), gA_eq]
      dsimp only
      rw [sA_sA, nI_add]
      exact e
    · by_cases w : k = i
      · rw [h2 _ (by omega), w, upd_eq]
      · exact h1 k (by omega) h4
    · rw [h2 k (by omega), upd_ne (by omega)]
def zSN (q : Nat) : Nat → Nat → Prop := fun f o => (700 ≤ f ∧ f < 800 ∧ o = 0) ∨ f = 902 ∨ (f = 400 ∧ o = q) ∨ f = 1010 ∨ f = 1011
theorem c_anew {G : tH} {p q : Nat} {pr : mP} (hP : cP G p pr) (ho : okP pr) (h1 : gR G 1001 0 = p) (h3 : gR G 1003 0 = q) : ∃ G', V_X10_startAnew G = some (none, G') ∧ cS G' 0 p pr (fBegin pr) ∧ gI G' 902 0 = nI 0 ∧ gI G' 400 q = nI 0 ∧ gI G' 1010 0 = nI 0 ∧ (∀ c, c < 5 → gA G' 1011 0 c = -1) ∧ tfr (zSN q) G G' := by
  obtain ⟨G1, e1, s1, f1⟩ := c_begin (o := 0) hP ho
  obtain ⟨G4, hG4⟩ : ∃ g, g = sI (sI (sI G1 902 0 (nI 0)) 400 q (nI 0)) 1010 0 (nI 0) := ⟨_, rfl⟩
  obtain ⟨a', e4, x1, x2⟩ := c_tl (G := G4) 5 0 (gA G4 1011 0) (by omega)
  rw [sA_id] at e4
  have f4 : tfr (fun f o => f = 902 ∨ (f = 400 ∧ o = q) ∨ f = 1010) G1 G4 := by rw [hG4]; exact tfrI (tfrI (tfr.sI (Or.inl rfl)) (Or.inr (Or.inl ⟨rfl, rfl⟩))) (Or.inr (Or.inr rfl))
  have g3 : gR G1 1003 0 = q := by rw [(f1 1003 0 (by unfold zT; omega)).2.2.1]; exact h3
  refine ⟨sA G4 1011 0 a', ?_, ?_, ?_, ?_, ?_, fun c hc => ?_, ?_⟩
  · rw [e_X10_startAnew, h1, e1, tbV_v, e_X9_forget, tbV_v]
    dsimp only
    rw [gR_sI, g3, ← hG4, e4]
  · exact (s1.kept f4 (fun f _ _ => by omega)).kept (tfr.sA (S := fun f _ => f = 1011) rfl) (fun f _ _ => by omega)
  · rw [gI_sA, hG4, gI_ne (by omega), gI_ne (by omega), gI_eq]
  · rw [gI_sA, hG4, gI_ne (by omega), gI_eq]
  · rw [gI_sA, hG4, gI_eq]
  · rw [gA_eq, x1 c (by omega) hc]
  · exact tfrA ((f1.mono fun f o w => by unfold zT at w; unfold zSN; omega).tr (f4.mono fun f o w => by unfold zSN; omega)) (by unfold zSN; omega)
/-- the reference has read one: what it has then -/
theorem r_pend {z : mZ} {N p k ob mn cd : Nat} {pr : mP} {nm : Nat → Nat → List Nat} {Gc Gr : tH} (hT : TK z N) (h : PV z N p Gc Gr k pr nm ob mn cd) : ∃ G', V_X11_province_62 Gr = some (some (vI (nI 0)), G') ∧ rP G' pr ∧ rS (gA G' 1124 0) 0 pr (fBegin pr) ∧ (∀ c, c < 5 → gA G' 1124 0 (56 + c) = -1) ∧ gA G' 1121 0 0 = nI 0 ∧ gI G' 1125 0 = nI 0 ∧ (∀ m, m < 4 → gA G' 1126 0 m = nI 0) ∧ R5 G' pr nm ∧ (∀ i, i < 60 → gA G' 1110 0 i = gA Gr 1110 0 (60 + i)) ∧ (∀ i, i < cd → gA G' 1111 0 i = gA Gr 1111 0 (1100 + i) ∧ gA G' 1112 0 i = gA Gr 1112 0 (1100 + i)) ∧ tfr (fun f _ => f = 1110 ∨ f = 1111 ∨ f = 1112 ∨ f = 1114 ∨ f = 1116 ∨ f = 1118 ∨ f = 1121 ∨ f = 1124 ∨ f = 1125 ∨ f = 1126) Gr G' := by
  obtain ⟨v1, v2, v3, v4, v5, v6, v7, v8, v9, v10, v11, v12⟩ := h
  have hN := hT.le
  have hk := v3.2.1
  obtain ⟨b1, b2, b3, b4, b5, b6, b7⟩ := v5
  obtain ⟨u0, u1, u2, u3, _⟩ := id v7
  obtain ⟨a1, e1, x1, x2⟩ := r_cp_76 (G := Gr) 60 0 (gA Gr 1110 0) (by omega)
  rw [sA_id] at e1
  obtain ⟨G2, e2, y1, y2, f2⟩ := r_cp_105 (cd := cd) (by omega) cd 0 (sA Gr 1110 0 a1) (by omega) v9
  obtain ⟨G3, e3, z1, z2, f3⟩ := r_cp_153 (mn := mn) (by omega) mn 0 G2 (by omega) (by rw [(f2 1119 0 (by omega)).1]; exact b5)
  have f4 : tfr (fun f _ => f = 1118) G3 (sI G3 1118 0 (nI mn)) := tfr.sI rfl
  have g3 : gA (sI G3 1118 0 (nI mn)) 1110 0 = a1 := by rw [(f4 1110 0 (by omega)).2.2.2.1, (f3 1110 0 (by omega)).2.2.2.1, (f2 1110 0 (by omega)).2.2.2.1, gA_eq]
  have hP3 : rP (sI G3 1118 0 (nI mn)) pr := by
    unfold rP
    rw [g3]
    have l0 : lb 0 = 8 := rfl
    have l1 : lb 1 = 20 := rfl
    have l2 : lb 2 = 30 := rfl
    have l3 : lb 3 = 40 := rfl
    have c0 : nT pr = cntP pr 0 := rfl
    have c1 : nC pr = cntP pr 1 := rfl
    have c2 : nH pr = cntP pr 2 := rfl
    have c3 : nJ pr = cntP pr 3 := rfl
    refine ⟨?_, ?_, ?_, ?_, ?_, ?_, fun t ht => ?_, fun t ht => ?_, fun t ht => ?_, fun t ht => ?_⟩
    · rw [x1 0 (by omega) (by omega)]; exact (b1 0 (by omega)).1
    · rw [x1 1 (by omega) (by omega)]; exact (b1 1 (by omega)).1
    · rw [x1 2 (by omega) (by omega)]; exact (b1 2 (by omega)).1
    · rw [x1 3 (by omega) (by omega)]; exact (b1 3 (by omega)).1
    · rw [x1 4 (by omega) (by omega)]; exact b2
    · rw [x1 5 (by omega) (by omega)]; exact b3
    · have := (b1 0 (by omega)).2 t ht
      rw [x1 _ (by omega) (by omega), x1 _ (by omega) (by omega), ← Nat.add_assoc, ← Nat.add_assoc, ← Nat.add_assoc]
      exact this
    · have := (b1 1 (by omega)).2 t ht
      rw [x1 _ (by omega) (by omega), x1 _ (by omega) (by omega), ← Nat.add_assoc, ← Nat.add_assoc, ← Nat.add_assoc]
      exact this
    · have := (b1 2 (by omega)).2 t ht
      rw [x1 _ (by omega) (by omega), x1 _ (by omega) (by omega), ← Nat.add_assoc, ← Nat.add_assoc, ← Nat.add_assoc]
      exact this
    · have := (b1 3 (by omega)).2 t ht
      rw [x1 _ (by omega) (by omega), x1 _ (by omega) (by omega), ← Nat.add_assoc, ← Nat.add_assoc, ← Nat.add_assoc]
      exact this
  obtain ⟨G5, e5, s5, t5a, t5b, t5c, t5d, f5⟩ := r_begins hP3 v6
  have g5 : gA G5 1110 0 = a1 := by rw [(f5 1110 0 (by omega)).2.2.2.1]; exact g3
  have fall : tfr (fun f _ => f = 1111 ∨ f = 1112 ∨ f = 1114 ∨ f = 1116 ∨ f = 1118 ∨ f = 1121 ∨ f = 1124 ∨ f = 1125 ∨ f = 1126) (sA Gr 1110 0 a1) G5 := (((f2.mono fun f o w => by omega).tr (f3.mono fun f o w => by omega)).tr (f4.mono fun f o w => by omega)).tr (f5.mono fun f o w => by omega)
  refine ⟨G5, ?_, ?_, s5, t5a, t5b, t5c, t5d, ?_, fun i hi => ?_, fun i hi => ?_, (tfr.sA (by omega)).tr (fall.mono fun f o w => by omega)⟩
  · rw [e_X11_province_62, v3.2.2.2.1, tl0M rfl, e1, e2, e3, e5, tbV_v]
  · unfold rP
    rw [g5, ← g3]
    exact hP3
  · have h14 : ∀ m, m < mn → gB G5 1114 0 m = gB Gr 1115 0 m ∧ gA G5 1116 0 m = gA Gr 1117 0 m := by
      intro m hm
      have w := z1 m (by omega) hm
      rw [(f2 1115 0 (by omega)).2.2.2.2, (f2 1117 0 (by omega)).2.2.2.1, gB_sA, gA_ne (by omega)] at w
      rw [(f5 1114 0 (by omega)).2.2.2.2, (f5 1116 0 (by omega)).2.2.2.1]
      exact w
    refine ⟨mn, by omega, ?_, fun m hm => ?_, fun j i hj hi => ?_⟩
    · rw [(f5 1118 0 (by omega)).1, gI_eq]
    · obtain ⟨j, i, q1, q2, q3, q4⟩ := b6.2.1 m hm
      exact ⟨j, i, q1, q2, by rw [(h14 m hm).1]; exact q3, by rw [(h14 m hm).2]; exact q4⟩
    · obtain ⟨m, q1, q2, q3⟩ := b6.2.2 j i hj hi
      exact ⟨m, q1, by rw [(h14 m q1).1]; exact q2, by rw [(h14 m q1).2]; exact q3⟩
  · rw [g5, x1 i (by omega) hi]
  · have w := y1 i (by omega) hi
    rw [gA_ne (by omega), gA_ne (by omega)] at w
    have n1 : gA G5 1111 0 = gA G2 1111 0 := by rw [(f5 1111 0 (by omega)).2.2.2.1, (f4 1111 0 (by omega)).2.2.2.1, (f3 1111 0 (by omega)).2.2.2.1]
    have n2 : gA G5 1112 0 = gA G2 1112 0 := by rw [(f5 1112 0 (by omega)).2.2.2.1, (f4 1112 0 (by omega)).2.2.2.1, (f3 1112 0 (by omega)).2.2.2.1]
    rw [n1, n2]
    exact w
theorem LW.vals {Gc Gr : tH} {p cd i : Nat} (h : LW Gc Gr p cd i) (hi : i < 2) (hcd : cd ≤ 1000) : ∃ f, cL Gc (2 * p + i) f ∧ ∀ G', gA G' 1110 0 (6 + i) = gA Gr 1110 0 (66 + i) → (∀ m, m < cd → gA G' 1111 0 m = gA Gr 1111 0 (1100 + m) ∧ gA G' 1112 0 m = gA Gr 1112 0 (1100 + m)) → rL G' i f := by
  obtain ⟨cs, a1, a2, a3, a4, a5⟩ := h
  refine ⟨lval cs, c_val a1 a2 a3 a4, fun G' h1 h2 => ?_⟩
  rcases a5 with ⟨b1, b2⟩ | ⟨f, b1, b2, b3⟩
  · refine Or.inl ⟨by rw [h1, b1]; exact m1_lt, fun w c d => ?_⟩
    rw [b2]
    rcases (show i = 0 ∨ i = 1 by omega) with e | e <;> subst e
    · rfl
    · rfl
  · refine r_val (i := f) (by rw [h1, b1]) ⟨fun j hj => ?_, ?_⟩ (by omega) a3 a4
    · have := b2.1 j hj
      rw [(h2 (f + j) (by omega)).1, (h2 (f + j) (by omega)).2, ← Nat.add_assoc]
      exact this
    · have := b2.2
      rw [(h2 (f + cs.length) (by omega)).1, ← Nat.add_assoc]
      exact this
