/-! PURE: the tokens of a tape z = (its length, its signs) -/
noncomputable def pif {α : Type} (c : Prop) (a b : α) : α := @ite α c (Classical.propDecidable c) a b
theorem pif_1 {α : Type} {c : Prop} {a b : α} (h : c) : pif c a b = a := if_pos h
theorem pif_0 {α : Type} {c : Prop} {a b : α} (h : ¬ c) : pif c a b = b := if_neg h
def isB (x : Nat) : Prop := x = 10 ∨ x = 32
def isLt (x : Nat) : Prop := 97 ≤ x ∧ x ≤ 122
def isDg (x : Nat) : Prop := 48 ≤ x ∧ x ≤ 57
def isSg (x : Nat) : Prop := x = 40 ∨ x = 41 ∨ x = 59 ∨ x = 61 ∨ x = 60 ∨ x = 43 ∨ x = 45 ∨ x = 42
noncomputable def ruF (P : Nat → Prop) (z : mZ) : Nat → Nat → Nat
  | 0, p => p
  | f + 1, p => pif (P (z.2 p)) (ruF P z f (p + 1)) p
noncomputable def ru (P : Nat → Prop) (z : mZ) (p : Nat) : Nat := ruF P z (z.1 - p) p
theorem ru_1 {P : Nat → Prop} {z : mZ} {p : Nat} (h : p < z.1) (hp : P (z.2 p)) : ru P z p = ru P z (p + 1) := by
  unfold ru
  rw [show z.1 - p = (z.1 - (p + 1)) + 1 by omega]
  exact pif_1 hp
theorem ru_0 {P : Nat → Prop} {z : mZ} {p : Nat} (hp : p < z.1 → ¬ P (z.2 p)) : ru P z p = p := by
  unfold ru
  by_cases h : p < z.1
  · rw [show z.1 - p = (z.1 - (p + 1)) + 1 by omega]
    exact pif_0 (hp h)
  · rw [show z.1 - p = 0 by omega]
    rfl
theorem ru_in {P : Nat → Prop} {z : mZ} : ∀ m p, z.1 - p = m → p ≤ ru P z p ∧ (p ≤ z.1 → ru P z p ≤ z.1) ∧ (∀ i, p ≤ i → i < ru P z p → P (z.2 i)) ∧ (ru P z p < z.1 → ¬ P (z.2 (ru P z p))) := by
  intro m
  induction m with
  | zero =>
    intro p h
    rw [ru_0 (fun q => by omega)]
    exact ⟨Nat.le_refl _, fun q => q, fun i h1 h2 => by omega, fun q => by omega⟩
  | succ m ih =>
    intro p h
    by_cases hp : P (z.2 p)
    · rw [ru_1 (by omega) hp]
      obtain ⟨a, b, c, d⟩ := ih (p + 1) (by omega)
      refine ⟨by omega, fun q => b (by omega), fun i h1 h2 => ?_, d⟩
      by_cases e : i = p
      · rw [e]; exact hp
      · exact c i (by omega) h2
    · rw [ru_0 (fun _ => hp)]
      exact ⟨Nat.le_refl _, fun q => q, fun i h1 h2 => by omega, fun _ => hp⟩
theorem ru_ge {P : Nat → Prop} {z : mZ} {p : Nat} : p ≤ ru P z p := (ru_in _ p rfl).1
theorem ru_le {P : Nat → Prop} {z : mZ} {p : Nat} (h : p ≤ z.1) : ru P z p ≤ z.1 := (ru_in _ p rfl).2.1 h
theorem ru_all {P : Nat → Prop} {z : mZ} {p i : Nat} (h1 : p ≤ i) (h2 : i < ru P z p) : P (z.2 i) := (ru_in _ p rfl).2.2.1 i h1 h2
theorem ru_end {P : Nat → Prop} {z : mZ} {p : Nat} (h : ru P z p < z.1) : ¬ P (z.2 (ru P z p)) := (ru_in _ p rfl).2.2.2 h
theorem ru_gt {P : Nat → Prop} {z : mZ} {p : Nat} (h : p < z.1) (hp : P (z.2 p)) : p < ru P z p := by
  rw [ru_1 h hp]
  have := ru_ge (P := P) (z := z) (p := p + 1)
  omega
def gl (b : Nat) (z : mZ) (s e : Nat) : List Nat := (List.range (e - s)).map fun i => z.2 (s + i) - b
theorem gl_0 {b : Nat} {z : mZ} {s : Nat} : gl b z s s = [] := by unfold gl; rw [Nat.sub_self]; rfl
theorem gl_s {b : Nat} {z : mZ} {s e : Nat} (h : s ≤ e) : gl b z s (e + 1) = gl b z s e ++ [z.2 e - b] := by
  unfold gl
  rw [show e + 1 - s = (e - s) + 1 by omega, List.range_succ, List.map_append]
  show _ ++ [z.2 (s + (e - s)) - b] = _
  rw [show s + (e - s) = e by omega]
theorem gl_len {b : Nat} {z : mZ} {s e : Nat} : (gl b z s e).length = e - s := by unfold gl; rw [List.length_map, List.length_range]
theorem gl_mem {b : Nat} {z : mZ} {s e x : Nat} (h : x ∈ gl b z s e) : ∃ i, s ≤ i ∧ i < e ∧ x = z.2 i - b := by
  unfold gl at h
  obtain ⟨i, h1, h2⟩ := List.mem_map.mp h
  rw [List.mem_range] at h1
  exact ⟨s + i, by omega, by omega, h2.symm⟩
theorem wc_s (B : Nat) (l : List Nat) (x : Nat) : wcode B (l ++ [x]) = B * wcode B l + x := by unfold wcode; rw [List.foldl_append]; rfl
noncomputable def tke (z : mZ) (s : Nat) : Nat := pif (s < z.1) (pif (isLt (z.2 s)) (ru isLt z s) (pif (isDg (z.2 s)) (ru isDg z s) (s + 1))) s
noncomputable def tkd (z : mZ) (s : Nat) : Nat := pif (s < z.1) (pif (isLt (z.2 s)) (pif (ru isLt z s - s ≤ 8) 1 4) (pif (isDg (z.2 s)) (pif (ru isDg z s - s ≤ 4) 2 4) (pif (isSg (z.2 s)) 3 4))) 0
def zTk : Nat → Nat → Prop := fun f _ => 802 ≤ f ∧ f ≤ 807
/-- the class has read the token that begins at s -/
def TP (G : tH) (z : mZ) (s : Nat) : Prop := T4 G z ∧ gI G 802 0 = nI (tke z s) ∧ gI G 803 0 = nI s ∧ gI G 804 0 = nI (tkd z s) ∧ (tkd z s = 1 → gL G 805 0 = lN (wcode 32 (gl 96 z s (tke z s)))) ∧ (tkd z s = 2 → gI G 806 0 = nI (wcode 10 (gl 48 z s (tke z s)))) ∧ (tkd z s = 3 → gI G 807 0 = nI (z.2 s))
theorem okX_le {x : Nat} (h : okX x) : x ≤ 126 := by unfold okX at h; omega
theorem T4.kept {G G' : tH} {z : mZ} {S : Nat → Nat → Prop} (h : T4 G z) (hf : tfr S G G') (h0 : ¬ S 800 0) (h1 : ¬ S 801 0) : T4 G' z := by
  unfold T4
  rw [(hf 801 0 h1).1, (hf 800 0 h0).2.2.2.1]
  exact h
theorem c_skip {z : mZ} (hz : okZ z) : ∀ m p G, z.1 - p = m → p ≤ z.1 → T4 G z → gI G 802 0 = nI p → ∃ G', V_X8_advance_0 G = V_X8_advance_52 G' ∧ T4 G' z ∧ gI G' 802 0 = nI (ru isB z p) ∧ tfr zTk G G' := by
  intro m
  induction m with
  | zero =>
    intro p G h hp hT h2
    have hn := hz.1
    refine ⟨G, ?_, hT, ?_, tfr.rf⟩
    · rw [e_X8_advance_0, h2, hT.1, tltM (by omega) (by omega) (by omega)]
    · rw [ru_0 (fun q => by omega)]; exact h2
  | succ m ih =>
    intro p G h hp hT h2
    have hn := hz.1
    have hx := okX_le (hz.2 p (by omega))
    have hv := hT.2 p (by omega)
    have hT1 : T4 (sI G 802 0 (nI (p + 1))) z := ⟨by rw [gI_ne (by omega)]; exact hT.1, hT.2⟩
    obtain ⟨G', e, k1, k2, k3⟩ := ih (p + 1) (sI G 802 0 (nI (p + 1))) (by omega) (by omega) hT1 gI_eq
    have k4 : tfr zTk G G' := (tfr.sI (by unfold zTk; omega)).tr k3
    by_cases hb : isB (z.2 p)
    · refine ⟨G', ?_, k1, ?_, k4⟩
      · rw [e_X8_advance_0, h2, hT.1, tltP (by omega) (by omega) (by omega), ttin (by omega) (by omega), nI_clamp (by omega), hv]
        dsimp only
        rw [nI_add]
        rcases hb with q | q
        · rw [teqM (by omega) (by omega) (by omega), ttin (by omega) (by omega), teqP q]
          exact e
        · rw [teqP q]
          exact e
      · rw [ru_1 (by omega) hb]; exact k2
    · refine ⟨G, ?_, hT, ?_, tfr.rf⟩
      · unfold isB at hb
        rw [e_X8_advance_0, h2, hT.1, tltP (by omega) (by omega) (by omega), ttin (by omega) (by omega), nI_clamp (by omega), hv, teqM (by omega) (by omega) (by omega), ttin (by omega) (by omega), teqM (by omega) (by omega) (by omega)]
      · rw [ru_0 (fun _ => hb)]; exact h2
theorem c_scanW {z : mZ} (hz : okZ z) {s : Nat} : ∀ m p G, z.1 - p = m → s ≤ p → p ≤ z.1 → T4 G z → gI G 802 0 = nI p → gL G 805 0 = lN (wcode 32 (gl 96 z s p)) → ∃ G', V_X8_scanWord_5 G = V_X8_scanWord_85 G' ∧ T4 G' z ∧ gI G' 802 0 = nI (ru isLt z p) ∧ gL G' 805 0 = lN (wcode 32 (gl 96 z s (ru isLt z p))) ∧ tfr (fun f _ => f = 802 ∨ f = 805) G G' := by
  intro m
  induction m with
  | zero =>
    intro p G h hsp hp hT h2 h5
    have hn := hz.1
    refine ⟨G, ?_, hT, ?_, ?_, tfr.rf⟩
    · rw [e_X8_scanWord_5, h2, hT.1, tltM (by omega) (by omega) (by omega)]
    · rw [ru_0 (fun q => by omega)]; exact h2
    · rw [ru_0 (fun q => by omega)]; exact h5
  | succ m ih =>
    intro p G h hsp hp hT h2 h5
    have hn := hz.1
    have hx := okX_le (hz.2 p (by omega))
    have hv := hT.2 p (by omega)
    by_cases hb : isLt (z.2 p)
    · have hb2 := hb
      unfold isLt at hb2
      have hT1 : T4 (sI (sL G 805 0 (lN (wcode 32 (gl 96 z s (p + 1))))) 802 0 (nI (p + 1))) z := ⟨by rw [gI_ne (by omega), gI_sL]; exact hT.1, hT.2⟩
      obtain ⟨G', e, k1, k2, k3, k4⟩ := ih (p + 1) (sI (sL G 805 0 (lN (wcode 32 (gl 96 z s (p + 1))))) 802 0 (nI (p + 1))) (by omega) (by omega) (by omega) hT1 gI_eq (by rw [gL_sI, gL_eq])
      refine ⟨G', ?_, k1, ?_, ?_, (tfrI (tfr.sL (Or.inr rfl)) (Or.inl rfl)).tr k4⟩
      · rw [e_X8_scanWord_5, h2, hT.1, tltP (by omega) (by omega) (by omega), ttin (by omega) (by omega), nI_clamp (by omega), hv, tltM (by omega) (by omega) (by omega), ttin (by omega) (by omega), tltM (by omega) (by omega) (by omega), ttin (by omega) (by omega)]
        dsimp only
        rw [gI_sL, h2, h5, nI_add, nI_sub (by omega), nI_add, nI_l (by omega), lN_mul, lN_add, show wcode 32 (gl 96 z s p) * 32 + (z.2 p - 97 + 1) = wcode 32 (gl 96 z s (p + 1)) by rw [gl_s hsp, wc_s]; omega]
        exact e
      · rw [ru_1 (by omega) hb]; exact k2
      · rw [ru_1 (by omega) hb]; exact k3
    · refine ⟨G, ?_, hT, ?_, ?_, tfr.rf⟩
      · rw [e_X8_scanWord_5, h2, hT.1, tltP (by omega) (by omega) (by omega), ttin (by omega) (by omega), nI_clamp (by omega), hv, tltN (by omega) (by omega)]
        by_cases q : z.2 p < 97
        · rw [if_pos q]
        · rw [if_neg q, ttin (by omega) (by omega), tltP (by omega) (by omega) (by unfold isLt at hb; omega)]
      · rw [ru_0 (fun _ => hb)]; exact h2
      · rw [ru_0 (fun _ => hb)]; exact h5
theorem c_scanN {z : mZ} (hz : okZ z) {s : Nat} : ∀ m p G, z.1 - p = m → s ≤ p → p ≤ z.1 → T4 G z → gI G 802 0 = nI p → gI G 806 0 = nI (wcode 10 (gl 48 z s p)) → ∃ G', V_X8_scanNumber_5 G = V_X8_scanNumber_81 G' ∧ T4 G' z ∧ gI G' 802 0 = nI (ru isDg z p) ∧ gI G' 806 0 = nI (wcode 10 (gl 48 z s (ru isDg z p))) ∧ tfr (fun f _ => f = 802 ∨ f = 806) G G' := by
  intro m
  induction m with
  | zero =>
    intro p G h hsp hp hT h2 h5
    have hn := hz.1
    refine ⟨G, ?_, hT, ?_, ?_, tfr.rf⟩
    · rw [e_X8_scanNumber_5, h2, hT.1, tltM (by omega) (by omega) (by omega)]
    · rw [ru_0 (fun q => by omega)]; exact h2
    · rw [ru_0 (fun q => by omega)]; exact h5
  | succ m ih =>
    intro p G h hsp hp hT h2 h5
    have hn := hz.1
    have hx := okX_le (hz.2 p (by omega))
    have hv := hT.2 p (by omega)
    by_cases hb : isDg (z.2 p)
    · have hb2 := hb
      unfold isDg at hb2
      have hT1 : T4 (sI (sI G 806 0 (nI (wcode 10 (gl 48 z s (p + 1))))) 802 0 (nI (p + 1))) z := ⟨by rw [gI_ne (by omega), gI_ne (by omega)]; exact hT.1, hT.2⟩
      obtain ⟨G', e, k1, k2, k3, k4⟩ := ih (p + 1) (sI (sI G 806 0 (nI (wcode 10 (gl 48 z s (p + 1))))) 802 0 (nI (p + 1))) (by omega) (by omega) (by omega) hT1 gI_eq (by rw [gI_ne (by omega), gI_eq])
      refine ⟨G', ?_, k1, ?_, ?_, (tfrI (tfr.sI (Or.inr rfl)) (Or.inl rfl)).tr k4⟩
      · rw [e_X8_scanNumber_5, h2, hT.1, tltP (by omega) (by omega) (by omega), ttin (by omega) (by omega), nI_clamp (by omega), hv, tltM (by omega) (by omega) (by omega), ttin (by omega) (by omega), tltM (by omega) (by omega) (by omega), ttin (by omega) (by omega)]
        dsimp only
        rw [gI_ne (show 802 ≠ 806 by omega), h2, h5, nI_add, nI_sub (by omega), pk_mul, nI_add, show wcode 10 (gl 48 z s p) * 10 + (z.2 p - 48) = wcode 10 (gl 48 z s (p + 1)) by rw [gl_s hsp, wc_s]; omega]
        exact e
      · rw [ru_1 (by omega) hb]; exact k2
      · rw [ru_1 (by omega) hb]; exact k3
    · refine ⟨G, ?_, hT, ?_, ?_, tfr.rf⟩
      · rw [e_X8_scanNumber_5, h2, hT.1, tltP (by omega) (by omega) (by omega), ttin (by omega) (by omega), nI_clamp (by omega), hv, tltN (by omega) (by omega)]
        by_cases q : z.2 p < 48
        · rw [if_pos q]
        · rw [if_neg q, ttin (by omega) (by omega), tltP (by omega) (by omega) (by unfold isDg at hb; omega)]
      · rw [ru_0 (fun _ => hb)]; exact h2
      · rw [ru_0 (fun _ => hb)]; exact h5
/-! the signs -/
def sgB : List Nat := [40, 41, 60, 61, 43, 45, 42, 59]
theorem sg_by : ∀ j, j < 8 → (tsbyt.getD 0 []).getD j 0 = nI (sgB.getD j 0) ∧ sgB.getD j 0 < 256 := by decide +kernel
theorem sg_8 : ∀ x, x < 127 → (nI x).toInt8.toInt32 = nI x := by decide +kernel
theorem v_sgl {x : Nat} (hx : x ≤ 126) {G : tH} : ∀ m i, i + m = 8 → ∃ r, V_J1_indexOfChar_4cfef_7 0 (nI 8) (nI x) (nI i) G = some (some (vI r), G) ∧ (r < 0 ↔ ¬ ∃ j, i ≤ j ∧ j < 8 ∧ sgB.getD j 0 = x) := by
  intro m
  induction m with
  | zero =>
    intro i hi
    refine ⟨-1, ?_, ?_⟩
    · rw [e_J1_indexOfChar_4cfef_7, tltM (by omega) (by omega) (by omega)]
    · exact ⟨fun _ ⟨j, h1, h2, _⟩ => by omega, fun _ => m1_lt⟩
  | succ m ih =>
    intro i hi
    obtain ⟨b1, b2⟩ := sg_by i (by omega)
    by_cases q : sgB.getD i 0 = x
    · refine ⟨nI i, ?_, ?_⟩
      · rw [e_J1_indexOfChar_4cfef_7, tltP (by omega) (by omega) (by omega), ttin (show i < tslen.getD 0 0 by show i < 8; omega) (by show 8 < 2 ^ 31; omega), nI_clamp (by omega), b1, teqP q]
      · exact ⟨fun h => absurd h (nI_pos (by omega)), fun h => absurd ⟨i, Nat.le_refl _, by omega, q⟩ h⟩
    · obtain ⟨r, e, h⟩ := ih (i + 1) (by omega)
      refine ⟨r, ?_, ?_⟩
      · rw [e_J1_indexOfChar_4cfef_7, tltP (by omega) (by omega) (by omega), ttin (show i < tslen.getD 0 0 by show i < 8; omega) (by show 8 < 2 ^ 31; omega), nI_clamp (by omega), b1, teqM (by omega) (by omega) q, nI_add]
        exact e
      · rw [h]
        refine not_congr ⟨fun ⟨j, h1, h2, h3⟩ => ⟨j, by omega, h2, h3⟩, fun ⟨j, h1, h2, h3⟩ => ⟨j, ?_, h2, h3⟩⟩
        have : j ≠ i := fun e => q (by rw [← e]; exact h3)
        omega
theorem sg_ex {x : Nat} : (∃ j, 0 ≤ j ∧ j < 8 ∧ sgB.getD j 0 = x) ↔ isSg x := by
  constructor
  · rintro ⟨j, _, h2, h3⟩
    have : ∀ j, j < 8 → isSg (sgB.getD j 0) := by unfold isSg; decide +kernel
    rw [← h3]
    exact this j h2
  · intro h
    unfold isSg at h
    rcases h with h | h | h | h | h | h | h | h
    · exact ⟨0, by omega, by omega, h.symm⟩
    · exact ⟨1, by omega, by omega, h.symm⟩
    · exact ⟨7, by omega, by omega, h.symm⟩
    · exact ⟨3, by omega, by omega, h.symm⟩
    · exact ⟨2, by omega, by omega, h.symm⟩
    · exact ⟨4, by omega, by omega, h.symm⟩
    · exact ⟨5, by omega, by omega, h.symm⟩
    · exact ⟨6, by omega, by omega, h.symm⟩
theorem v_latin {o : Nat} {G : tH} : V_J0_isLatin1_aae02 o G = some (some (vI (nI 1)), G) := by rw [e_J0_isLatin1_aae02, tn1, tn0, tz1]
theorem tzb0 {a b : Option tRes} : tif (vp_nar .byte (nI 0) = nI 0) a b = a := tif_pos (by decide +kernel)
theorem v_coder {o : Nat} {G : tH} : V_J0_coder_7d493 o G = some (some (vI (nI 0)), G) := by rw [e_J0_coder_7d493, tn1, tzb0]
theorem v_signs {x : Nat} (hx : x ≤ 126) {G : tH} : ∃ r, V_J0_indexOf_0f7a4 0 (nI x) G = some (some (vI r), G) ∧ (r < 0 ↔ ¬ isSg x) := by
  obtain ⟨r, e, h⟩ := v_sgl hx (G := G) 8 0 (by omega)
  refine ⟨r, ?_, by rw [h, sg_ex]⟩
  have e1 : V_J1_canEncode_9a6ad (nI x) G = some (some (vI (nI 1)), G) := by rw [e_J1_canEncode_9a6ad, tlt0 (by omega), tltM (by omega) (by omega) (by omega), tz1]
  have e2 : V_J0_length_8abf5 0 G = some (some (vI (nI 8)), G) := by
    rw [e_J0_length_8abf5, v_coder, tbI_v]
    congr 4
  rw [e_J0_indexOf_0f7a4, e_J0_indexOf_7cf53, v_latin, tbI_v, tn1, e2, tbI_v, e_J1_indexOf_4cfef, e1, tbI_v, tn1]
  dsimp only
  have z1 : (if Int32.ofNat (tslen.getD 0 0) < nI 8 then Int32.ofNat (tslen.getD 0 0) else nI 8) = nI 8 := by decide +kernel
  have z2 : (if nI 0 < nI 0 then nI 0 else nI 0) = nI 0 := by decide +kernel
  rw [z1, z2, tltP (by omega) (by omega) (by omega), e_J1_indexOfChar_4cfef, sg_8 x (by omega), e, tbI_v, tbI_v, tbI_v]
theorem char_ok : ∀ x, x < 127 → vp_nar .char (nI x) = nI x := by decide +kernel
