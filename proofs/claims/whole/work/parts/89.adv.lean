/-! PURE: the class goes to the next token; the reference cuts all of them -/
theorem tk_end {z : mZ} {s : Nat} (h : ¬ s < z.1) : tke z s = s ∧ tkd z s = 0 := ⟨pif_0 h, pif_0 h⟩
theorem tk_let {z : mZ} {s : Nat} (h : s < z.1) (hl : isLt (z.2 s)) : tke z s = ru isLt z s ∧ tkd z s = pif (ru isLt z s - s ≤ 8) 1 4 := ⟨by unfold tke; rw [pif_1 h, pif_1 hl], by unfold tkd; rw [pif_1 h, pif_1 hl]⟩
theorem tk_dig {z : mZ} {s : Nat} (h : s < z.1) (hl : ¬ isLt (z.2 s)) (hd : isDg (z.2 s)) : tke z s = ru isDg z s ∧ tkd z s = pif (ru isDg z s - s ≤ 4) 2 4 := ⟨by unfold tke; rw [pif_1 h, pif_0 hl, pif_1 hd], by unfold tkd; rw [pif_1 h, pif_0 hl, pif_1 hd]⟩
theorem tk_sgn {z : mZ} {s : Nat} (h : s < z.1) (hl : ¬ isLt (z.2 s)) (hd : ¬ isDg (z.2 s)) : tke z s = s + 1 ∧ tkd z s = pif (isSg (z.2 s)) 3 4 := ⟨by unfold tke; rw [pif_1 h, pif_0 hl, pif_0 hd], by unfold tkd; rw [pif_1 h, pif_0 hl, pif_0 hd]⟩
theorem tke_le {z : mZ} {s : Nat} (h : s ≤ z.1) : tke z s ≤ z.1 := by
  by_cases h1 : s < z.1
  · by_cases hl : isLt (z.2 s)
    · rw [(tk_let h1 hl).1]; exact ru_le h
    · by_cases hd : isDg (z.2 s)
      · rw [(tk_dig h1 hl hd).1]; exact ru_le h
      · rw [(tk_sgn h1 hl hd).1]; exact h1
  · rw [(tk_end h1).1]; exact h
theorem tke_gt {z : mZ} {s : Nat} (h1 : s < z.1) : s < tke z s := by
  by_cases hl : isLt (z.2 s)
  · rw [(tk_let h1 hl).1]; exact ru_gt h1 hl
  · by_cases hd : isDg (z.2 s)
    · rw [(tk_dig h1 hl hd).1]; exact ru_gt h1 hd
    · rw [(tk_sgn h1 hl hd).1]; omega
theorem tkd_0 {z : mZ} {s : Nat} : tkd z s = 0 ↔ ¬ s < z.1 := by
  constructor
  · intro h h1
    by_cases hl : isLt (z.2 s)
    · rw [(tk_let h1 hl).2] at h
      by_cases q : ru isLt z s - s ≤ 8
      · rw [pif_1 q] at h; omega
      · rw [pif_0 q] at h; omega
    · by_cases hd : isDg (z.2 s)
      · rw [(tk_dig h1 hl hd).2] at h
        by_cases q : ru isDg z s - s ≤ 4
        · rw [pif_1 q] at h; omega
        · rw [pif_0 q] at h; omega
      · rw [(tk_sgn h1 hl hd).2] at h
        by_cases q : isSg (z.2 s)
        · rw [pif_1 q] at h; omega
        · rw [pif_0 q] at h; omega
  · intro h; exact (tk_end h).2
theorem tkd_le {z : mZ} {s : Nat} : tkd z s ≤ 4 := by
  by_cases h1 : s < z.1
  · by_cases hl : isLt (z.2 s)
    · rw [(tk_let h1 hl).2]
      by_cases q : ru isLt z s - s ≤ 8
      · rw [pif_1 q]; omega
      · rw [pif_0 q]; omega
    · by_cases hd : isDg (z.2 s)
      · rw [(tk_dig h1 hl hd).2]
        by_cases q : ru isDg z s - s ≤ 4
        · rw [pif_1 q]; omega
        · rw [pif_0 q]; omega
      · rw [(tk_sgn h1 hl hd).2]
        by_cases q : isSg (z.2 s)
        · rw [pif_1 q]; omega
        · rw [pif_0 q]; omega
  · rw [(tk_end h1).2]; omega
theorem c_adv52 {z : mZ} (hz : okZ z) {s : Nat} {G : tH} (hs : s ≤ z.1) (hT : T4 G z) (h2 : gI G 802 0 = nI s) : ∃ G', V_X8_advance_52 G = some (none, G') ∧ TP G' z s ∧ tfr zTk G G' := by
  have hn := hz.1
  rw [e_X8_advance_52]
  dsimp only
  obtain ⟨G1, hG1⟩ : ∃ G1, G1 = sI G 803 0 (gI G 802 0) := ⟨_, rfl⟩
  have f1 : tfr (fun f _ => f = 803) G G1 := by rw [hG1]; exact tfr.sI rfl
  have h3 : gI G1 803 0 = nI s := by rw [hG1, gI_eq]; exact h2
  have hT1 : T4 G1 z := hT.kept f1 (by omega) (by omega)
  have h21 : gI G1 802 0 = nI s := by rw [(f1 802 0 (by omega)).1]; exact h2
  have f1' : tfr zTk G G1 := f1.mono fun f o q => by unfold zTk; omega
  rw [← hG1, h21, hT1.1]
  by_cases h1 : s < z.1
  · have hx := okX_le (hz.2 s h1)
    have hv := hT1.2 s h1
    rw [tltP (by omega) (by omega) h1, ttin (by omega) (by omega), nI_clamp (by omega), hv]
    by_cases hl : isLt (z.2 s)
    · have hl2 := hl
      unfold isLt at hl2
      rw [tltM (by omega) (by omega) (by omega), ttin (by omega) (by omega), tltM (by omega) (by omega) (by omega), e_X8_scanWord]
      dsimp only
      have hT2 : T4 (sL G1 805 0 (lN 0)) z := ⟨hT1.1, hT1.2⟩
      obtain ⟨G2, e2, k1, k2, k3, k4⟩ := c_scanW hz _ s (sL G1 805 0 (lN 0)) rfl (Nat.le_refl _) hs hT2 h21 (by rw [gL_eq, gl_0]; rfl)
      obtain ⟨a1, a2⟩ := tk_let h1 hl
      have hge := ru_ge (P := isLt) (z := z) (p := s)
      have hle := ru_le (P := isLt) (z := z) (p := s) hs
      have h3' : gI G2 803 0 = nI s := by rw [(k4 803 0 (by omega)).1]; exact h3
      rw [e2, e_X8_scanWord_85, k2, h3', nI_sub hge]
      have fr2 : tfr zTk G G2 := f1'.tr ((tfr.sL (by unfold zTk; omega)).tr (k4.mono fun f o q => by unfold zTk; omega))
      by_cases q : ru isLt z s - s ≤ 8
      · rw [tltM (by omega) (by omega) q]
        rw [pif_1 q] at a2
        refine ⟨_, rfl, ⟨⟨by rw [gI_ne (by omega)]; exact k1.1, k1.2⟩, ?_, ?_, ?_, fun _ => ?_, fun w => by omega, fun w => by omega⟩, tfrI fr2 (by unfold zTk; omega)⟩
        · rw [gI_ne (by omega), a1]; exact k2
        · rw [gI_ne (by omega)]; exact h3'
        · rw [gI_eq, a2]
        · rw [gL_sI, a1]; exact k3
      · rw [tltP (by omega) (by omega) (by omega)]
        rw [pif_0 q] at a2
        refine ⟨_, rfl, ⟨⟨by rw [gI_ne (by omega)]; exact k1.1, k1.2⟩, ?_, ?_, ?_, fun w => by omega, fun w => by omega, fun w => by omega⟩, tfrI fr2 (by unfold zTk; omega)⟩
        · rw [gI_ne (by omega), a1]; exact k2
        · rw [gI_ne (by omega)]; exact h3'
        · rw [gI_eq, a2]
    · have e114 : ∃ G', V_X8_advance_114 G1 = some (none, G') ∧ TP G' z s ∧ tfr zTk G G' := by
        rw [e_X8_advance_114, h21, ttin (by omega) (by omega), nI_clamp (by omega), hv]
        by_cases hd : isDg (z.2 s)
        · have hd2 := hd
          unfold isDg at hd2
          rw [tltM (by omega) (by omega) (by omega), ttin (by omega) (by omega), tltM (by omega) (by omega) (by omega), e_X8_scanNumber]
          dsimp only
          have hT2 : T4 (sI G1 806 0 (nI 0)) z := ⟨by rw [gI_ne (by omega)]; exact hT1.1, hT1.2⟩
          obtain ⟨G2, e2, k1, k2, k3, k4⟩ := c_scanN hz _ s (sI G1 806 0 (nI 0)) rfl (Nat.le_refl _) hs hT2 (by rw [gI_ne (by omega)]; exact h21) (by rw [gI_eq, gl_0]; rfl)
          obtain ⟨a1, a2⟩ := tk_dig h1 hl hd
          have hge := ru_ge (P := isDg) (z := z) (p := s)
          have hle := ru_le (P := isDg) (z := z) (p := s) hs
          have h3' : gI G2 803 0 = nI s := by rw [(k4 803 0 (by omega)).1, gI_ne (by omega)]; exact h3
          rw [e2, e_X8_scanNumber_81, k2, h3', nI_sub hge]
          have fr2 : tfr zTk G G2 := f1'.tr ((tfr.sI (by unfold zTk; omega)).tr (k4.mono fun f o q => by unfold zTk; omega))
          by_cases q : ru isDg z s - s ≤ 4
          · rw [tltM (by omega) (by omega) q]
            rw [pif_1 q] at a2
            refine ⟨_, rfl, ⟨⟨by rw [gI_ne (by omega)]; exact k1.1, k1.2⟩, ?_, ?_, ?_, fun w => by omega, fun _ => ?_, fun w => by omega⟩, tfrI fr2 (by unfold zTk; omega)⟩
            · rw [gI_ne (by omega), a1]; exact k2
            · rw [gI_ne (by omega)]; exact h3'
            · rw [gI_eq, a2]
            · rw [gI_ne (by omega), a1]; exact k3
          · rw [tltP (by omega) (by omega) (by omega)]
            rw [pif_0 q] at a2
            refine ⟨_, rfl, ⟨⟨by rw [gI_ne (by omega)]; exact k1.1, k1.2⟩, ?_, ?_, ?_, fun w => by omega, fun w => by omega, fun w => by omega⟩, tfrI fr2 (by unfold zTk; omega)⟩
            · rw [gI_ne (by omega), a1]; exact k2
            · rw [gI_ne (by omega)]; exact h3'
            · rw [gI_eq, a2]
        · obtain ⟨a1, a2⟩ := tk_sgn h1 hl hd
          have e149 : ∃ G', V_X8_advance_149 G1 = some (none, G') ∧ TP G' z s ∧ tfr zTk G G' := by
            rw [e_X8_advance_149, h21, ttin (by omega) (by omega), nI_clamp (by omega), hv, tif_pos (char_ok _ (by omega))]
            dsimp only
            rw [gI_eq]
            obtain ⟨r, e, hr⟩ := v_signs hx (G := sI G1 807 0 (nI (z.2 s)))
            rw [e, tbI_v]
            have fr2 : tfr zTk G (sI G1 807 0 (nI (z.2 s))) := tfrI f1' (by unfold zTk; omega)
            by_cases q : isSg (z.2 s)
            · rw [tif_neg (fun w => (hr.mp w) q)]
              rw [pif_1 q] at a2
              refine ⟨_, rfl, ⟨⟨?_, hT1.2⟩, ?_, ?_, ?_, fun w => by omega, fun w => by omega, fun _ => ?_⟩, tfrI (tfrI fr2 (by unfold zTk; omega)) (by unfold zTk; omega)⟩
              · simp (disch := omega) only [gI_ne]; exact hT1.1
              · rw [gI_eq]; simp (disch := omega) only [gI_ne]; rw [h21, a1, nI_add]
              · simp (disch := omega) only [gI_ne]; exact h3
              · rw [gI_ne (by omega), gI_eq, a2]
              · simp (disch := omega) only [gI_ne, gI_eq]
            · rw [tif_pos (hr.mpr q)]
              rw [pif_0 q] at a2
              refine ⟨_, rfl, ⟨⟨?_, hT1.2⟩, ?_, ?_, ?_, fun w => by omega, fun w => by omega, fun w => by omega⟩, tfrI (tfrI fr2 (by unfold zTk; omega)) (by unfold zTk; omega)⟩
              · simp (disch := omega) only [gI_ne]; exact hT1.1
              · rw [gI_eq]; simp (disch := omega) only [gI_ne]; rw [h21, a1, nI_add]
              · simp (disch := omega) only [gI_ne]; exact h3
              · rw [gI_ne (by omega), gI_eq, a2]
          rw [tltN (by omega) (by omega)]
          by_cases q : z.2 s < 48
          · rw [if_pos q]; exact e149
          · rw [if_neg q, ttin (by omega) (by omega), tltP (by omega) (by omega) (by unfold isDg at hd; omega)]; exact e149
      rw [tltN (by omega) (by omega)]
      by_cases q : z.2 s < 97
      · rw [if_pos q]; exact e114
      · rw [if_neg q, ttin (by omega) (by omega), tltP (by omega) (by omega) (by unfold isLt at hl; omega)]; exact e114
  · obtain ⟨a1, a2⟩ := tk_end h1
    rw [tltM (by omega) (by omega) (by omega)]
    refine ⟨_, rfl, ⟨⟨by rw [gI_ne (by omega)]; exact hT1.1, hT1.2⟩, ?_, ?_, ?_, fun w => by omega, fun w => by omega, fun w => by omega⟩, tfrI f1' (by unfold zTk; omega)⟩
    · rw [gI_ne (by omega), a1]; exact h21
    · rw [gI_ne (by omega)]; exact h3
    · rw [gI_eq, a2]
theorem c_advp {z : mZ} (hz : okZ z) {p : Nat} {G : tH} (hp : p ≤ z.1) (hT : T4 G z) (h2 : gI G 802 0 = nI p) : ∃ G', V_X8_advance G = some (none, G') ∧ TP G' z (ru isB z p) ∧ tfr zTk G G' := by
  obtain ⟨G1, e1, k1, k2, k3⟩ := c_skip hz _ p G rfl hp hT h2
  obtain ⟨G2, e2, k4, k5⟩ := c_adv52 hz (ru_le hp) k1 k2
  exact ⟨G2, by rw [e_X8_advance, e1, e2], k4, k3.tr k5⟩
/-! the sequence of tokens -/
noncomputable def tps (z : mZ) : Nat → Nat
  | 0 => 0
  | k + 1 => tke z (ru isB z (tps z k))
noncomputable def tst (z : mZ) (k : Nat) : Nat := ru isB z (tps z k)
noncomputable def kd (z : mZ) (k : Nat) : Nat := tkd z (tst z k)
noncomputable def wl (z : mZ) (k : Nat) : List Nat := gl 96 z (tst z k) (tke z (tst z k))
noncomputable def nv (z : mZ) (k : Nat) : Nat := wcode 10 (gl 48 z (tst z k) (tke z (tst z k)))
noncomputable def ch (z : mZ) (k : Nat) : Nat := z.2 (tst z k)
theorem tps_s {z : mZ} {k : Nat} : tps z (k + 1) = tke z (tst z k) := rfl
theorem tps_le {z : mZ} : ∀ k, tps z k ≤ z.1
  | 0 => Nat.zero_le _
  | k + 1 => tke_le (ru_le (tps_le k))
theorem tst_le {z : mZ} {k : Nat} : tst z k ≤ z.1 := ru_le (tps_le k)
/-- the class stands at token k -/
def CT (G : tH) (z : mZ) (k : Nat) : Prop := TP G z (tst z k)
theorem c_adv {z : mZ} (hz : okZ z) {k : Nat} {G : tH} (h : CT G z k) : ∃ G', V_X8_advance G = some (none, G') ∧ CT G' z (k + 1) ∧ tfr zTk G G' := c_advp hz (tps_le (k + 1)) h.1 h.2.1
/-- the reference has token k -/
def RTk (G : tH) (z : mZ) (k : Nat) : Prop := gA G 1104 0 k = nI (kd z k) ∧ gA G 1105 0 k = nI (tst z k) ∧ (kd z k = 1 → gB G 1106 0 k = lN (wcode 37 (wl z k))) ∧ (kd z k = 2 → gB G 1106 0 k = lN (nv z k)) ∧ (kd z k = 3 → gB G 1106 0 k = lN (ch z k))
def S3 (G : tH) (z : mZ) : Prop := gI G 1103 0 = nI z.1 ∧ ∀ i, i < z.1 → gA G 1101 0 i = nI (z.2 i)
theorem r_let1 {x : Nat} {G : tH} (h : isLt x) : V_X11_isLetter (nI x) G = some (some (vI (nI 1)), G) := by
  unfold isLt at h
  rw [e_X11_isLetter, tltM (by omega) (by omega) (by omega), tltM (by omega) (by omega) (by omega), tz1]
theorem r_let0 {x : Nat} {G : tH} (hx : x ≤ 126) (h : ¬ isLt x) : V_X11_isLetter (nI x) G = some (some (vI (nI 0)), G) := by
  unfold isLt at h
  rw [e_X11_isLetter, tltN (by omega) (by omega)]
  by_cases q : x < 97
  · rw [if_pos q, tz0]
  · rw [if_neg q, tltP (by omega) (by omega) (by omega), tz0]
theorem r_dig1 {x : Nat} {G : tH} (h : isDg x) : V_X11_isDigit (nI x) G = some (some (vI (nI 1)), G) := by
  unfold isDg at h
  rw [e_X11_isDigit, tltM (by omega) (by omega) (by omega), tltM (by omega) (by omega) (by omega), tz1]
theorem r_dig0 {x : Nat} {G : tH} (hx : x ≤ 126) (h : ¬ isDg x) : V_X11_isDigit (nI x) G = some (some (vI (nI 0)), G) := by
  unfold isDg at h
  rw [e_X11_isDigit, tltN (by omega) (by omega)]
  by_cases q : x < 48
  · rw [if_pos q, tz0]
  · rw [if_neg q, tltP (by omega) (by omega) (by omega), tz0]
theorem tif_T {a b : Option tRes} : tif True a b = a := tif_pos trivial
theorem r_sgn1 {x : Nat} {G : tH} (h : isSg x) : V_X11_isSignOf (nI x) G = some (some (vI (nI 1)), G) := by
  unfold isSg at h
  rw [e_X11_isSignOf]
  rcases h with h | h | h | h | h | h | h | h <;> subst h <;> simp (disch := omega) only [teqM, tif_T, tz1]
theorem r_sgn0 {x : Nat} {G : tH} (hx : x ≤ 126) (h : ¬ isSg x) : V_X11_isSignOf (nI x) G = some (some (vI (nI 0)), G) := by
  unfold isSg at h
  rw [e_X11_isSignOf]
  simp (disch := omega) only [teqM, tz0]
theorem r_rank {x : Nat} {G : tH} (h : isLt x) : V_X11_rank (nI x) G = some (some (vI (nI (x - 96))), G) := by
  rw [e_X11_rank, r_let1 h, tbI_v, tn1, nI_sub (by unfold isLt at h; omega)]
theorem r_runW {z : mZ} (hz : okZ z) {s k : Nat} {G : tH} (hS : S3 G z) : ∀ m p, z.1 - p = m → s ≤ p → p ≤ z.1 → V_X11_cutAll_70 (nI k) (nI p) (nI s) (lN (wcode 37 (gl 96 z s (min p (s + 8))))) G = V_X11_cutAll_129 (nI k) (nI (ru isLt z p)) (nI s) (lN (wcode 37 (gl 96 z s (min (ru isLt z p) (s + 8))))) G := by
  intro m
  induction m with
  | zero =>
    intro p h hsp hp
    have hn := hz.1
    rw [e_X11_cutAll_70, hS.1, tltM (by omega) (by omega) (by omega), ru_0 (fun q => by omega)]
  | succ m ih =>
    intro p h hsp hp
    have hn := hz.1
    have hx := okX_le (hz.2 p (by omega))
    rw [e_X11_cutAll_70, hS.1, tltP (by omega) (by omega) (by omega), ttin (by omega) (by omega), nI_clamp (by omega), hS.2 p (by omega)]
    by_cases hb : isLt (z.2 p)
    · rw [r_let1 hb, tbI_v, tn1, nI_sub hsp, tltN (by omega) (by omega), ru_1 (by omega) hb, ← ih (p + 1) (by omega) (by omega) (by omega), nI_add]
      by_cases q : p - s < 8
      · rw [if_pos q, ttin (by omega) (by omega), hS.2 p (by omega), r_rank hb, tbI_v, nI_l (by unfold isLt at hb; omega), lN_mul, lN_add, show min p (s + 8) = p by omega, show min (p + 1) (s + 8) = p + 1 by omega, gl_s hsp, wc_s]
      · rw [if_neg q, show min p (s + 8) = s + 8 by omega, show min (p + 1) (s + 8) = s + 8 by omega]
    · rw [r_let0 hx hb, tbI_v, tn0, ru_0 (fun _ => hb)]
theorem r_runN {z : mZ} (hz : okZ z) {s k : Nat} {G : tH} (hS : S3 G z) : ∀ m p, z.1 - p = m → s ≤ p → p ≤ z.1 → V_X11_cutAll_159 (nI k) (nI p) (nI s) (lN (wcode 10 (gl 48 z s (min p (s + 4))))) G = V_X11_cutAll_218 (nI k) (nI (ru isDg z p)) (nI s) (lN (wcode 10 (gl 48 z s (min (ru isDg z p) (s + 4))))) G := by
  intro m
  induction m with
  | zero =>
    intro p h hsp hp
    have hn := hz.1
    rw [e_X11_cutAll_159, hS.1, tltM (by omega) (by omega) (by omega), ru_0 (fun q => by omega)]
  | succ m ih =>
    intro p h hsp hp
    have hn := hz.1
    have hx := okX_le (hz.2 p (by omega))
    rw [e_X11_cutAll_159, hS.1, tltP (by omega) (by omega) (by omega), ttin (by omega) (by omega), nI_clamp (by omega), hS.2 p (by omega)]
    by_cases hb : isDg (z.2 p)
    · have hb2 := hb
      unfold isDg at hb2
      rw [r_dig1 hb, tbI_v, tn1, nI_sub hsp, tltN (by omega) (by omega), ru_1 (by omega) hb, ← ih (p + 1) (by omega) (by omega) (by omega), nI_add]
      by_cases q : p - s < 4
      · rw [if_pos q, ttin (by omega) (by omega), hS.2 p (by omega), nI_l (by omega), lN_mul, lN_add, lN_sub (by omega), show min p (s + 4) = p by omega, show min (p + 1) (s + 4) = p + 1 by omega, gl_s hsp, wc_s, show 10 * wcode 10 (gl 48 z s p) + z.2 p - 48 = 10 * wcode 10 (gl 48 z s p) + (z.2 p - 48) by omega]
      · rw [if_neg q, show min p (s + 4) = s + 4 by omega, show min (p + 1) (s + 4) = s + 4 by omega]
    · rw [r_dig0 hx hb, tbI_v, tn0, ru_0 (fun _ => hb)]
