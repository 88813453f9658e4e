/-! PURE: the reference: its province, its states, its small methods -/
def rP (G : tH) (pr : mP) : Prop := gA G 1110 0 0 = nI (nT pr) ∧ gA G 1110 0 1 = nI (nC pr) ∧ gA G 1110 0 2 = nI (nH pr) ∧ gA G 1110 0 3 = nI (nJ pr) ∧ gA G 1110 0 4 = nI (pr 8 0) ∧ gA G 1110 0 5 = nI (pr 8 1) ∧
  (∀ t, t < nT pr → gA G 1110 0 (8 + 2 * t) = nI (pr 0 t) ∧ gA G 1110 0 (8 + 2 * t + 1) = nI (pr 1 t)) ∧ (∀ c, c < nC pr → gA G 1110 0 (20 + 2 * c) = nI (pr 2 c) ∧ gA G 1110 0 (20 + 2 * c + 1) = nI (pr 3 c)) ∧ (∀ h, h < nH pr → gA G 1110 0 (30 + 2 * h) = nI (pr 4 h) ∧ gA G 1110 0 (30 + 2 * h + 1) = nI (pr 5 h)) ∧ ∀ j, j < nJ pr → gA G 1110 0 (40 + 2 * j) = nI (pr 6 j) ∧ gA G 1110 0 (40 + 2 * j + 1) = nI (pr 7 j)
def rS (a : Nat → Int32) (b : Nat) (pr : mP) (sg : mS) : Prop := a b = hI (sg.1 10 0) ∧ a (b + 1) = nI (sg.1 10 1) ∧ a (b + 2) = sg.2 10 ∧ a (b + 3) = sg.2 11 ∧ a (b + 4) = nI (sg.1 10 2) ∧
  (∀ t, t < nT pr → a (b + 5 + t) = nI (sg.1 1 t) ∧ a (b + 11 + t) = nI (sg.1 2 t) ∧ a (b + 17 + t) = nI (sg.1 3 t) ∧ a (b + 23 + t) = nI (sg.1 4 t) ∧ a (b + 29 + t) = nI (sg.1 5 t) ∧ a (b + 35 + t) = nI (sg.1 8 t)) ∧
  (∀ c, c < nC pr → a (b + 41 + c) = sg.2 c ∧ a (b + 46 + c) = nI (sg.1 7 c)) ∧ ∀ j, j < nJ pr → a (b + 51 + j) = nI (sg.1 9 j)
/-- a law of the reference: where its codes begin, and what it is worth -/
def rL (G : tH) (i : Nat) (f : Int32 → Int32 → Int32 → Int32) : Prop := (gA G 1110 0 (6 + i) < 0 ∧ ∀ w c d, f w c d = if i = 0 then nI 20 else d) ∨
  (¬ gA G 1110 0 (6 + i) < 0 ∧ ∀ G', (∀ i, i < 1100 → gA G' 1111 0 i = gA G 1111 0 i) → (∀ i, i < 1100 → gA G' 1112 0 i = gA G 1112 0 i) → ∃ G'', V_X11_worthAt (gA G 1110 0 (6 + i)) G' = some (some (vI (f (gA G' 1122 0 0) (gA G' 1122 0 1) (gA G' 1122 0 2))), G'') ∧ tfr (fun f _ => f = 1123) G' G'')
def zR : Nat → Nat → Prop := fun f _ => f = 1122 ∨ f = 1123 ∨ f = 1124
def rD (G G' : tH) (b : Nat) (pr : mP) (sg : mS) : Prop := rS (gA G' 1124 0) b pr sg ∧ (∀ i, i < b ∨ b + 56 ≤ i → gA G' 1124 0 i = gA G 1124 0 i) ∧ tfr zR G G'
theorem rS.ext {a a' : Nat → Int32} {b : Nat} {pr : mP} {sg : mS} (ho : okP pr) (h : rS a b pr sg) (he : ∀ i, b ≤ i → i < b + 56 → a' i = a i) : rS a' b pr sg := by
  obtain ⟨h1, h2, h3, h4, h5, h6, h7, h8⟩ := h
  have hT := ho.1
  have hC := ho.2.1
  have hJ := ho.2.2.2.1
  refine ⟨?_, ?_, ?_, ?_, ?_, fun t ht => ?_, fun c hc => ?_, fun j hj => ?_⟩
  · rw [he _ (by omega) (by omega)]; exact h1
  · rw [he _ (by omega) (by omega)]; exact h2
  · rw [he _ (by omega) (by omega)]; exact h3
  · rw [he _ (by omega) (by omega)]; exact h4
  · rw [he _ (by omega) (by omega)]; exact h5
  · rw [he _ (by omega) (by omega), he _ (by omega) (by omega), he _ (by omega) (by omega), he _ (by omega) (by omega), he _ (by omega) (by omega), he _ (by omega) (by omega)]; exact h6 t ht
  · rw [he _ (by omega) (by omega), he _ (by omega) (by omega)]; exact h7 c hc
  · rw [he _ (by omega) (by omega)]; exact h8 j hj
theorem rP.kept {G G' : tH} {pr : mP} {S : Nat → Nat → Prop} (h : rP G pr) (hf : tfr S G G') (hS : ¬ S 1110 0) : rP G' pr := by
  have e := (hf 1110 0 hS).2.2.2.1
  unfold rP
  rw [e]
  exact h
theorem rL.kept {G G' : tH} {i : Nat} {f : Int32 → Int32 → Int32 → Int32} {S : Nat → Nat → Prop} (h : rL G i f) (hf : tfr S G G') (h0 : ¬ S 1110 0) (h1 : ¬ S 1111 0) (h2 : ¬ S 1112 0) : rL G' i f := by
  unfold rL
  rw [(hf 1110 0 h0).2.2.2.1, (hf 1111 0 h1).2.2.2.1, (hf 1112 0 h2).2.2.2.1]
  exact h
theorem sA_sA {G : tH} {c o : Nat} {f g : Nat → Int32} : sA (sA G c o f) c o g = sA G c o g := by
  refine congrArg (fun z : Nat → Nat → Nat → Int32 => ((G.fst, G.snd.fst, G.snd.snd.fst, z, G.snd.snd.snd.snd) : tH)) (funext fun c' => funext fun o' => ?_)
  show (if c' = c then (if o' = o then g else (if c' = c then (if o' = o then f else G.snd.snd.snd.fst c' o') else G.snd.snd.snd.fst c' o')) else (if c' = c then (if o' = o then f else G.snd.snd.snd.fst c' o') else G.snd.snd.snd.fst c' o')) = (if c' = c then (if o' = o then g else G.snd.snd.snd.fst c' o') else G.snd.snd.snd.fst c' o')
  by_cases h1 : c' = c
  · by_cases h2 : o' = o
    · simp only [if_pos h1, if_pos h2]
    · simp only [if_pos h1, if_neg h2]
  · simp only [if_neg h1]
noncomputable def bN (c : Prop) : Int32 := @ite _ c (Classical.propDecidable c) (nI 1) (nI 0)
theorem bN_1 {c : Prop} (h : c) : bN c = nI 1 := if_pos h
theorem bN_0 {c : Prop} (h : ¬ c) : bN c = nI 0 := if_neg h
theorem tl0P {a : Nat} {x y : Option tRes} (ha : a < 2 ^ 31) (h : 0 < a) : tif (0 < nI a) x y = x := by rw [← nI_0]; exact tltP (by omega) ha h
theorem tl0M {a : Nat} {x y : Option tRes} (h : a = 0) : tif (0 < nI a) x y = y := by rw [← nI_0]; exact tltM (by omega) (by omega) (by omega)
theorem cl_sub {a b : Nat} (ha : a < 2 ^ 30) (hb : b < 2 ^ 30) : cl (nI a - nI b) = min 9999 (a - b) := by
  by_cases h : b ≤ a
  · rw [nI_sub h, cl_nI (by omega)]
  · have := pk_sneg hb (show a < b by omega)
    unfold cl
    rw [if_pos this]
    omega

theorem r_towns {G : tH} {pr : mP} (h : rP G pr) : V_X11_towns G = some (some (vI (nI (nT pr))), G) := by rw [e_X11_towns, ttin (by omega) (by omega), nI_clamp (by omega), h.1]
theorem r_companies {G : tH} {pr : mP} (h : rP G pr) : V_X11_companies G = some (some (vI (nI (nC pr))), G) := by rw [e_X11_companies, ttin (by omega) (by omega), nI_clamp (by omega), h.2.1]
theorem r_harvests {G : tH} {pr : mP} (h : rP G pr) : V_X11_harvests G = some (some (vI (nI (nH pr))), G) := by rw [e_X11_harvests, ttin (by omega) (by omega), nI_clamp (by omega), h.2.2.1]
theorem r_jurors {G : tH} {pr : mP} (h : rP G pr) : V_X11_jurors G = some (some (vI (nI (nJ pr))), G) := by rw [e_X11_jurors, ttin (by omega) (by omega), nI_clamp (by omega), h.2.2.2.1]
theorem r_isTown {G : tH} {pr : mP} (x : Int32) (h : rP G pr) : V_X11_isTown x G = some (some (vI (if ¬ x < 0 ∧ x < nI (nT pr) then nI 1 else nI 0)), G) := by
  rw [e_X11_isTown, r_towns h, tbI_v]
  simp only [tz0, tz1]
  simp only [tif_ite]
  by_cases h1 : x < 0
  · simp [h1]
  · by_cases h2 : x < nI (nT pr)
    · simp [h1, h2]
    · simp [h1, h2]
theorem r_isCompany {G : tH} {pr : mP} (x : Int32) (h : rP G pr) : V_X11_isCompany x G = some (some (vI (if ¬ x < 0 ∧ x < nI (nC pr) then nI 1 else nI 0)), G) := by
  rw [e_X11_isCompany, r_companies h, tbI_v]
  simp only [tz0, tz1]
  simp only [tif_ite]
  by_cases h1 : x < 0
  · simp [h1]
  · by_cases h2 : x < nI (nC pr)
    · simp [h1, h2]
    · simp [h1, h2]
theorem r_isHarvest {G : tH} {pr : mP} (x : Int32) (h : rP G pr) : V_X11_isHarvest x G = some (some (vI (if ¬ x < 0 ∧ x < nI (nH pr) then nI 1 else nI 0)), G) := by
  rw [e_X11_isHarvest, r_harvests h, tbI_v]
  simp only [tz0, tz1]
  simp only [tif_ite]
  by_cases h1 : x < 0
  · simp [h1]
  · by_cases h2 : x < nI (nH pr)
    · simp [h1, h2]
    · simp [h1, h2]
theorem r_isJuror {G : tH} {pr : mP} (x : Int32) (h : rP G pr) : V_X11_isJuror x G = some (some (vI (if ¬ x < 0 ∧ x < nI (nJ pr) then nI 1 else nI 0)), G) := by
  rw [e_X11_isJuror, r_jurors h, tbI_v]
  simp only [tz0, tz1]
  simp only [tif_ite]
  by_cases h1 : x < 0
  · simp [h1]
  · by_cases h2 : x < nI (nJ pr)
    · simp [h1, h2]
    · simp [h1, h2]
theorem r_townOf0 {G : tH} {pr : mP} {t : Nat} (h : rP G pr) (ho : okP pr) (ht : t < nT pr) : V_X11_townOf (nI t) (nI 0) G = some (some (vI (nI (pr 0 t))), G) := by
  have := ho.1
  rw [e_X11_townOf, pk_mul, nI_add, nI_add, ttin (by omega) (by omega), nI_clamp (by omega), Nat.add_zero, (h.2.2.2.2.2.2.1 t ht).1]
theorem r_townOf1 {G : tH} {pr : mP} {t : Nat} (h : rP G pr) (ho : okP pr) (ht : t < nT pr) : V_X11_townOf (nI t) (nI 1) G = some (some (vI (nI (pr 1 t))), G) := by
  have := ho.1
  rw [e_X11_townOf, pk_mul, nI_add, nI_add, ttin (by omega) (by omega), nI_clamp (by omega), (h.2.2.2.2.2.2.1 t ht).2]
theorem r_sortOf {G : tH} {pr : mP} {t : Nat} (h : rP G pr) (ho : okP pr) (ht : t < nC pr) : V_X11_sortOf (nI t) G = some (some (vI (nI (pr 2 t))), G) := by
  have := ho.2.1
  rw [e_X11_sortOf, pk_mul, nI_add, ttin (by omega) (by omega), nI_clamp (by omega), (h.2.2.2.2.2.2.2.1 t ht).1]
theorem r_harvestOf0 {G : tH} {pr : mP} {t : Nat} (h : rP G pr) (ho : okP pr) (ht : t < nH pr) : V_X11_harvestOf (nI t) (nI 0) G = some (some (vI (nI (pr 4 t))), G) := by
  have := ho.2.2.1
  rw [e_X11_harvestOf, pk_mul, nI_add, nI_add, ttin (by omega) (by omega), nI_clamp (by omega), Nat.add_zero, (h.2.2.2.2.2.2.2.2.1 t ht).1]
theorem r_harvestOf1 {G : tH} {pr : mP} {t : Nat} (h : rP G pr) (ho : okP pr) (ht : t < nH pr) : V_X11_harvestOf (nI t) (nI 1) G = some (some (vI (nI (pr 5 t))), G) := by
  have := ho.2.2.1
  rw [e_X11_harvestOf, pk_mul, nI_add, nI_add, ttin (by omega) (by omega), nI_clamp (by omega), (h.2.2.2.2.2.2.2.2.1 t ht).2]
theorem r_isHeld {G : tH} {b : Nat} {pr : mP} {sg : mS} (hS : rS (gA G 1124 0) b pr sg) (hb : b + 61 ≤ 1403) (ho : okP pr) (hs : okS pr sg) : V_X11_isHeld (nI b) G = some (some (vI (if sg.1 10 0 = 0 then nI 0 else nI 1)), G) := by
  have h1 := hs.2.2.2.2.1
  have h2 := ho.2.1
  rw [e_X11_isHeld, nI_add, Nat.add_zero, ttin (by omega) (by omega), nI_clamp (by omega), hS.1]
  simp only [tz0, tz1]
  by_cases h0 : sg.1 10 0 = 0
  · rw [h0, if_pos rfl]
    exact tif_pos (by decide +kernel)
  · rw [hI_pos h0, tlt0 (by omega), if_neg h0]
theorem r_atMost (v : Int32) (G : tH) : V_X11_atMost v G = some (some (vI (nI (cl v))), G) := by
  rw [e_X11_atMost, cl_spec]
  simp only [tif_ite]
  split
  · rfl
  · split <;> rfl
theorem r_cropOf {G : tH} {t m h : Nat} {pr : mP} (hP : rP G pr) (ho : okP pr) (ht : t < nT pr) (hm : m ≤ 9999) (hh : h < nH pr) : V_X11_cropOf (nI t) (nI m) (nI h) G = some (some (vI (nI (crN pr t m h))), G) := by
  have hk := (ho.2.2.2.2.2.2.1 t ht).1
  have hg := (ho.2.2.2.2.2.2.2.2.1 h hh).1
  have hmm := Nat.mul_le_mul hm hg
  rw [e_X11_cropOf, r_harvestOf0 hP ho hh, tbI_v, tn100, r_townOf0 hP ho ht, tbI_v, pk_mul, pk_div (by omega) (by omega) (by omega), e_X11_cropOf_27, e_X11_cropOf_27, nI_add, nI_add, r_atMost, r_atMost, tbI_v, tbI_v, cl_nI (by omega), cl_nI (by omega), teqN (by omega) (by omega)]
  unfold crN
  by_cases h3 : pr 0 t = 3
  · simp only [if_pos h3]
  · simp only [if_neg h3]
theorem r_titheOf {G : tH} {g : Nat} {pr : mP} (hP : rP G pr) (ho : okP pr) (hg : g ≤ 9999) : V_X11_titheOf (nI g) G = some (some (vI (nI (tthN pr g))), G) := by
  have := Nat.mul_le_mul ho.2.2.2.2.1 hg
  rw [e_X11_titheOf, ttin (by omega) (by omega), tn100, nI_clamp (by omega), hP.2.2.2.2.1, pk_mul, pk_div (by omega) (by omega) (by omega)]
  unfold tthN
  rw [Nat.mul_comm]
theorem r_lostBy {G : tH} {t a : Nat} {pr : mP} (hP : rP G pr) (ho : okP pr) (ht : t < nT pr) (ha : a ≤ 9999) : V_X11_lostBy (nI t) (nI a) G = some (some (vI (nI (hmN pr t a))), G) := by
  have hk := (ho.2.2.2.2.2.2.1 t ht).1
  rw [e_X11_lostBy, r_townOf0 hP ho ht, tbI_v, tn4, tn2, pk_div (by omega) (by omega) (by omega), pk_div (by omega) (by omega) (by omega), teqN (by omega) (by omega), teqN (by omega) (by omega)]
  unfold hmN
  by_cases h2 : pr 0 t = 2
  · simp only [if_pos h2]
  · by_cases h1 : pr 0 t = 1
    · simp only [if_neg h2, if_pos h1]
    · simp only [if_neg h2, if_neg h1]
theorem r_over {G : tH} {a b : Nat} (ha : a < 2 ^ 30) (hb : b < 2 ^ 30) : V_X11_over (nI a) (nI b) G = some (some (vI (nI (a - b))), G) := by
  rw [e_X11_over, tltN (by omega) (by omega)]
  by_cases h : b < a
  · rw [if_pos h, nI_sub (by omega)]
  · rw [if_neg h, show a - b = 0 by omega]
theorem hmN_le (pr : mP) (t a : Nat) : hmN pr t a ≤ a := by
  unfold hmN
  split
  · omega
  · split <;> omega

