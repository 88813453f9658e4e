/-! PURE: the model: a province pr (kind of datum, number), a state sg (numbers; coins, greed, paid) -/
abbrev mP : Type := Nat → Nat → Nat
abbrev mS : Type := (Nat → Nat → Nat) × (Nat → Int32)
abbrev mL : Type := Nat → Int32 → Int32 → Int32 → Int32
def nT (pr : mP) : Nat := pr 8 2
def nC (pr : mP) : Nat := pr 8 3
def nH (pr : mP) : Nat := pr 8 4
def nJ (pr : mP) : Nat := pr 8 5
def u1 (s : Nat → Nat → Nat) (k i v : Nat) : Nat → Nat → Nat := fun k' i' => if k' = k then (if i' = i then v else s k' i') else s k' i'
theorem u1_eq {s : Nat → Nat → Nat} {k i v : Nat} : u1 s k i v k i = v := by unfold u1; rw [if_pos rfl, if_pos rfl]
theorem u1_nk {s : Nat → Nat → Nat} {k i v k' i' : Nat} (h : k' ≠ k) : u1 s k i v k' i' = s k' i' := by unfold u1; rw [if_neg h]
theorem u1_ni {s : Nat → Nat → Nat} {k i v k' i' : Nat} (h : i' ≠ i) : u1 s k i v k' i' = s k' i' := by unfold u1; split <;> first | rfl | (rw [if_neg h])
def okP (pr : mP) : Prop := nT pr ≤ 6 ∧ nC pr ≤ 5 ∧ nH pr ≤ 5 ∧ nJ pr ≤ 5 ∧ pr 8 0 ≤ 100 ∧ pr 8 1 ≤ 999 ∧ (∀ t, t < nT pr → pr 0 t ≤ 3 ∧ pr 1 t ≤ 999) ∧ (∀ c, c < nC pr → pr 2 c ≤ 3 ∧ pr 3 c ≤ 9999) ∧ (∀ h, h < nH pr → pr 4 h ≤ 300 ∧ 1 ≤ pr 5 h ∧ pr 5 h ≤ 9) ∧ ∀ j, j < nJ pr → pr 6 j < nC pr ∧ pr 7 j ≤ 999
/-- the class' province -/
def cP (G : tH) (p : Nat) (pr : mP) : Prop := gI G 601 (4 * p + 0) = nI (nT pr) ∧ gI G 601 (4 * p + 1) = nI (nC pr) ∧ gI G 601 (4 * p + 2) = nI (nH pr) ∧ gI G 601 (4 * p + 3) = nI (nJ pr) ∧ gI G 512 p = nI (pr 8 0) ∧ gI G 513 p = nI (pr 8 1) ∧
  (∀ t, t < nT pr → gA G 504 p t = nI (pr 0 t) ∧ gA G 505 p t = nI (pr 1 t)) ∧ (∀ c, c < nC pr → gA G 506 p c = nI (pr 2 c) ∧ gA G 507 p c = nI (pr 3 c)) ∧ (∀ h, h < nH pr → gA G 508 p h = nI (pr 4 h) ∧ gA G 509 p h = nI (pr 5 h)) ∧ ∀ j, j < nJ pr → gA G 510 p j = nI (pr 6 j) ∧ gA G 511 p j = nI (pr 7 j)
/-- holder as an int -/
def hI (h : Nat) : Int32 := if h = 0 then -1 else nI (h - 1)
def okS (pr : mP) (sg : mS) : Prop := (∀ t, t < nT pr → sg.1 1 t ≤ 9999 ∧ sg.1 2 t + sg.1 4 t = sg.1 3 t ∧ sg.1 3 t ≤ 9999 ∧ sg.1 5 t ≤ 9999) ∧ (∀ c, c < nC pr → sg.1 7 c ≤ 9999) ∧ (∀ t, sg.1 8 t ≤ 1) ∧ (∀ j, sg.1 9 j ≤ 1) ∧ sg.1 10 0 ≤ nC pr ∧ sg.1 10 1 ≤ 5
/-- the class' state -/
def cS (G : tH) (o p : Nat) (pr : mP) (sg : mS) : Prop := gR G 700 o = p ∧ (∀ t, t < nT pr → gA G 701 o t = nI (sg.1 1 t) ∧ gA G 702 o t = nI (sg.1 2 t) ∧ gA G 703 o t = nI (sg.1 3 t) ∧ gA G 704 o t = nI (sg.1 4 t) ∧ gA G 705 o t = nI (sg.1 5 t)) ∧ (∀ c, c < nC pr → gA G 706 o c = sg.2 c ∧ gA G 707 o c = nI (sg.1 7 c)) ∧
  (∃ m, m < 64 ∧ gI G 708 o = nI m ∧ ∀ t, t < 6 → m / 2 ^ t % 2 = sg.1 8 t) ∧ (∃ m, m < 32 ∧ gI G 709 o = nI m ∧ ∀ j, j < 5 → m / 2 ^ j % 2 = sg.1 9 j) ∧ gI G 710 o = hI (sg.1 10 0) ∧ gI G 711 o = nI (sg.1 10 1) ∧ gI G 712 o = nI (sg.1 10 2) ∧ gI G 713 o = sg.2 10 ∧ gI G 714 o = sg.2 11
/-- what an act upon a state may change: it, and a law's stack -/
def zS (o : Nat) : Nat → Nat → Prop := fun f o' => (700 ≤ f ∧ f < 800 ∧ o' = o) ∨ f = 202
/-- what the laws are worth -/
def cL (G : tH) (q : Nat) (lw : Int32 → Int32 → Int32 → Int32) : Prop := ∀ G' : tH, gA G' 200 q = gA G 200 q → gI G' 201 q = gI G 201 q → ∀ w c d, ∃ G'', V_X2_valueOf q w c d G' = some (some (vI (lw w c d)), G'') ∧ tfr (fun f _ => f = 202) G' G''
theorem cP.kept {G G' : tH} {p : Nat} {pr : mP} {S : Nat → Nat → Prop} (h : cP G p pr) (hf : tfr S G G') (hS : ∀ f o, S f o → ¬ (500 ≤ f ∧ f < 700)) : cP G' p pr := by
  have hI : ∀ f o, 500 ≤ f → f < 700 → gI G' f o = gI G f o := fun f o h1 h2 => (hf f o fun z => hS f o z ⟨h1, h2⟩).1
  have hA : ∀ f o, 500 ≤ f → f < 700 → gA G' f o = gA G f o := fun f o h1 h2 => (hf f o fun z => hS f o z ⟨h1, h2⟩).2.2.2.1
  obtain ⟨a1, a2, a3, a4, a5, a6, a7, a8, a9, a10⟩ := h
  refine ⟨?_, ?_, ?_, ?_, ?_, ?_, ?_, ?_, ?_, ?_⟩
  · rw [hI _ _ (by omega) (by omega)]; exact a1
  · rw [hI _ _ (by omega) (by omega)]; exact a2
  · rw [hI _ _ (by omega) (by omega)]; exact a3
  · rw [hI _ _ (by omega) (by omega)]; exact a4
  · rw [hI _ _ (by omega) (by omega)]; exact a5
  · rw [hI _ _ (by omega) (by omega)]; exact a6
  · intro t ht; rw [hA _ _ (by omega) (by omega), hA _ _ (by omega) (by omega)]; exact a7 t ht
  · intro t ht; rw [hA _ _ (by omega) (by omega), hA _ _ (by omega) (by omega)]; exact a8 t ht
  · intro t ht; rw [hA _ _ (by omega) (by omega), hA _ _ (by omega) (by omega)]; exact a9 t ht
  · intro t ht; rw [hA _ _ (by omega) (by omega), hA _ _ (by omega) (by omega)]; exact a10 t ht
theorem cS.kept {G G' : tH} {o p : Nat} {pr : mP} {sg : mS} {S : Nat → Nat → Prop} (h : cS G o p pr sg) (hf : tfr S G G') (hS : ∀ f, 700 ≤ f → f < 800 → ¬ S f o) : cS G' o p pr sg := by
  have hI : ∀ f, 700 ≤ f → f < 800 → gI G' f o = gI G f o := fun f h1 h2 => (hf f o (hS f h1 h2)).1
  have hA : ∀ f, 700 ≤ f → f < 800 → gA G' f o = gA G f o := fun f h1 h2 => (hf f o (hS f h1 h2)).2.2.2.1
  obtain ⟨a1, a2, a3, a4, a5, a6, a7, a8, a9, a10⟩ := h
  refine ⟨?_, ?_, ?_, ?_, ?_, ?_, ?_, ?_, ?_, ?_⟩
  · rw [(hf 700 o (hS 700 (by omega) (by omega))).2.2.1]; exact a1
  · intro t ht; rw [hA _ (by omega) (by omega), hA _ (by omega) (by omega), hA _ (by omega) (by omega), hA _ (by omega) (by omega), hA _ (by omega) (by omega)]; exact a2 t ht
  · intro t ht; rw [hA _ (by omega) (by omega), hA _ (by omega) (by omega)]; exact a3 t ht
  · rw [hI _ (by omega) (by omega)]; exact a4
  · rw [hI _ (by omega) (by omega)]; exact a5
  · rw [hI _ (by omega) (by omega)]; exact a6
  · rw [hI _ (by omega) (by omega)]; exact a7
  · rw [hI _ (by omega) (by omega)]; exact a8
  · rw [hI _ (by omega) (by omega)]; exact a9
  · rw [hI _ (by omega) (by omega)]; exact a10
/-! small methods of the class -/
theorem v_has (r : Nat) (x : Int32) (G : tH) : V_X6_has r x G = some (some (vI (if ¬ x < 0 ∧ x < gI G 601 r then nI 1 else nI 0)), G) := by
  rw [e_X6_has]
  simp only [tz0, tz1]
  simp only [tif_ite]
  by_cases h1 : x < 0
  · simp [h1]
  · by_cases h2 : x < gI G 601 r
    · simp [h1, h2]
    · simp [h1, h2]
theorem has_cases {x : Int32} {n : Nat} (hn : n < 2 ^ 31) : (∃ k, k < n ∧ x = nI k ∧ (if ¬ x < 0 ∧ x < nI n then nI 1 else nI 0) = nI 1) ∨ ((¬ ∃ k, k < n ∧ x = nI k) ∧ (if ¬ x < 0 ∧ x < nI n then nI 1 else nI 0) = nI 0) := by
  rcases arg_cases x n hn with h | ⟨k, hk, rfl⟩
  · refine Or.inr ⟨?_, if_neg ?_⟩
    · rintro ⟨k, hk, rfl⟩
      rcases h with h | h
      · exact nI_pos (by omega) h
      · rw [nI_leI hn (by omega)] at h; omega
    · rintro ⟨h1, h2⟩
      rcases h with h | h
      · exact h1 h
      · exact absurd h2 (Int32.not_lt.mpr h)
  · exact Or.inl ⟨k, hk, rfl, if_pos ⟨nI_pos (by omega), (nI_ltI (by omega) hn).mpr hk⟩⟩
theorem bit6 : ∀ m, m < 64 → ∀ t, t < 6 → ((nI m >>> (nI t &&& 31)) &&& nI 1) = nI (m / 2 ^ t % 2) := by decide +kernel
theorem set6 : ∀ m, m < 64 → ∀ t, t < 6 → (nI m ||| (nI 1 <<< (nI t &&& 31))) = nI (m ||| 2 ^ t) ∧ (m ||| 2 ^ t) < 64 ∧ ∀ u, u < 6 → (m ||| 2 ^ t) / 2 ^ u % 2 = if u = t then 1 else m / 2 ^ u % 2 := by decide +kernel
theorem bit5 : ∀ m, m < 32 → ∀ t, t < 5 → ((nI m >>> (nI t &&& 31)) &&& nI 1) = nI (m / 2 ^ t % 2) := by decide +kernel
theorem set5 : ∀ m, m < 32 → ∀ t, t < 5 → (nI m ||| (nI 1 <<< (nI t &&& 31))) = nI (m ||| 2 ^ t) ∧ (m ||| 2 ^ t) < 32 ∧ ∀ u, u < 5 → (m ||| 2 ^ t) / 2 ^ u % 2 = if u = t then 1 else m / 2 ^ u % 2 := by decide +kernel
theorem hI_pos {h : Nat} (h0 : h ≠ 0) : hI h = nI (h - 1) := if_neg h0
theorem v_isHeld {G : tH} {o p : Nat} {pr : mP} {sg : mS} (hP : cP G p pr) (hS : cS G o p pr sg) (ho : okP pr) (hs : okS pr sg) : V_X7_isHeld o G = some (some (vI (if sg.1 10 0 = 0 then nI 0 else nI 1)), G) := by
  rw [e_X7_isHeld]
  simp only [tz0, tz1, hS.2.2.2.2.2.1, hS.1, hP.2.1]
  simp only [tif_ite]
  have h1 := hs.2.2.2.2.1
  have h2 := ho.2.1
  by_cases h0 : sg.1 10 0 = 0
  · rw [h0]
    rfl
  · rw [hI_pos h0, if_neg (nI_pos (by omega)), if_pos ((nI_ltI (by omega) (by omega)).mpr (by omega)), if_neg h0]
theorem v_isSpared {G : tH} {o p t : Nat} {pr : mP} {sg : mS} (hS : cS G o p pr sg) (hs : okS pr sg) (ht : t < 6) : V_X7_isSpared o (nI t) G = some (some (vI (nI (sg.1 8 t))), G) := by
  rw [e_X7_isSpared]
  obtain ⟨m, hm, e1, e2⟩ := hS.2.2.2.1
  have h1 := hs.2.2.1 t
  simp only [tz0, tz1, e1, bit6 m hm t ht, e2 t ht]
  simp only [tif_ite]
  rcases (show sg.1 8 t = 0 ∨ sg.1 8 t = 1 by omega) with h | h <;> rw [h] <;> rfl
theorem v_isBribed {G : tH} {o p t : Nat} {pr : mP} {sg : mS} (hS : cS G o p pr sg) (hs : okS pr sg) (ht : t < 5) : V_X7_isBribed o (nI t) G = some (some (vI (nI (sg.1 9 t))), G) := by
  rw [e_X7_isBribed]
  obtain ⟨m, hm, e1, e2⟩ := hS.2.2.2.2.1
  have h1 := hs.2.2.2.1 t
  simp only [tz0, tz1, e1, bit5 m hm t ht, e2 t ht]
  simp only [tif_ite]
  rcases (show sg.1 9 t = 0 ∨ sg.1 9 t = 1 by omega) with h | h <;> rw [h] <;> rfl
def tthN (pr : mP) (g : Nat) : Nat := g * pr 8 0 / 100
theorem tthN_le {pr : mP} (ho : okP pr) {g : Nat} (hg : g ≤ 9999) : tthN pr g ≤ 9999 := by
  unfold tthN
  have := Nat.mul_le_mul hg ho.2.2.2.2.1
  omega
theorem v_titheOf {G : tH} {p g : Nat} {pr : mP} (hP : cP G p pr) (ho : okP pr) (hg : g ≤ 9999) : V_X5_titheOf p (nI g) G = some (some (vI (nI (tthN pr g))), G) := by
  rw [e_X5_titheOf]
  have := Nat.mul_le_mul hg ho.2.2.2.2.1
  simp only [tn100, hP.2.2.2.2.1, pk_mul]
  rw [pk_div (by omega) (by omega) (by omega)]
  rfl
def mwN (m c : Nat) : Nat := min 9999 (m + c / 2)
theorem v_meansWith {G : tH} {p m c : Nat} (hm : m ≤ 9999) (hc : c ≤ 9999) : V_X5_meansWith p (nI m) (nI c) G = some (some (vI (nI (mwN m c))), G) := by
  rw [e_X5_meansWith]
  simp only [tn2]
  rw [pk_div (by omega) (by omega) (by omega), nI_add, nI_minc (by omega)]
  rfl
def crN (pr : mP) (t m h : Nat) : Nat := min 9999 (m * pr 4 h / 100 + if pr 0 t = 3 then 10 else 0)
theorem v_cropOf {G : tH} {p t m h : Nat} {pr : mP} (hP : cP G p pr) (ho : okP pr) (ht : t < nT pr) (hm : m ≤ 9999) (hh : h < nH pr) : V_X5_cropOf p (nI t) (nI m) (nI h) G = some (some (vI (nI (crN pr t m h))), G) := by
  rw [e_X5_cropOf]
  have h6 := ho.1
  have h5 := ho.2.2.1
  have hk := (ho.2.2.2.2.2.2.1 t ht).1
  have hg := (ho.2.2.2.2.2.2.2.2.1 h hh).1
  have hmm := Nat.mul_le_mul hm hg
  rw [ttin (by omega) (by omega), ttin (by omega) (by omega), ttin (by omega) (by omega)]
  rw [nI_clamp (by omega), nI_clamp (by omega), (hP.2.2.2.2.2.2.1 t ht).1, (hP.2.2.2.2.2.2.2.2.1 h hh).1]
  simp only [tn100, pk_mul]
  simp only [tif_ite]
  rw [pk_div (by omega) (by omega) (by omega), nI_add, nI_add, nI_minc (by omega), nI_minc (by omega), ieqN (by omega) (by omega)]
  unfold crN
  by_cases h3 : pr 0 t = 3
  · simp [h3]
  · simp [h3]
def hmN (pr : mP) (t a : Nat) : Nat := if pr 0 t = 2 then a else if pr 0 t = 1 then a / 4 else a / 2
theorem v_meansBehind {G : tH} {p t m a : Nat} {pr : mP} (hP : cP G p pr) (ho : okP pr) (ht : t < nT pr) (hm : m ≤ 9999) (ha : a ≤ 9999) : V_X5_meansBehind p (nI t) (nI m) (nI a) G = some (some (vI (nI (m - hmN pr t a))), G) := by
  rw [e_X5_meansBehind]
  have h6 := ho.1
  have hk := (ho.2.2.2.2.2.2.1 t ht).1
  rw [tn2, ttin (by omega) (by omega), ttin (by omega) (by omega), nI_clamp (by omega), (hP.2.2.2.2.2.2.1 t ht).1]
  simp only [tn4]
  simp only [tif_ite]
  rw [pk_div (by omega) (by omega) (by omega), pk_div (by omega) (by omega) (by omega), nI_subcut (by omega) (by omega), nI_subcut (by omega) (by omega), nI_subcut (by omega) (by omega), ieqN (by omega) (by omega), ieqN (by omega) (by omega)]
  unfold hmN
  by_cases h2 : pr 0 t = 2
  · simp [h2]
  · by_cases h1 : pr 0 t = 1
    · simp [h1]
    · simp [h1, h2]
theorem v_within0 {G : tH} {v : Int32} {M : Nat} (hM : M < 2 ^ 31) : V_X10_within v (nI 0) (nI M) G = some (some (vI (if v < 0 then nI 0 else if nI M < v then nI M else v)), G) := by
  rw [e_X10_within]
  congr 4
  by_cases h1 : v < 0
  · have h2 : v < nI M := Int32.lt_of_lt_of_le h1 (nI_pos' hM)
    rw [if_pos h1, if_pos h2, if_neg (by rw [nI_0]; exact Int32.not_lt.mpr (Int32.le_of_lt h1))]
  · rw [if_neg h1]
    obtain ⟨k, hk, rfl⟩ := nI_of h1
    rw [iltN hk hM, iltN hM hk]
    by_cases h2 : k < M
    · simp only [if_pos h2, if_neg (show ¬ M < k by omega)]
      rw [iltN (by omega) hk]
      split
      · rfl
      · rw [show k = 0 by omega]
    · simp only [if_neg h2]
      rw [iltN (by omega) hM]
      by_cases h3 : M < k
      · rw [if_pos h3]
        split
        · rfl
        · rw [show M = 0 by omega]
      · rw [if_neg h3, show k = M by omega]
        split
        · rfl
        · rw [show M = 0 by omega]
