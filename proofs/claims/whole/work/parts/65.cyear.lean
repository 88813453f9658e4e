/-! PURE: SPARE and YEAR in the class; a state begun, copied -/
/-- SPARE -/
def maySpare (pr : mP) (sg : mS) (t : Nat) : Prop := sg.1 10 0 ≠ 0 ∧ t < nT pr ∧ sg.1 8 t = 0
def gft0 (lw : mL) (sg : mS) (t : Nat) : Nat := min (cl (lw 0 (nI (sg.1 1 t)) (nI (sg.1 2 t)) (nI (sg.1 5 t)))) (sg.1 1 t)
def gftN (pr : mP) (lw : mL) (sg : mS) (t : Nat) : Nat := if pr 0 t = 1 then min (2 * gft0 lw sg t) (sg.1 1 t) else gft0 lw sg t
def fSpare (pr : mP) (lw : mL) (sg : mS) (t : Nat) : mS := (u1 (u1 sg.1 1 t (sg.1 1 t - gftN pr lw sg t)) 8 t 1, upd sg.2 (mkH sg) (sg.2 (mkH sg) + nI (gftN pr lw sg t)))
theorem gftN_le {pr : mP} {lw : mL} {sg : mS} {t : Nat} : gftN pr lw sg t ≤ sg.1 1 t := by
  unfold gftN gft0
  split <;> omega
theorem cut_to {v : Int32} {M : Nat} (hM : M ≤ 9999) : (if v < 0 then nI 0 else if nI M < v then nI M else v) = nI (min (cl v) M) := by
  by_cases h1 : v < 0
  · rw [if_pos h1, show cl v = 0 by unfold cl; rw [if_pos h1]]
    rw [show min 0 M = 0 by omega]
  · obtain ⟨k, hk, rfl⟩ := nI_of h1
    rw [if_neg h1, cl_nI hk, iltN (by omega) hk]
    split
    · rw [show min (min 9999 k) M = M by omega]
    · rw [show min (min 9999 k) M = k by omega]
theorem c_spare {G : tH} {o p : Nat} {pr : mP} {sg : mS} {lw : mL} (hP : cP G p pr) (ho : okP pr) (hS : cS G o p pr sg) (hs : okS pr sg) (hL : cL G (2 * p + 0) (lw 0)) {t : Nat} (hm : maySpare pr sg t) :
    ∃ G', V_X7_spareTown o (nI t) G = some (some (vI (nI (gftN pr lw sg t))), G') ∧ cS G' o p pr (fSpare pr lw sg t) ∧ tfr (zS o) G G' := by
  obtain ⟨m1, m2, m3⟩ := hm
  have hT := ho.1
  have hC := ho.2.1
  have hh := hs.2.2.2.2.1
  have hh5 : mkH sg < 5 := by unfold mkH; omega
  have hhC : mkH sg < nC pr := by unfold mkH; omega
  obtain ⟨b1, b2, b3, b4⟩ := hs.1 t m2
  obtain ⟨k1, k2, k3, k4, k5⟩ := hS.2.1 t m2
  have hkd := (ho.2.2.2.2.2.2.1 t m2).1
  obtain ⟨G1, v1, v2⟩ := hL G rfl rfl (nI (sg.1 1 t)) (nI (sg.1 2 t)) (nI (sg.1 5 t))
  have hg := gftN_le (pr := pr) (lw := lw) (sg := sg) (t := t)
  have hz : ∀ f, 700 ≤ f → f < 800 → ¬ (fun (f o : Nat) => f = 202) f o := fun f h1 h2 q => by have : f = 202 := q; omega
  have hS1 : cS G1 o p pr sg := hS.kept v2 hz
  have hP1 : cP G1 p pr := hP.kept v2 fun f o' q => by have : f = 202 := q; omega
  obtain ⟨c1, c2, c3, c4, c5, c6, c7, c8, c9, c10⟩ := hS1
  obtain ⟨j1, j2, j3, j4, j5⟩ := c2 t m2
  obtain ⟨mm, hmm, g1, g2⟩ := c4
  obtain ⟨s1, s2, s3⟩ := set6 mm hmm t (by omega)
  have hhol1 : gI G1 710 o = nI (mkH sg) := by rw [c6, hI_pos m1]; rfl
  have e98 : V_X7_spareTown_98 o (nI t) (nI (gftN pr lw sg t)) G1 = some (some (vI (nI (gftN pr lw sg t))), sI (sA (sA G1 701 o (upd (gA G1 701 o) t (nI (sg.1 1 t - gftN pr lw sg t)))) 706 o (upd (gA G1 706 o) (mkH sg) (sg.2 (mkH sg) + nI (gftN pr lw sg t)))) 708 o (nI (mm ||| 2 ^ t))) := by
    rw [e_X7_spareTown_98]
    simp (disch := omega) only [ttin, nI_clamp, j1, nI_sub, gI_sA, gA_ne, hhol1, (c3 _ hhC).1, g1, s1]
  have e1 : V_X7_spareTown o (nI t) G = V_X7_spareTown_98 o (nI t) (nI (gftN pr lw sg t)) G1 := by
    rw [e_X7_spareTown, v_isHeld hP hS ho hs, if_neg m1, tbI_v, tn1, hS.1, v_has, hP.1, if_pos ⟨nI_pos (by omega), (nI_ltI (by omega) (by omega)).mpr m2⟩, tbI_v, tn1, v_isSpared hS hs (by omega), m3, tbI_v, tn0]
    rw [ttin (by omega) (by omega), ttin (by omega) (by omega), ttin (by omega) (by omega), nI_clamp (by omega), k1, k2, k5, hS.1, v1, tbI_v, ttin (by omega) (by omega), j1, v_within0 (by omega), cut_to b1, tbI_v]
    simp (disch := omega) only [ttin, c1, (hP1.2.2.2.2.2.2.1 t m2).1, j1, pk_mul]
    by_cases h1 : pr 0 t = 1
    · rw [teqP h1]
      congr 1
      rw [iltN (by omega) (by omega), gftN, if_pos h1, gft0]
      split
      · congr 1; omega
      · congr 1; omega
    · rw [teqM (by omega) (by omega) h1]
      rw [gftN, if_neg h1, gft0]
  rw [e1, e98]
  refine ⟨_, rfl, ⟨?_, fun t' ht' => ?_, fun c hc => ?_, ?_, ?_, ?_, ?_, ?_, ?_, ?_⟩, ?_⟩
  · simp only [gR_sI, gR_sA, c1]
  · obtain ⟨q1, q2, q3, q4, q5⟩ := c2 t' ht'
    by_cases h : t' = t
    · subst h
      simp (disch := omega) only [gA_sI, gA_eq, gA_ne, upd_eq, fSpare, u1_eq, u1_nk, q2, q3, q4, q5, and_self]
    · simp (disch := omega) only [gA_sI, gA_eq, gA_ne, upd_ne, fSpare, u1_nk, u1_ni, q1, q2, q3, q4, q5, and_self]
  · obtain ⟨q1, q2⟩ := c3 c hc
    by_cases h : c = mkH sg
    · subst h
      simp (disch := omega) only [gA_sI, gA_eq, gA_ne, upd_eq, fSpare, u1_nk, q2, and_self]
    · simp (disch := omega) only [gA_sI, gA_eq, gA_ne, upd_ne, fSpare, u1_nk, q1, q2, and_self]
  · refine ⟨mm ||| 2 ^ t, s2, gI_eq, fun u hu => ?_⟩
    rw [s3 u hu]
    by_cases h : u = t
    · subst h; rw [if_pos rfl]; simp only [fSpare, u1_eq]
    · rw [if_neg h, g2 u hu]; simp (disch := omega) only [fSpare, u1_ni, u1_nk]
  · simp (disch := omega) only [gI_ne, gI_sA, fSpare, u1_nk]; exact c5
  · simp (disch := omega) only [gI_ne, gI_sA, fSpare, u1_nk, c6]
  · simp (disch := omega) only [gI_ne, gI_sA, fSpare, u1_nk, c7]
  · simp (disch := omega) only [gI_ne, gI_sA, fSpare, u1_nk, c8]
  · simp (disch := omega) only [gI_ne, gI_sA, fSpare, upd_ne, c9]
  · simp (disch := omega) only [gI_ne, gI_sA, fSpare, upd_ne, c10]
  · exact tfrI (tfrA (tfrA (v2.mono fun f o' q => Or.inr q) (zS_i (by omega) (by omega))) (zS_i (by omega) (by omega))) (zS_i (by omega) (by omega))
theorem ok_spare {pr : mP} {lw : mL} {sg : mS} (hs : okS pr sg) {t : Nat} : okS pr (fSpare pr lw sg t) := by
  obtain ⟨a1, a2, a3, a4, a5, a6⟩ := hs
  refine ⟨fun t' ht' => ?_, fun c hc => ?_, fun t' => ?_, fun j => ?_, ?_, ?_⟩
  · have q := a1 t' ht'
    by_cases h : t' = t
    · subst h
      simp (disch := omega) only [fSpare, u1_eq, u1_nk]
      omega
    · simp (disch := omega) only [fSpare, u1_nk, u1_ni]
      exact q
  · simp (disch := omega) only [fSpare, u1_nk]; exact a2 c hc
  · by_cases h : t' = t
    · subst h; simp only [fSpare, u1_eq]; omega
    · simp (disch := omega) only [fSpare, u1_nk, u1_ni]; exact a3 t'
  · simp (disch := omega) only [fSpare, u1_nk]; exact a4 j
  · simp (disch := omega) only [fSpare, u1_nk]; exact a5
  · simp (disch := omega) only [fSpare, u1_nk]; exact a6
theorem n_spare {G : tH} {o p : Nat} {pr : mP} {sg : mS} {x1 : Int32} (hP : cP G p pr) (ho : okP pr) (hS : cS G o p pr sg) (hs : okS pr sg) (hn : ∀ t, x1 = nI t → ¬ maySpare pr sg t) : V_X7_spareTown o x1 G = some (some (vI (-1)), G) := by
  have hT := ho.1
  rw [e_X7_spareTown, v_isHeld hP hS ho hs]
  by_cases m1 : sg.1 10 0 = 0
  · rw [if_pos m1, tbI_v, tn0]
  rw [if_neg m1, tbI_v, tn1, hS.1, v_has, hP.1]
  rcases has_cases (x := x1) (n := nT pr) (by omega) with ⟨t, ht, rfl, hz⟩ | ⟨hno, hz⟩
  · rw [hz, tbI_v, tn1, v_isSpared hS hs (by omega)]
    have hsp := hs.2.2.1 t
    have m3 : sg.1 8 t ≠ 0 := fun q => hn t rfl ⟨m1, ht, q⟩
    rw [show sg.1 8 t = 1 by omega, tbI_v, tn1]
  · rw [hz, tbI_v, tn0]
/-- YEAR -/
def mayYear (pr : mP) (sg : mS) (h : Nat) : Prop := sg.1 10 0 ≠ 0 ∧ sg.1 10 1 < 5 ∧ h < nH pr
def yM (sg : mS) (t : Nat) : Nat := mwN (sg.1 1 t) (sg.1 2 t)
def yD (lw : mL) (sg : mS) (t : Nat) : Nat := cl (lw 1 (nI (yM sg t)) (nI 0) (nI (sg.1 5 t)))
def yC (pr : mP) (sg : mS) (h t : Nat) : Nat := crN pr t (yM sg t) h
def fYear (pr : mP) (lw : mL) (sg : mS) (h : Nat) : mS := (fun k i => if k = 1 then yM sg i else if k = 2 then yC pr sg h i else if k = 3 then yC pr sg h i else if k = 4 then 0 else if k = 5 then yD lw sg i else if k = 8 then 0 else if k = 10 then (if i = 1 then sg.1 10 1 + 1 else if i = 2 then sg.1 10 2 + 1 else sg.1 10 i) else sg.1 k i, sg.2)
theorem yM_le (sg : mS) (t : Nat) : yM sg t ≤ 9999 := by unfold yM mwN; omega
theorem yC_le (pr : mP) (sg : mS) (h t : Nat) : yC pr sg h t ≤ 9999 := by unfold yC crN; omega
def zY (o : Nat) : Nat → Nat → Prop := fun f o' => (701 ≤ f ∧ f ≤ 705 ∧ o' = o) ∨ f = 202
/-- the towns below i are through -/
def yI (G0 G : tH) (o i : Nat) (pr : mP) (lw : mL) (sg : mS) (h : Nat) : Prop := tfr (zY o) G0 G ∧ (∀ t, t < nT pr → i ≤ t → gA G 701 o t = nI (sg.1 1 t) ∧ gA G 702 o t = nI (sg.1 2 t) ∧ gA G 705 o t = nI (sg.1 5 t)) ∧
  ∀ t, t < i → gA G 701 o t = nI (yM sg t) ∧ gA G 702 o t = nI (yC pr sg h t) ∧ gA G 703 o t = nI (yC pr sg h t) ∧ gA G 704 o t = nI 0 ∧ gA G 705 o t = nI (yD lw sg t)
theorem year_loop {G0 : tH} {o p h : Nat} {pr : mP} {sg : mS} {lw : mL} (hP : cP G0 p pr) (ho : okP pr) (hS : cS G0 o p pr sg) (hs : okS pr sg) (hL : cL G0 (2 * p + 1) (lw 1)) (hh : h < nH pr) :
    ∀ n i G, i + n = nT pr → yI G0 G o i pr lw sg h → ∃ G', V_X7_bringYear_35 o (nI h) (nI (sumN (yC pr sg h) i)) (nI i) G = V_X7_bringYear_35 o (nI h) (nI (sumN (yC pr sg h) (nT pr))) (nI (nT pr)) G' ∧ yI G0 G' o (nT pr) pr lw sg h := by
  have hT := ho.1
  have hH := ho.2.2.1
  intro n
  induction n with
  | zero =>
    intro i G hi hy
    have : i = nT pr := by omega
    subst this
    exact ⟨G, rfl, hy⟩
  | succ n ih =>
    intro i G hi hy
    obtain ⟨y1, y2, y3⟩ := hy
    have hit : i < nT pr := by omega
    obtain ⟨k1, k2, k5⟩ := y2 i hit (Nat.le_refl _)
    obtain ⟨b1, b2, b3, b4⟩ := hs.1 i hit
    have hb2 : sg.1 2 i ≤ 9999 := by omega
    have hR : gR G 700 o = p := by rw [(y1 700 o (by unfold zY; omega)).2.2.1]; exact hS.1
    have hPG : cP G p pr := hP.kept y1 fun f o' q => by unfold zY at q; omega
    -- means
    obtain ⟨G3, hG3⟩ : ∃ g, g = sA G 701 o (upd (gA G 701 o) i (nI (yM sg i))) := ⟨_, rfl⟩
    have f3 : tfr (zY o) G0 G3 := by rw [hG3]; exact tfrA y1 (Or.inl ⟨by omega, by omega, rfl⟩)
    obtain ⟨G4, v1, v2⟩ := hL G3 (f3 200 (2 * p + 1) (by unfold zY; omega)).2.2.2.1 (f3 201 (2 * p + 1) (by unfold zY; omega)).1 (nI (yM sg i)) (nI 0) (nI (sg.1 5 i))
    have r4 : ∀ f, f ≠ 202 → gA G4 f o = gA G3 f o := fun f hf => (v2 f o hf).2.2.2.1
    have f4 : tfr (zY o) G0 G4 := f3.tr (v2.mono fun f o' q => Or.inr q)
    obtain ⟨G8, hG8⟩ : ∃ g, g = sA G4 705 o (upd (gA G4 705 o) i (nI (yD lw sg i))) := ⟨_, rfl⟩
    have f8 : tfr (zY o) G0 G8 := by rw [hG8]; exact tfrA f4 (Or.inl ⟨by omega, by omega, rfl⟩)
    have hP8 : cP G8 p pr := hP.kept f8 fun f o' q => by unfold zY at q; omega
    have hR8 : gR G8 700 o = p := by rw [(f8 700 o (by unfold zY; omega)).2.2.1]; exact hS.1
    obtain ⟨G13, hG13⟩ : ∃ g, g = sA (sA (sA G8 702 o (upd (gA G8 702 o) i (nI (yC pr sg h i)))) 703 o (upd (gA G8 703 o) i (nI (yC pr sg h i)))) 704 o (upd (gA G8 704 o) i (nI 0)) := ⟨_, rfl⟩
    have f13 : tfr (zY o) G0 G13 := by rw [hG13]; exact tfrA (tfrA (tfrA f8 (Or.inl ⟨by omega, by omega, rfl⟩)) (Or.inl ⟨by omega, by omega, rfl⟩)) (Or.inl ⟨by omega, by omega, rfl⟩)
    have eq : V_X7_bringYear_35 o (nI h) (nI (sumN (yC pr sg h) i)) (nI i) G = V_X7_bringYear_35 o (nI h) (nI (sumN (yC pr sg h) (i + 1))) (nI (i + 1)) G13 := by
      rw [e_X7_bringYear_35, hR, hPG.1, tltP (by omega) (by omega) (by omega), ttin (by omega) (by omega), ttin (by omega) (by omega), nI_clamp (by omega), k1, k2, v_meansWith b1 hb2, tbI_v, ttin (by omega) (by omega), show nI (mwN (sg.1 1 i) (sg.1 2 i)) = nI (yM sg i) from rfl]
      simp only [← hG3]
      have q1 : gA G3 701 o i = nI (yM sg i) := by rw [hG3, gA_eq, upd_eq]
      have q5 : gA G3 705 o i = nI (sg.1 5 i) := by rw [hG3, gA_ne (by omega)]; exact k5
      have qR : gR G3 700 o = p := by rw [hG3]; exact hR
      rw [ttin (by omega) (by omega), ttin (by omega) (by omega), qR, q1, q5, v1, tbI_v, v_within0 (by omega), ← cl_spec, tbI_v, ttin (by omega) (by omega), show nI (cl (lw 1 (nI (yM sg i)) (nI 0) (nI (sg.1 5 i)))) = nI (yD lw sg i) from rfl]
      simp only [← hG8]
      have w1 : gA G8 701 o i = nI (yM sg i) := by rw [hG8, gA_ne (by omega), r4 701 (by omega), q1]
      rw [ttin (by omega) (by omega), hR8, w1, v_cropOf hP8 ho hit (yM_le sg i) hh, tbI_v, show nI (crN pr i (yM sg i) h) = nI (yC pr sg h i) from rfl]
      simp (disch := omega) only [ttin, gA_eq, gA_ne, upd_eq, nI_add]
      rw [hG13]
      rfl
    rw [eq]
    refine ih (i + 1) G13 (by omega) ⟨f13, fun t ht hti => ?_, fun t ht => ?_⟩
    · obtain ⟨z1, z2, z5⟩ := y2 t ht (by omega)
      rw [hG13, hG8, hG3.symm ▸ rfl]
      simp (disch := omega) only [gA_ne, gA_eq, upd_ne, r4, hG3, z1, z2, z5, and_self]
    · by_cases hx : t = i
      · subst hx
        rw [hG13, hG8]
        simp (disch := omega) only [gA_ne, gA_eq, upd_eq, r4, hG3, and_self]
      · obtain ⟨z1, z2, z3, z4, z5⟩ := y3 t (by omega)
        rw [hG13, hG8]
        simp (disch := omega) only [gA_ne, gA_eq, upd_ne, r4, hG3, z1, z2, z3, z4, z5, and_self]
