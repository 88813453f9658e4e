/-! PURE: SPARE and YEAR in the class; a state begun, copied -/
/-- SPARE -/
def maySpare (pr : mP) (sg : mS) (t : Nat) : Prop := sg.1 10 0 ≠ 0 ∧ t < nT pr ∧ sg.1 8 t = 0
def gft0 (lw : mL) (sg : mS) (t : Nat) : Nat := min (cl (lw 0 (nI (sg.1 1 t)) (nI (sg.1 2 t)) (nI (sg.1 5 t)))) (sg.1 1 t)
def gftN (pr : mP) (lw : mL) (sg : mS) (t : Nat) : Nat := if pr 0 t = 1 then min (2 * gft0 lw sg t) (sg.1 1 t) else gft0 lw sg t
def fSpare (pr : mP) (lw : mL) (sg : mS) (t : Nat) : mS := (u1 (u1 sg.1 1 t (sg.1 1 t - gftN pr lw sg t)) 8 t 1, upd sg.2 (mkH sg) (sg.2 (mkH sg) + nI (gftN pr lw sg t)))
theorem gftN_le {pr : mP} {lw : mL} {sg : mS} {t : Nat} : gftN pr lw sg t ≤ sg.1 1 t := by
  unfold gftN gft0
  split <;> omega
theorem cut_to {v : Int32} {M : Nat} (hM : M ≤ 9999) : (if v < 0 then nI 0 else if nI M < v then nI M else v) = nI (min (cl v) M) := by
  by_cases h1 : v < 0
  · rw [if_pos h1, show cl v = 0 by unfold cl; rw [if_pos h1]]
    rw [show min 0 M = 0 by omega]
  · obtain ⟨k, hk, rfl⟩ := nI_of h1
    rw [if_neg h1, cl_nI hk, iltN (by omega) hk]
    split
    · rw [show min (min 9999 k) M = M by omega]
    · rw [show min (min 9999 k) M = k by omega]
theorem c_spare {G : tH} {o p : Nat} {pr : mP} {sg : mS} {lw : mL} (hP : cP G p pr) (ho : okP pr) (hS : cS G o p pr sg) (hs : okS pr sg) (hL : cL G (2 * p + 0) (lw 0)) {t : Nat} (hm : maySpare pr sg t) :
    ∃ G', V_X7_spareTown o (nI t) G = some (some (vI (nI (gftN pr lw sg t))), G') ∧ cS G' o p pr (fSpare pr lw sg t) ∧ tfr (zS o) G G' := by
  obtain ⟨m1, m2, m3⟩ := hm
  have hT := ho.1
  have hC := ho.2.1
  have hh := hs.2.2.2.2.1
  have hh5 : mkH sg < 5 := by unfold mkH; omega
  have hhC : mkH sg < nC pr := by unfold mkH; omega
  obtain ⟨b1, b2, b3, b4⟩ := hs.1 t m2
  obtain ⟨k1, k2, k3, k4, k5⟩ := hS.2.1 t m2
  have hkd := (ho.2.2.2.2.2.2.1 t m2).1
  obtain ⟨G1, v1, v2⟩ := hL G rfl rfl (nI (sg.1 1 t)) (nI (sg.1 2 t)) (nI (sg.1 5 t))
  have hg := gftN_le (pr := pr) (lw := lw) (sg := sg) (t := t)
  have hz : ∀ f, 700 ≤ f → f < 800 → ¬ (fun (f o : Nat) => f = 202) f o := fun f h1 h2 q => by have : f = 202 := q; omega
  have hS1 : cS G1 o p pr sg := hS.kept v2 hz
  have hP1 : cP G1 p pr := hP.kept v2 fun f o' q => by have : f = 202 := q; omega
  obtain ⟨c1, c2, c3, c4, c5, c6, c7, c8, c9, c10⟩ := hS1
  obtain ⟨j1, j2, j3, j4, j5⟩ := c2 t m2
  obtain ⟨mm, hmm, g1, g2⟩ := c4
  obtain ⟨s1, s2, s3⟩ := set6 mm hmm t (by omega)
  have hhol1 : gI G1 710 o = nI (mkH sg) := by rw [c6, hI_pos m1]; rfl
  have e98 : V_X7_spareTown_98 o (nI t) (nI (gftN pr lw sg t)) G1 = some (some (vI (nI (gftN pr lw sg t))), sI (sA (sA G1 701 o (upd (gA G1 701 o) t (nI (sg.1 1 t - gftN pr lw sg t)))) 706 o (upd (gA G1 706 o) (mkH sg) (sg.2 (mkH sg) + nI (gftN pr lw sg t)))) 708 o (nI (mm ||| 2 ^ t))) := by
    rw [e_X7_spareTown_98]
    simp (disch := omega) only [ttin, nI_clamp, j1, nI_sub, gI_sA, gA_ne, hhol1, (c3 _ hhC).1, g1, s1]
  have e1 : V_X7_spareTown o (nI t) G = V_X7_spareTown_98 o (nI t) (nI (gftN pr lw sg t)) G1 := by
    rw [e_X7_spareTown, v_isHeld hP hS ho hs, if_neg m1, tbI_v, tn1, hS.1, v_has, hP.1, if_pos ⟨nI_pos (by omega), (nI_ltI (by omega) (by omega)).mpr m2⟩, tbI_v, tn1, v_isSpared hS hs (by omega), m3, tbI_v, tn0]
    rw [ttin (by omega) (by omega), ttin (by omega) (by omega), ttin (by omega) (by omega), nI_clamp (by omega), k1, k2, k5, hS.1, v1, tbI_v, ttin (by omega) (by omega), j1, v_within0 (by omega), cut_to b1, tbI_v]
    simp (disch := omega) only [ttin, c1, (hP1.2.2.2.2.2.2.1 t m2).1, j1, pk_mul]
    by_cases h1 : pr 0 t = 1
    · rw [teqP h1]
      congr 1
      rw [iltN (by omega) (by omega), gftN, if_pos h1, gft0]
      split
      · congr 1; omega
      · congr 1; omega
    · rw [teqM (by omega) (by omega) h1]
      rw [gftN, if_neg h1, gft0]
  rw [e1, e98]
  refine ⟨_, rfl, ⟨?_, fun t' ht' => ?_, fun c hc => ?_, ?_, ?_, ?_, ?_, ?_, ?_, ?_⟩, ?_⟩
  · simp only [gR_sI, gR_sA, c1]
  · obtain ⟨q1, q2, q3, q4, q5⟩ := c2 t' ht'
    by_cases h : t' = t
    · subst h
      simp (disch := omega) only [gA_sI, gA_eq, gA_ne, upd_eq, fSpare, u1_eq, u1_nk, q2, q3, q4, q5, and_self]
    · simp (disch := omega) only [gA_sI, gA_eq, gA_ne, upd_ne, fSpare, u1_nk, u1_ni, q1, q2, q3, q4, q5, and_self]
  · obtain ⟨q1, q2⟩ := c3 c hc
    by_cases h : c = mkH sg
    · subst h
      simp (disch := omega) only [gA_sI, gA_eq, gA_ne, upd_eq, fSpare, u1_nk, q2, and_self]
    · simp (disch := omega) only [gA_sI, gA_eq, gA_ne, upd_ne, fSpare, u1_nk, q1, q2, and_self]
  · refine ⟨mm ||| 2 ^ t, s2, gI_eq, fun u hu => ?_⟩
    rw [s3 u hu]
    by_cases h : u = t
    · subst h; rw [if_pos rfl]; simp only [fSpare, u1_eq]
    · rw [if_neg h, g2 u hu]; simp (disch := omega) only [fSpare, u1_ni, u1_nk]
  · simp (disch := omega) only [gI_ne, gI_sA, fSpare, u1_nk]; exact c5
  · simp (disch := omega) only [gI_ne, gI_sA, fSpare, u1_nk, c6]
  · simp (disch := omega) only [gI_ne, gI_sA, fSpare, u1_nk, c7]
  · simp (disch := omega) only [gI_ne, gI_sA, fSpare, u1_nk, c8]
  · simp (disch := omega) only [gI_ne, gI_sA, fSpare, upd_ne, c9]
  · simp (disch := omega) only [gI_ne, gI_sA, fSpare, upd_ne, c10]
  · exact tfrI (tfrA (tfrA (v2.mono fun f o' q => Or.inr q) (zS_i (by omega) (by omega))) (zS_i (by omega) (by omega))) (zS_i (by omega) (by omega))
theorem ok_spare {pr : mP} {lw : mL} {sg : mS} (hs : okS pr sg) {t : Nat} : okS pr (fSpare pr lw sg t) := by
  obtain ⟨a1, a2, a3, a4, a5, a6⟩ := hs
  refine ⟨fun t' ht' => ?_, fun c hc => ?_, fun t' => ?_, fun j => ?_, ?_, ?_⟩
  · have q := a1 t' ht'
    by_cases h : t' = t
    · subst h
      simp (disch := omega) only [fSpare, u1_eq, u1_nk]
      omega
    · simp (disch := omega) only [fSpare, u1_nk, u1_ni]
      exact q
  · simp (disch := omega) only [fSpare, u1_nk]; exact a2 c hc
  · by_cases h : t' = t
    · subst h; simp only [fSpare, u1_eq]; omega
    · simp (disch := omega) only [fSpare, u1_nk, u1_ni]; exact a3 t'
  · simp (disch := omega) only [fSpare, u1_nk]; exact a4 j
  · simp (disch := omega) only [fSpare, u1_nk]; exact a5
  · simp (disch := omega) only [fSpare, u1_nk]; exact a6
theorem n_spare {G : tH} {o p : Nat} {pr : mP} {sg : mS} {x1 : Int32} (hP : cP G p pr) (ho : okP pr) (hS : cS G o p pr sg) (hs : okS pr sg) (hn : ∀ t, x1 = nI t → ¬ maySpare pr sg t) : V_X7_spareTown o x1 G = some (some (vI (-1)), G) := by
  have hT := ho.1
  rw [e_X7_spareTown, v_isHeld hP hS ho hs]
  by_cases m1 : sg.1 10 0 = 0
  · rw [if_pos m1, tbI_v, tn0]
  rw [if_neg m1, tbI_v, tn1, hS.1, v_has, hP.1]
  rcases has_cases (x := x1) (n := nT pr) (by omega) with ⟨t, ht, rfl, hz⟩ | ⟨hno, hz⟩
  · rw [hz, tbI_v, tn1, v_isSpared hS hs (by omega)]
    have hsp := hs.2.2.1 t
    have m3 : sg.1 8 t ≠ 0 := fun q => hn t rfl ⟨m1, ht, q⟩
    rw [show sg.1 8 t = 1 by omega, tbI_v, tn1]
  · rw [hz, tbI_v, tn0]
/-- YEAR -/
def mayYear (pr : mP) (sg : mS) (h : Nat) : Prop := sg.1 10 0 ≠ 0 ∧ sg.1 10 1 < 5 ∧ h < nH pr
def yM (sg : mS) (t : Nat) : Nat := mwN (sg.1 1 t) (sg.1 2 t)
def yD (lw : mL) (sg : mS) (t : Nat) : Nat := cl (lw 1 (nI (yM sg t)) (nI 0) (nI (sg.1 5 t)))
def yC (pr : mP) (sg : mS) (h t : Nat) : Nat := crN pr t (yM sg t) h
def fYear (pr : mP) (lw : mL) (sg : mS) (h : Nat) : mS := (fun k i => if k = 1 then yM sg i else if k = 2 then yC pr sg h i else if k = 3 then yC pr sg h i else if k = 4 then 0 else if k = 5 then yD lw sg i else if k = 8 then 0 else if k = 10 then (if i = 1 then sg.1 10 1 + 1 else if i = 2 then sg.1 10 2 + 1 else sg.1 10 i) else sg.1 k i, sg.2)
theorem yM_le (sg : mS) (t : Nat) : yM sg t ≤ 9999 := by unfold yM mwN; omega
theorem yC_le (pr : mP) (sg : mS) (h t : Nat) : yC pr sg h t ≤ 9999 := by unfold yC crN; omega
def zY (o : Nat) : Nat → Nat → Prop := fun f o' => (701 ≤ f ∧ f ≤ 705 ∧ o' = o) ∨ f = 202
/-- the towns below i are through -/
def yI (G0 G : tH) (o i : Nat) (pr : mP) (lw : mL) (sg : mS) (h : Nat) : Prop := tfr (zY o) G0 G ∧ (∀ t, t < nT pr → i ≤ t → gA G 701 o t = nI (sg.1 1 t) ∧ gA G 702 o t = nI (sg.1 2 t) ∧ gA G 705 o t = nI (sg.1 5 t)) ∧
  ∀ t, t < i → gA G 701 o t = nI (yM sg t) ∧ gA G 702 o t = nI (yC pr sg h t) ∧ gA G 703 o t = nI (yC pr sg h t) ∧ gA G 704 o t = nI 0 ∧ gA G 705 o t = nI (yD lw sg t)
theorem year_loop {G0 : tH} {o p h : Nat} {pr : mP} {sg : mS} {lw : mL} (hP : cP G0 p pr) (ho : okP pr) (hS : cS G0 o p pr sg) (hs : okS pr sg) (hL : cL G0 (2 * p + 1) (lw 1)) (hh : h < nH pr) :
    ∀ n i G, i + n = nT pr → yI G0 G o i pr lw sg h → ∃ G', V_X7_bringYear_35 o (nI h) (nI (sumN (yC pr sg h) i)) (nI i) G = V_X7_bringYear_35 o (nI h) (nI (sumN (yC pr sg h) (nT pr))) (nI (nT pr)) G' ∧ yI G0 G' o (nT pr) pr lw sg h := by
  have hT := ho.1
  have hH := ho.2.2.1
  intro n
  induction n with
  | zero =>
    intro i G hi hy
    have : i = nT pr := by omega
    subst this
    exact ⟨G, rfl, hy⟩
  | succ n ih =>
    intro i G hi hy
    obtain ⟨y1, y2, y3⟩ := hy
    have hit : i < nT pr := by omega
    obtain ⟨k1, k2, k5⟩ := y2 i hit (Nat.le_refl _)
    obtain ⟨b1, b2, b3, b4⟩ := hs.1 i hit
    have hb2 : sg.1 2 i ≤ 9999 := by omega
    have hR : gR G 700 o = p := by rw [(y1 700 o (by unfold zY; omega)).2.2.1]; exact hS.1
    have hPG : cP G p pr := hP.kept y1 fun f o' q => by unfold zY at q; omega
    -- means
    obtain ⟨G3, hG3⟩ : ∃ g, g = sA G 701 o (upd (gA G 701 o) i (nI (yM sg i))) := ⟨_, rfl⟩
    have f3 : tfr (zY o) G0 G3 := by rw [hG3]; exact tfrA y1 (Or.inl ⟨by omega, by omega, rfl⟩)
    obtain ⟨G4, v1, v2⟩ := hL G3 (f3 200 (2 * p + 1) (by unfold zY; omega)).2.2.2.1 (f3 201 (2 * p + 1) (by unfold zY; omega)).1 (nI (yM sg i)) (nI 0) (nI (sg.1 5 i))
    have r4 : ∀ f, f ≠ 202 → gA G4 f o = gA G3 f o := fun f hf => (v2 f o hf).2.2.2.1
    have f4 : tfr (zY o) G0 G4 := f3.tr (v2.mono fun f o' q => Or.inr q)
    obtain ⟨G8, hG8⟩ : ∃ g, g = sA G4 705 o (upd (gA G4 705 o) i (nI (yD lw sg i))) := ⟨_, rfl⟩
    have f8 : tfr (zY o) G0 G8 := by rw [hG8]; exact tfrA f4 (Or.inl ⟨by omega, by omega, rfl⟩)
    have hP8 : cP G8 p pr := hP.kept f8 fun f o' q => by unfold zY at q; omega
    have hR8 : gR G8 700 o = p := by rw [(f8 700 o (by unfold zY; omega)).2.2.1]; exact hS.1
    obtain ⟨G13, hG13⟩ : ∃ g, g = sA (sA (sA G8 702 o (upd (gA G8 702 o) i (nI (yC pr sg h i)))) 703 o (upd (gA G8 703 o) i (nI (yC pr sg h i)))) 704 o (upd (gA G8 704 o) i (nI 0)) := ⟨_, rfl⟩
    have f13 : tfr (zY o) G0 G13 := by rw [hG13]; exact tfrA (tfrA (tfrA f8 (Or.inl ⟨by omega, by omega, rfl⟩)) (Or.inl ⟨by omega, by omega, rfl⟩)) (Or.inl ⟨by omega, by omega, rfl⟩)
    have eq : V_X7_bringYear_35 o (nI h) (nI (sumN (yC pr sg h) i)) (nI i) G = V_X7_bringYear_35 o (nI h) (nI (sumN (yC pr sg h) (i + 1))) (nI (i + 1)) G13 := by
      rw [e_X7_bringYear_35, hR, hPG.1, tltP (by omega) (by omega) (by omega), ttin (by omega) (by omega), ttin (by omega) (by omega), nI_clamp (by omega), k1, k2, v_meansWith b1 hb2, tbI_v, ttin (by omega) (by omega), show nI (mwN (sg.1 1 i) (sg.1 2 i)) = nI (yM sg i) from rfl]
      simp only [← hG3]
      have q1 : gA G3 701 o i = nI (yM sg i) := by rw [hG3, gA_eq, upd_eq]
      have q5 : gA G3 705 o i = nI (sg.1 5 i) := by rw [hG3, gA_ne (by omega)]; exact k5
      have qR : gR G3 700 o = p := by rw [hG3]; exact hR
      rw [ttin (by omega) (by omega), ttin (by omega) (by omega), qR, q1, q5, v1, tbI_v, v_within0 (by omega), ← cl_spec, tbI_v, ttin (by omega) (by omega), show nI (cl (lw 1 (nI (yM sg i)) (nI 0) (nI (sg.1 5 i)))) = nI (yD lw sg i) from rfl]
      simp only [← hG8]
      have w1 : gA G8 701 o i = nI (yM sg i) := by rw [hG8, gA_ne (by omega), r4 701 (by omega), q1]
      rw [ttin (by omega) (by omega), hR8, w1, v_cropOf hP8 ho hit (yM_le sg i) hh, tbI_v, show nI (crN pr i (yM sg i) h) = nI (yC pr sg h i) from rfl]
      simp (disch := omega) only [ttin, gA_eq, gA_ne, upd_eq, nI_add]
      rw [hG13]
      rfl
    rw [eq]
    refine ih (i + 1) G13 (by omega) ⟨f13, fun t ht hti => ?_, fun t ht => ?_⟩
    · obtain ⟨z1, z2, z5⟩ := y2 t ht (by omega)
      rw [hG13, hG8]
      simp (disch := omega) only [gA_ne, gA_eq, upd_ne, r4, hG3, z1, z2, z5, and_self]
    · by_cases hx : t = i
      · subst hx
        rw [hG13, hG8]
        simp (disch := omega) only [gA_ne, gA_eq, upd_eq, r4, hG3, and_self]
      · obtain ⟨z1, z2, z3, z4, z5⟩ := y3 t (by omega)
        rw [hG13, hG8]
        simp (disch := omega) only [gA_ne, gA_eq, upd_ne, r4, hG3, z1, z2, z3, z4, z5, and_self]
theorem c_year {G : tH} {o p h : Nat} {pr : mP} {sg : mS} {lw : mL} (hP : cP G p pr) (ho : okP pr) (hS : cS G o p pr sg) (hs : okS pr sg) (hL : cL G (2 * p + 1) (lw 1)) (hm : mayYear pr sg h) :
    ∃ G', V_X7_bringYear o (nI h) G = some (some (vI (nI (sumN (yC pr sg h) (nT pr)))), G') ∧ cS G' o p pr (fYear pr lw sg h) ∧ tfr (zS o) G G' := by
  obtain ⟨m1, m2, m3⟩ := hm
  have hT := ho.1
  have hH := ho.2.2.1
  obtain ⟨a1, a2, a3, a4, a5, a6, a7, a8, a9, a10⟩ := id hS
  obtain ⟨G1, e1, y1, y2, y3⟩ := year_loop hP ho hS hs hL m3 (nT pr) 0 G (by omega) ⟨tfr.rf, fun t ht _ => ⟨(a2 t ht).1, (a2 t ht).2.1, (a2 t ht).2.2.2.2⟩, fun t ht => by omega⟩
  have rI : ∀ f, f ≠ 202 → f < 701 ∨ 705 < f → gI G1 f o = gI G f o := fun f h1 h2 => (y1 f o (by unfold zY; omega)).1
  have rA : ∀ f, f ≠ 202 → f < 701 ∨ 705 < f → gA G1 f o = gA G f o := fun f h1 h2 => (y1 f o (by unfold zY; omega)).2.2.2.1
  have rR : gR G1 700 o = p := by rw [(y1 700 o (by unfold zY; omega)).2.2.1]; exact a1
  have hP1 : cP G1 p pr := hP.kept y1 fun f o' q => by unfold zY at q; omega
  have e2 : V_X7_bringYear o (nI h) G = some (some (vI (nI (sumN (yC pr sg h) (nT pr)))), sI (sI (sI G1 708 o (nI 0)) 711 o (nI (sg.1 10 1 + 1))) 712 o (nI (sg.1 10 2 + 1))) := by
    rw [e_X7_bringYear, v_isHeld hP hS ho hs, if_neg m1, tbI_v, tn1, a7, tltP (by omega) (by omega) m2, a1, v_has, hP.2.2.1, if_pos ⟨nI_pos (by omega), (nI_ltI (by omega) (by omega)).mpr m3⟩, tbI_v, tn1]
    have e3 : V_X7_bringYear_35 o (nI h) (nI 0) (nI 0) G = V_X7_bringYear_35 o (nI h) (nI (sumN (yC pr sg h) (nT pr))) (nI (nT pr)) G1 := e1
    rw [e3, e_X7_bringYear_35, rR, hP1.1, tltM (by omega) (by omega) (by omega)]
    simp (disch := omega) only [gI_ne, rI, a7, a8, nI_add]
  refine ⟨_, e2, ⟨?_, fun t ht => ?_, fun c hc => ?_, ?_, ?_, ?_, ?_, ?_, ?_, ?_⟩, ?_⟩
  · simp only [gR_sI, rR]
  · obtain ⟨q1, q2, q3, q4, q5⟩ := y3 t ht
    simp only [gA_sI, q1, q2, q3, q4, q5]
    exact ⟨rfl, rfl, rfl, rfl, rfl⟩
  · obtain ⟨q1, q2⟩ := a3 c hc
    simp (disch := omega) only [gA_sI, rA, q1, q2]
    exact ⟨rfl, rfl⟩
  · refine ⟨0, by omega, ?_, fun j _ => ?_⟩
    · simp (disch := omega) only [gI_ne, gI_eq]
    · rw [Nat.zero_div]; rfl
  · simp (disch := omega) only [gI_ne, rI]; exact a5
  · simp (disch := omega) only [gI_ne, rI, a6]; rfl
  · simp (disch := omega) only [gI_ne, gI_eq]; rfl
  · simp (disch := omega) only [gI_ne, gI_eq]; rfl
  · simp (disch := omega) only [gI_ne, rI, a9]; rfl
  · simp (disch := omega) only [gI_ne, rI, a10]; rfl
  · exact tfrI (tfrI (tfrI (y1.mono fun f o' q => by unfold zY at q; unfold zS; omega) (zS_i (by omega) (by omega))) (zS_i (by omega) (by omega))) (zS_i (by omega) (by omega))
theorem ok_year {pr : mP} {lw : mL} {sg : mS} {h : Nat} (hs : okS pr sg) (hm : mayYear pr sg h) : okS pr (fYear pr lw sg h) := by
  obtain ⟨a1, a2, a3, a4, a5, a6⟩ := hs
  refine ⟨fun t ht => ⟨yM_le sg t, ?_, yC_le pr sg h t, cl_le _⟩, a2, fun t => Nat.zero_le _, a4, a5, ?_⟩
  · show yC pr sg h t + 0 = yC pr sg h t
    omega
  · show sg.1 10 1 + 1 ≤ 5
    have := hm.2.1
    omega
theorem n_year {G : tH} {o p : Nat} {pr : mP} {sg : mS} {x1 : Int32} (hP : cP G p pr) (ho : okP pr) (hS : cS G o p pr sg) (hs : okS pr sg) (hn : ∀ h, x1 = nI h → ¬ mayYear pr sg h) : V_X7_bringYear o x1 G = some (some (vI (-1)), G) := by
  have hH := ho.2.2.1
  have h5 := hs.2.2.2.2.2
  rw [e_X7_bringYear, v_isHeld hP hS ho hs]
  by_cases m1 : sg.1 10 0 = 0
  · rw [if_pos m1, tbI_v, tn0]
  rw [if_neg m1, tbI_v, tn1, hS.2.2.2.2.2.2.1]
  by_cases m2 : sg.1 10 1 < 5
  · rw [tltP (by omega) (by omega) m2, hS.1, v_has, hP.2.2.1]
    rcases has_cases (x := x1) (n := nH pr) (by omega) with ⟨t, ht, rfl, hz⟩ | ⟨hno, hz⟩
    · exact absurd ⟨m1, m2, ht⟩ (hn t rfl)
    · rw [hz, tbI_v, tn0]
  · rw [tltM (by omega) (by omega) (by omega)]
/-! a state begun -/
def fBegin (pr : mP) : mS := (fun k i => if k = 1 then pr 1 i else 0, fun i => if i = 10 then 0 else if i = 11 then 0 else nI (pr 3 i))
theorem begin_t (o p : Nat) (hop : True) : ∀ n i G, i + n = 6 → ∃ G', V_X7_begin_7 o p (nI i) G = V_X7_begin_7 o p (nI 6) G' ∧ tfr (fun f o' => 701 ≤ f ∧ f ≤ 705 ∧ o' = o) G G' ∧ (∀ t, i ≤ t → t < 6 → gA G' 701 o t = gA G 505 p t ∧ gA G' 702 o t = nI 0 ∧ gA G' 703 o t = nI 0 ∧ gA G' 704 o t = nI 0 ∧ gA G' 705 o t = nI 0) ∧ ∀ t, t < i → gA G' 701 o t = gA G 701 o t ∧ gA G' 702 o t = gA G 702 o t ∧ gA G' 703 o t = gA G 703 o t ∧ gA G' 704 o t = gA G 704 o t ∧ gA G' 705 o t = gA G 705 o t := by
  intro n
  induction n with
  | zero =>
    intro i G hi
    rw [show i = 6 by omega]
    exact ⟨G, rfl, tfr.rf, fun t h1 h2 => by omega, fun t ht => ⟨rfl, rfl, rfl, rfl, rfl⟩⟩
  | succ n ih =>
    intro i G hi
    obtain ⟨G5, hG5⟩ : ∃ g, g = sA (sA (sA (sA (sA G 701 o (upd (gA G 701 o) i (gA G 505 p i))) 702 o (upd (gA G 702 o) i (nI 0))) 703 o (upd (gA G 703 o) i (nI 0))) 704 o (upd (gA G 704 o) i (nI 0))) 705 o (upd (gA G 705 o) i (nI 0)) := ⟨_, rfl⟩
    have f5 : tfr (fun f o' => 701 ≤ f ∧ f ≤ 705 ∧ o' = o) G G5 := by
      rw [hG5]
      exact tfrA (tfrA (tfrA (tfrA (tfrA tfr.rf ⟨by omega, by omega, rfl⟩) ⟨by omega, by omega, rfl⟩) ⟨by omega, by omega, rfl⟩) ⟨by omega, by omega, rfl⟩) ⟨by omega, by omega, rfl⟩
    obtain ⟨G', e1, e2, e3, e4⟩ := ih (i + 1) G5 (by omega)
    have r5 : gA G5 505 p = gA G 505 p := (f5 505 p (by omega)).2.2.2.1
    refine ⟨G', ?_, f5.tr e2, fun t h1 h2 => ?_, fun t ht => ?_⟩
    · rw [← e1, e_X7_begin_7]
      simp (disch := omega) only [tltP, ttin, nI_clamp, gA_ne, nI_add, hG5]
    · by_cases hx : t = i
      · subst hx
        obtain ⟨z1, z2, z3, z4, z5⟩ := e4 t (by omega)
        rw [z1, z2, z3, z4, z5, hG5]
        simp (disch := omega) only [gA_ne, gA_eq, upd_eq, and_self]
      · obtain ⟨z1, z2, z3, z4, z5⟩ := e3 t (by omega) h2
        rw [z1, z2, z3, z4, z5, r5]
        exact ⟨rfl, rfl, rfl, rfl, rfl⟩
    · obtain ⟨z1, z2, z3, z4, z5⟩ := e4 t (by omega)
      rw [z1, z2, z3, z4, z5, hG5]
      simp (disch := omega) only [gA_ne, gA_eq, upd_ne, and_self]
theorem begin_c (o p : Nat) : ∀ n i G, i + n = 5 → ∃ G', V_X7_begin_61 o p (nI i) G = V_X7_begin_61 o p (nI 5) G' ∧ tfr (fun f o' => 706 ≤ f ∧ f ≤ 707 ∧ o' = o) G G' ∧ (∀ t, i ≤ t → t < 5 → gA G' 706 o t = gA G 507 p t ∧ gA G' 707 o t = nI 0) ∧ ∀ t, t < i → gA G' 706 o t = gA G 706 o t ∧ gA G' 707 o t = gA G 707 o t := by
  intro n
  induction n with
  | zero =>
    intro i G hi
    rw [show i = 5 by omega]
    exact ⟨G, rfl, tfr.rf, fun t h1 h2 => by omega, fun t ht => ⟨rfl, rfl⟩⟩
  | succ n ih =>
    intro i G hi
    obtain ⟨G5, hG5⟩ : ∃ g, g = sA (sA G 706 o (upd (gA G 706 o) i (gA G 507 p i))) 707 o (upd (gA G 707 o) i (nI 0)) := ⟨_, rfl⟩
    have f5 : tfr (fun f o' => 706 ≤ f ∧ f ≤ 707 ∧ o' = o) G G5 := by
      rw [hG5]
      exact tfrA (tfrA tfr.rf ⟨by omega, by omega, rfl⟩) ⟨by omega, by omega, rfl⟩
    obtain ⟨G', e1, e2, e3, e4⟩ := ih (i + 1) G5 (by omega)
    have r5 : gA G5 507 p = gA G 507 p := (f5 507 p (by omega)).2.2.2.1
    refine ⟨G', ?_, f5.tr e2, fun t h1 h2 => ?_, fun t ht => ?_⟩
    · rw [← e1, e_X7_begin_61]
      simp (disch := omega) only [tltP, ttin, nI_clamp, gA_ne, nI_add, hG5]
    · by_cases hx : t = i
      · subst hx
        obtain ⟨z1, z2⟩ := e4 t (by omega)
        rw [z1, z2, hG5]
        simp (disch := omega) only [gA_ne, gA_eq, upd_eq, and_self]
      · obtain ⟨z1, z2⟩ := e3 t (by omega) h2
        rw [z1, z2, r5]
        exact ⟨rfl, rfl⟩
    · obtain ⟨z1, z2⟩ := e4 t (by omega)
      rw [z1, z2, hG5]
      simp (disch := omega) only [gA_ne, gA_eq, upd_ne, and_self]
def zT (o : Nat) : Nat → Nat → Prop := fun f o' => 700 ≤ f ∧ f < 800 ∧ o' = o
theorem c_begin {G : tH} {o p : Nat} {pr : mP} (hP : cP G p pr) (ho : okP pr) : ∃ G', V_X7_begin o p G = some (none, G') ∧ cS G' o p pr (fBegin pr) ∧ tfr (zT o) G G' := by
  have hT := ho.1
  have hC := ho.2.1
  obtain ⟨G1, e1, f1, t1, -⟩ := begin_t o p trivial 6 0 (sR G 700 o p) (by omega)
  obtain ⟨G2, e2, f2, c2, -⟩ := begin_c o p 5 0 G1 (by omega)
  have f1' : tfr (zT o) G G1 := (tfr.sR ⟨by omega, by omega, rfl⟩).tr (f1.mono fun f o' q => ⟨by omega, by omega, q.2.2⟩)
  have f2' : tfr (zT o) G G2 := f1'.tr (f2.mono fun f o' q => ⟨by omega, by omega, q.2.2⟩)
  have e3 : V_X7_begin o p G = some (none, sI (sI (sI (sI (sI (sI (sI G2 708 o (nI 0)) 709 o (nI 0)) 710 o (-1)) 711 o (nI 0)) 712 o (nI 0)) 713 o (nI 0)) 714 o (nI 0)) := by
    have e1' : V_X7_begin_7 o p (nI 0) (sR G 700 o p) = V_X7_begin_7 o p (nI 6) G1 := e1
    have e2' : V_X7_begin_61 o p (nI 0) G1 = V_X7_begin_61 o p (nI 5) G2 := e2
    rw [e_X7_begin, e1', e_X7_begin_7, tltM (by omega) (by omega) (by omega), e2', e_X7_begin_61, tltM (by omega) (by omega) (by omega)]
  have hR : gR G2 700 o = p := by
    rw [(f2 700 o (by omega)).2.2.1, (f1 700 o (by omega)).2.2.1, gR_eq]
  have r2 : ∀ f, 701 ≤ f → f ≤ 705 → gA G2 f o = gA G1 f o := fun f h1 h2 => (f2 f o (by omega)).2.2.2.1
  have r505 : gA (sR G 700 o p) 505 p = gA G 505 p := rfl
  have r507 : gA G1 507 p = gA G 507 p := (f1 507 p (by omega)).2.2.2.1
  refine ⟨_, e3, ⟨?_, fun t ht => ?_, fun c hc => ?_, ?_, ?_, ?_, ?_, ?_, ?_, ?_⟩, ?_⟩
  · simp only [gR_sI, hR]
  · obtain ⟨q1, q2, q3, q4, q5⟩ := t1 t (by omega) (by omega)
    simp (disch := omega) only [gA_sI, r2, q1, q2, q3, q4, q5, r505, (hP.2.2.2.2.2.2.1 t ht).2]
    exact ⟨rfl, rfl, rfl, rfl, rfl⟩
  · obtain ⟨q1, q2⟩ := c2 c (by omega) (by omega)
    simp (disch := omega) only [gA_sI, q1, q2, r507, (hP.2.2.2.2.2.2.2.1 c hc).2]
    refine ⟨?_, rfl⟩
    show nI (pr 3 c) = if c = 10 then 0 else if c = 11 then 0 else nI (pr 3 c)
    rw [if_neg (by omega), if_neg (by omega)]
  · refine ⟨0, by omega, ?_, fun j _ => ?_⟩
    · simp (disch := omega) only [gI_ne, gI_eq]
    · rw [Nat.zero_div]; rfl
  · refine ⟨0, by omega, ?_, fun j _ => ?_⟩
    · simp (disch := omega) only [gI_ne, gI_eq]
    · rw [Nat.zero_div]; rfl
  · simp (disch := omega) only [gI_ne, gI_eq]; rfl
  · simp (disch := omega) only [gI_ne, gI_eq]; rfl
  · simp (disch := omega) only [gI_ne, gI_eq]; rfl
  · simp (disch := omega) only [gI_ne, gI_eq]; rfl
  · simp (disch := omega) only [gI_ne, gI_eq]; rfl
  · exact tfrI (tfrI (tfrI (tfrI (tfrI (tfrI (tfrI f2' ⟨by omega, by omega, rfl⟩) ⟨by omega, by omega, rfl⟩) ⟨by omega, by omega, rfl⟩) ⟨by omega, by omega, rfl⟩) ⟨by omega, by omega, rfl⟩) ⟨by omega, by omega, rfl⟩) ⟨by omega, by omega, rfl⟩
theorem ok_begin {pr : mP} (ho : okP pr) : okS pr (fBegin pr) := by
  refine ⟨fun t ht => ⟨?_, rfl, Nat.zero_le _, Nat.zero_le _⟩, fun c hc => Nat.zero_le _, fun t => Nat.zero_le _, fun j => Nat.zero_le _, Nat.zero_le _, Nat.zero_le _⟩
  have := (ho.2.2.2.2.2.2.1 t ht).2
  show pr 1 t ≤ 9999
  omega
/-! a state copied -/
theorem tcp6 {a b : Option tRes} : tif (tcpok (nI 0) (nI 0) (nI 6) 6 6) a b = a := tif_pos (by decide +kernel)
theorem tcp5 {a b : Option tRes} : tif (tcpok (nI 0) (nI 0) (nI 5) 5 5) a b = a := tif_pos (by decide +kernel)
theorem cpy_in {f g : Nat → Int32} {n j : Nat} (h : j < n) : va_cpy f g 0 0 n j = f j := by
  rw [pk_cpy_in (Nat.zero_le _) (by omega)]
  congr 1
  omega
theorem c_copy {G : tH} {o o1 p : Nat} {pr : mP} {sg : mS} (ho : okP pr) (hS : cS G o1 p pr sg) (hne : o ≠ o1) : ∃ G', V_X7_copyFrom o o1 G = some (none, G') ∧ cS G' o p pr sg ∧ tfr (zT o) G G' := by
  have hT := ho.1
  have hC := ho.2.1
  obtain ⟨a1, a2, a3, a4, a5, a6, a7, a8, a9, a10⟩ := hS
  have hne' : o1 ≠ o := hne.symm
  rw [e_X7_copyFrom]
  simp (disch := omega) only [tcp6, tcp5, nI_clamp, gA_sR, gA_ne, gA_no, gI_sA, gI_sR, gI_ne, gI_no]
  refine ⟨_, rfl, ⟨?_, fun t ht => ?_, fun c hc => ?_, ?_, ?_, ?_, ?_, ?_, ?_, ?_⟩, ?_⟩
  · simp only [gR_sI, gR_sA, gR_eq, a1]
  · obtain ⟨q1, q2, q3, q4, q5⟩ := a2 t ht
    simp (disch := omega) only [gA_sI, gA_ne, gA_eq, cpy_in, q1, q2, q3, q4, q5, and_self]
  · obtain ⟨q1, q2⟩ := a3 c hc
    simp (disch := omega) only [gA_sI, gA_ne, gA_eq, cpy_in, q1, q2, and_self]
  · simp (disch := omega) only [gI_ne, gI_eq]; exact a4
  · simp (disch := omega) only [gI_ne, gI_eq]; exact a5
  · simp (disch := omega) only [gI_ne, gI_eq, a6]
  · simp (disch := omega) only [gI_ne, gI_eq, a7]
  · simp (disch := omega) only [gI_ne, gI_eq, a8]
  · simp (disch := omega) only [gI_ne, gI_eq, a9]
  · simp (disch := omega) only [gI_ne, gI_eq, a10]
  · repeat' first | exact tfr.rf | (refine tfrA ?_ ⟨by omega, by omega, rfl⟩) | (refine tfrI ?_ ⟨by omega, by omega, rfl⟩) | (refine tfrR ?_ ⟨by omega, by omega, rfl⟩)
