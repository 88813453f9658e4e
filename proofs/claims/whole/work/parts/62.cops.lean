/-! PURE: the class' acts upon a state -/
def mkH (sg : mS) : Nat := sg.1 10 0 - 1
/-- TAKE -/
def mayTake (pr : mP) (sg : mS) (t x : Nat) : Prop := sg.1 10 0 ≠ 0 ∧ t < nT pr ∧ sg.1 8 t = 0 ∧ 1 ≤ x ∧ x ≤ 9999 ∧ x ≤ sg.1 2 t
def aTake (pr : mP) (sg : mS) (t x : Nat) : Nat := ((sg.1 4 t + x) - tthN pr (sg.1 3 t)) - (sg.1 4 t - tthN pr (sg.1 3 t))
def fTake (pr : mP) (sg : mS) (t x : Nat) : mS := (u1 (u1 (u1 sg.1 4 t (sg.1 4 t + x)) 2 t (sg.1 2 t - x)) 1 t (sg.1 1 t - hmN pr t (aTake pr sg t x)), upd (upd sg.2 (mkH sg) (sg.2 (mkH sg) + nI x)) 10 (sg.2 10 + nI (aTake pr sg t x)))
theorem zS_p {o : Nat} : ∀ f o', zS o f o' → ¬ (500 ≤ f ∧ f < 700) := fun f o' h => by rcases h with h | h <;> omega
theorem c_take {G : tH} {o p : Nat} {pr : mP} {sg : mS} (hP : cP G p pr) (ho : okP pr) (hS : cS G o p pr sg) (hs : okS pr sg) {t x : Nat} (hm : mayTake pr sg t x) :
    ∃ G', V_X7_takeFrom o (nI t) (nI x) G = some (some (vI (nI (aTake pr sg t x))), G') ∧ cS G' o p pr (fTake pr sg t x) ∧ tfr (zS o) G G' := by
  obtain ⟨m1, m2, m3, m4, m5, m6⟩ := hm
  have hT := ho.1
  have hC := ho.2.1
  have hh := hs.2.2.2.2.1
  obtain ⟨b1, b2, b3, b4⟩ := hs.1 t m2
  have hh5 : mkH sg < 5 := by unfold mkH; omega
  have hhC : mkH sg < nC pr := by unfold mkH; omega
  obtain ⟨k1, k2, k3, k4, k5⟩ := hS.2.1 t m2
  have hhol : gI G 710 o = nI (mkH sg) := by rw [hS.2.2.2.2.2.1, hI_pos m1]; rfl
  have htt := tthN_le ho b3
  have hat : aTake pr sg t x ≤ 9999 := by unfold aTake; omega
  have hat' : sg.1 4 t + x - tthN pr (sg.1 3 t) - (sg.1 4 t - tthN pr (sg.1 3 t)) ≤ 9999 := hat
  have e1 : V_X7_takeFrom o (nI t) (nI x) G = some (some (vI (nI (aTake pr sg t x))), sA (sI (sA (sA (sA G 704 o (upd (gA G 704 o) t (nI (sg.1 4 t + x)))) 702 o (upd (gA G 702 o) t (nI (sg.1 2 t - x)))) 706 o (upd (gA G 706 o) (mkH sg) (sg.2 (mkH sg) + nI x))) 713 o (sg.2 10 + nI (aTake pr sg t x))) 701 o (upd (gA G 701 o) t (nI (sg.1 1 t - hmN pr t (aTake pr sg t x))))) := by
    rw [e_X7_takeFrom, v_isHeld hP hS ho hs, if_neg m1, tbI_v, tn1, hS.1, v_has, hP.1, if_pos ⟨nI_pos (by omega), (nI_ltI (by omega) (by omega)).mpr m2⟩, tbI_v, tn1, v_isSpared hS hs (by omega), m3, tbI_v, tn0]
    simp (disch := omega) only [tltM, ttin, nI_clamp, k1, k2, k3, hS.1, v_titheOf hP ho b3, tbI_v, k4, nI_add, nI_subcut, gA_eq, upd_eq, gA_ne, gI_sA, gR_sA, gR_sI, gA_sI, nI_sub, hhol, (hS.2.2.1 _ hhC).1, hS.2.2.2.2.2.2.2.2.1]
    rw [v_meansBehind (hP.kept (S := zS o) ?_ ?_) ho m2 b1 hat', tbI_v]
    · rfl
    · repeat' first | exact tfr.rf | (refine tfrA ?_ (Or.inl ⟨by omega, by omega, rfl⟩)) | (refine tfrI ?_ (Or.inl ⟨by omega, by omega, rfl⟩))
    · exact zS_p
  refine ⟨_, e1, ?_, ?_⟩
  · obtain ⟨a1, a2, a3, a4, a5, a6, a7, a8, a9, a10⟩ := hS
    refine ⟨?_, fun t' ht' => ?_, fun c hc => ?_, ?_, ?_, ?_, ?_, ?_, ?_, ?_⟩
    · simp (disch := omega) only [gR_sA, gR_sI, a1]
    · obtain ⟨q1, q2, q3, q4, q5⟩ := a2 t' ht'
      by_cases h : t' = t
      · subst h
        simp (disch := omega) only [gA_eq, gA_ne, gA_sI, upd_eq, fTake, u1_eq, u1_nk, q3, q5, and_self]
      · simp (disch := omega) only [gA_eq, gA_ne, gA_sI, upd_ne, fTake, u1_nk, u1_ni, q1, q2, q3, q4, q5, and_self]
    · obtain ⟨q1, q2⟩ := a3 c hc
      by_cases h : c = mkH sg
      · subst h
        simp (disch := omega) only [gA_eq, gA_ne, gA_sI, upd_eq, upd_ne, fTake, u1_nk, q2, and_self]
      · simp (disch := omega) only [gA_eq, gA_ne, gA_sI, upd_ne, fTake, u1_nk, q1, q2, and_self]
    · simp (disch := omega) only [gI_sA, gI_ne, fTake, u1_nk]; exact a4
    · simp (disch := omega) only [gI_sA, gI_ne, fTake, u1_nk]; exact a5
    · simp (disch := omega) only [gI_sA, gI_ne, fTake, u1_nk]; exact a6
    · simp (disch := omega) only [gI_sA, gI_ne, fTake, u1_nk]; exact a7
    · simp (disch := omega) only [gI_sA, gI_ne, fTake, u1_nk]; exact a8
    · simp (disch := omega) only [gI_sA, gI_eq, fTake, upd_eq]
    · simp (disch := omega) only [gI_sA, gI_ne, fTake, upd_ne]; exact a10
  · repeat' first | exact tfr.rf | (refine tfrA ?_ (Or.inl ⟨by omega, by omega, rfl⟩)) | (refine tfrI ?_ (Or.inl ⟨by omega, by omega, rfl⟩))
theorem ok_take {pr : mP} {sg : mS} (ho : okP pr) (hs : okS pr sg) {t x : Nat} (hm : mayTake pr sg t x) : okS pr (fTake pr sg t x) := by
  obtain ⟨m1, m2, m3, m4, m5, m6⟩ := hm
  obtain ⟨a1, a2, a3, a4, a5, a6⟩ := hs
  refine ⟨fun t' ht' => ?_, fun c hc => ?_, fun t' => ?_, fun j => ?_, ?_, ?_⟩
  · have q := a1 t' ht'
    by_cases h : t' = t
    · subst h
      simp (disch := omega) only [fTake, u1_eq, u1_nk]
      omega
    · simp (disch := omega) only [fTake, u1_nk, u1_ni]
      exact q
  · simp (disch := omega) only [fTake, u1_nk]; exact a2 c hc
  · simp (disch := omega) only [fTake, u1_nk]; exact a3 t'
  · simp (disch := omega) only [fTake, u1_nk]; exact a4 j
  · simp (disch := omega) only [fTake, u1_nk]; exact a5
  · simp (disch := omega) only [fTake, u1_nk]; exact a6
/-- LEND -/
def mayLend (pr : mP) (sg : mS) (t x : Nat) : Prop := sg.1 10 0 ≠ 0 ∧ t < nT pr ∧ 1 ≤ x ∧ x ≤ 9999 ∧ ¬ sg.2 (mkH sg) < nI x
def fLend (sg : mS) (t x : Nat) : mS := (u1 (u1 sg.1 1 t (min 9999 (sg.1 1 t + x))) 5 t (min 9999 (sg.1 5 t + x)), upd sg.2 (mkH sg) (sg.2 (mkH sg) - nI x))
theorem c_lend {G : tH} {o p : Nat} {pr : mP} {sg : mS} (hP : cP G p pr) (ho : okP pr) (hS : cS G o p pr sg) (hs : okS pr sg) {t x : Nat} (hm : mayLend pr sg t x) :
    ∃ G', V_X7_lendTo o (nI t) (nI x) G = some (some (vI (nI (min 9999 (sg.1 5 t + x)))), G') ∧ cS G' o p pr (fLend sg t x) ∧ tfr (zS o) G G' := by
  obtain ⟨m1, m2, m3, m4, m5⟩ := hm
  have hT := ho.1
  have hC := ho.2.1
  have hJ := ho.2.2.2.1
  have hh := hs.2.2.2.2.1
  have hh5 : mkH sg < 5 := by unfold mkH; omega
  have hhC : mkH sg < nC pr := by unfold mkH; omega
  have hhol : gI G 710 o = nI (mkH sg) := by rw [hS.2.2.2.2.2.1, hI_pos m1]; rfl
  obtain ⟨b1, b2, b3, b4⟩ := hs.1 t m2
  obtain ⟨k1, k2, k3, k4, k5⟩ := hS.2.1 t m2
  have e1 : V_X7_lendTo o (nI t) (nI x) G = some (some (vI (nI (min 9999 (sg.1 5 t + x)))), sA (sA (sA G 706 o (upd (gA G 706 o) (mkH sg) (sg.2 (mkH sg) - nI x))) 701 o (upd (gA G 701 o) t (nI (min 9999 (sg.1 1 t + x))))) 705 o (upd (gA G 705 o) t (nI (min 9999 (sg.1 5 t + x))))) := by
    rw [e_X7_lendTo, v_isHeld hP hS ho hs, if_neg m1, tbI_v, tn1, hS.1, v_has, hP.1, if_pos ⟨nI_pos (by omega), (nI_ltI (by omega) (by omega)).mpr m2⟩, tbI_v, tn1]
    simp (disch := omega) only [tltM, ttin, nI_clamp, gA_eq, gA_ne, gA_sI, gA_sR, gI_sA, gI_eq, gI_ne, gI_sR, gR_sA, gR_sI, upd_eq, upd_ne, u1_eq, u1_nk, u1_ni, k1, k5, hhol, (hS.2.2.1 _ hhC).1, tif_neg m5, nI_add, nI_minc]
  refine ⟨_, e1, ?_, ?_⟩
  · obtain ⟨a1, a2, a3, a4, a5, a6, a7, a8, a9, a10⟩ := hS
    refine ⟨?_, fun t' ht' => ?_, fun c hc => ?_, ?_, ?_, ?_, ?_, ?_, ?_, ?_⟩
    · simp (disch := omega) only [gA_eq, gA_ne, gA_sI, gA_sR, gI_sA, gI_eq, gI_ne, gI_sR, gR_sA, gR_sI, upd_eq, upd_ne, u1_eq, u1_nk, u1_ni, a1]
    · obtain ⟨q1, q2, q3, q4, q5⟩ := a2 t' ht'
      by_cases h : t' = t
      · subst h
        simp (disch := omega) only [gA_eq, gA_ne, gA_sI, gA_sR, gI_sA, gI_eq, gI_ne, gI_sR, gR_sA, gR_sI, upd_eq, upd_ne, u1_eq, u1_nk, u1_ni, fLend, q1, q2, q3, q4, q5, and_self]
      · simp (disch := omega) only [gA_eq, gA_ne, gA_sI, gA_sR, gI_sA, gI_eq, gI_ne, gI_sR, gR_sA, gR_sI, upd_eq, upd_ne, u1_eq, u1_nk, u1_ni, fLend, q1, q2, q3, q4, q5, and_self]
    · obtain ⟨q1, q2⟩ := a3 c hc
      by_cases h : c = mkH sg
      · subst h
        simp (disch := omega) only [gA_eq, gA_ne, gA_sI, gA_sR, gI_sA, gI_eq, gI_ne, gI_sR, gR_sA, gR_sI, upd_eq, upd_ne, u1_eq, u1_nk, u1_ni, fLend, q1, q2, and_self]
      · simp (disch := omega) only [gA_eq, gA_ne, gA_sI, gA_sR, gI_sA, gI_eq, gI_ne, gI_sR, gR_sA, gR_sI, upd_eq, upd_ne, u1_eq, u1_nk, u1_ni, fLend, q1, q2, and_self]
    · simp (disch := omega) only [gA_eq, gA_ne, gA_sI, gA_sR, gI_sA, gI_eq, gI_ne, gI_sR, gR_sA, gR_sI, upd_eq, upd_ne, u1_eq, u1_nk, u1_ni, fLend]; exact a4
    · simp (disch := omega) only [gA_eq, gA_ne, gA_sI, gA_sR, gI_sA, gI_eq, gI_ne, gI_sR, gR_sA, gR_sI, upd_eq, upd_ne, u1_eq, u1_nk, u1_ni, fLend]; exact a5
    · simp (disch := omega) only [gA_eq, gA_ne, gA_sI, gA_sR, gI_sA, gI_eq, gI_ne, gI_sR, gR_sA, gR_sI, upd_eq, upd_ne, u1_eq, u1_nk, u1_ni, fLend, a6]
    · simp (disch := omega) only [gA_eq, gA_ne, gA_sI, gA_sR, gI_sA, gI_eq, gI_ne, gI_sR, gR_sA, gR_sI, upd_eq, upd_ne, u1_eq, u1_nk, u1_ni, fLend, a7]
    · simp (disch := omega) only [gA_eq, gA_ne, gA_sI, gA_sR, gI_sA, gI_eq, gI_ne, gI_sR, gR_sA, gR_sI, upd_eq, upd_ne, u1_eq, u1_nk, u1_ni, fLend, a8]
    · simp (disch := omega) only [gA_eq, gA_ne, gA_sI, gA_sR, gI_sA, gI_eq, gI_ne, gI_sR, gR_sA, gR_sI, upd_eq, upd_ne, u1_eq, u1_nk, u1_ni, fLend, a9]
    · simp (disch := omega) only [gA_eq, gA_ne, gA_sI, gA_sR, gI_sA, gI_eq, gI_ne, gI_sR, gR_sA, gR_sI, upd_eq, upd_ne, u1_eq, u1_nk, u1_ni, fLend, a10]
  · repeat' first | exact tfr.rf | (refine tfrA ?_ (Or.inl ⟨by omega, by omega, rfl⟩)) | (refine tfrI ?_ (Or.inl ⟨by omega, by omega, rfl⟩))
theorem ok_lend {pr : mP} {sg : mS} (hs : okS pr sg) {t x : Nat} : okS pr (fLend sg t x) := by
  obtain ⟨a1, a2, a3, a4, a5, a6⟩ := hs
  refine ⟨fun t' ht' => ?_, fun c hc => ?_, fun t' => ?_, fun j => ?_, ?_, ?_⟩
  · have q := a1 t' ht'
    by_cases h : t' = t
    · subst h
      simp (disch := omega) only [fLend, u1_eq, u1_nk]
      omega
    · simp (disch := omega) only [fLend, u1_nk, u1_ni]
      exact q
  · simp (disch := omega) only [fLend, u1_nk]; exact a2 c hc
  · simp (disch := omega) only [fLend, u1_nk]; exact a3 t'
  · simp (disch := omega) only [fLend, u1_nk]; exact a4 j
  · simp (disch := omega) only [fLend, u1_nk]; exact a5
  · simp (disch := omega) only [fLend, u1_nk]; exact a6
/-- CALL -/
def mayCall (pr : mP) (sg : mS) (t x : Nat) : Prop := sg.1 10 0 ≠ 0 ∧ t < nT pr ∧ 1 ≤ x ∧ x ≤ sg.1 5 t ∧ x ≤ sg.1 1 t
def fCall (sg : mS) (t x : Nat) : mS := (u1 (u1 sg.1 1 t (sg.1 1 t - x)) 5 t (sg.1 5 t - x), upd sg.2 (mkH sg) (sg.2 (mkH sg) + nI x))
theorem c_call {G : tH} {o p : Nat} {pr : mP} {sg : mS} (hP : cP G p pr) (ho : okP pr) (hS : cS G o p pr sg) (hs : okS pr sg) {t x : Nat} (hm : mayCall pr sg t x) :
    ∃ G', V_X7_callIn o (nI t) (nI x) G = some (some (vI (nI (sg.1 5 t - x))), G') ∧ cS G' o p pr (fCall sg t x) ∧ tfr (zS o) G G' := by
  obtain ⟨m1, m2, m3, m4, m5⟩ := hm
  have hT := ho.1
  have hC := ho.2.1
  have hJ := ho.2.2.2.1
  have hh := hs.2.2.2.2.1
  have hh5 : mkH sg < 5 := by unfold mkH; omega
  have hhC : mkH sg < nC pr := by unfold mkH; omega
  have hhol : gI G 710 o = nI (mkH sg) := by rw [hS.2.2.2.2.2.1, hI_pos m1]; rfl
  obtain ⟨b1, b2, b3, b4⟩ := hs.1 t m2
  obtain ⟨k1, k2, k3, k4, k5⟩ := hS.2.1 t m2
  have e1 : V_X7_callIn o (nI t) (nI x) G = some (some (vI (nI (sg.1 5 t - x))), sA (sA (sA G 701 o (upd (gA G 701 o) t (nI (sg.1 1 t - x)))) 705 o (upd (gA G 705 o) t (nI (sg.1 5 t - x)))) 706 o (upd (gA G 706 o) (mkH sg) (sg.2 (mkH sg) + nI x))) := by
    rw [e_X7_callIn, v_isHeld hP hS ho hs, if_neg m1, tbI_v, tn1, hS.1, v_has, hP.1, if_pos ⟨nI_pos (by omega), (nI_ltI (by omega) (by omega)).mpr m2⟩, tbI_v, tn1]
    simp (disch := omega) only [tltM, ttin, nI_clamp, gA_eq, gA_ne, gA_sI, gA_sR, gI_sA, gI_eq, gI_ne, gI_sR, gR_sA, gR_sI, upd_eq, upd_ne, u1_eq, u1_nk, u1_ni, k1, k5, hhol, (hS.2.2.1 _ hhC).1, nI_sub]
  refine ⟨_, e1, ?_, ?_⟩
  · obtain ⟨a1, a2, a3, a4, a5, a6, a7, a8, a9, a10⟩ := hS
    refine ⟨?_, fun t' ht' => ?_, fun c hc => ?_, ?_, ?_, ?_, ?_, ?_, ?_, ?_⟩
    · simp (disch := omega) only [gA_eq, gA_ne, gA_sI, gA_sR, gI_sA, gI_eq, gI_ne, gI_sR, gR_sA, gR_sI, upd_eq, upd_ne, u1_eq, u1_nk, u1_ni, a1]
    · obtain ⟨q1, q2, q3, q4, q5⟩ := a2 t' ht'
      by_cases h : t' = t
      · subst h
        simp (disch := omega) only [gA_eq, gA_ne, gA_sI, gA_sR, gI_sA, gI_eq, gI_ne, gI_sR, gR_sA, gR_sI, upd_eq, upd_ne, u1_eq, u1_nk, u1_ni, fCall, q1, q2, q3, q4, q5, and_self]
      · simp (disch := omega) only [gA_eq, gA_ne, gA_sI, gA_sR, gI_sA, gI_eq, gI_ne, gI_sR, gR_sA, gR_sI, upd_eq, upd_ne, u1_eq, u1_nk, u1_ni, fCall, q1, q2, q3, q4, q5, and_self]
    · obtain ⟨q1, q2⟩ := a3 c hc
      by_cases h : c = mkH sg
      · subst h
        simp (disch := omega) only [gA_eq, gA_ne, gA_sI, gA_sR, gI_sA, gI_eq, gI_ne, gI_sR, gR_sA, gR_sI, upd_eq, upd_ne, u1_eq, u1_nk, u1_ni, fCall, q1, q2, and_self]
      · simp (disch := omega) only [gA_eq, gA_ne, gA_sI, gA_sR, gI_sA, gI_eq, gI_ne, gI_sR, gR_sA, gR_sI, upd_eq, upd_ne, u1_eq, u1_nk, u1_ni, fCall, q1, q2, and_self]
    · simp (disch := omega) only [gA_eq, gA_ne, gA_sI, gA_sR, gI_sA, gI_eq, gI_ne, gI_sR, gR_sA, gR_sI, upd_eq, upd_ne, u1_eq, u1_nk, u1_ni, fCall]; exact a4
    · simp (disch := omega) only [gA_eq, gA_ne, gA_sI, gA_sR, gI_sA, gI_eq, gI_ne, gI_sR, gR_sA, gR_sI, upd_eq, upd_ne, u1_eq, u1_nk, u1_ni, fCall]; exact a5
    · simp (disch := omega) only [gA_eq, gA_ne, gA_sI, gA_sR, gI_sA, gI_eq, gI_ne, gI_sR, gR_sA, gR_sI, upd_eq, upd_ne, u1_eq, u1_nk, u1_ni, fCall, a6]
    · simp (disch := omega) only [gA_eq, gA_ne, gA_sI, gA_sR, gI_sA, gI_eq, gI_ne, gI_sR, gR_sA, gR_sI, upd_eq, upd_ne, u1_eq, u1_nk, u1_ni, fCall, a7]
    · simp (disch := omega) only [gA_eq, gA_ne, gA_sI, gA_sR, gI_sA, gI_eq, gI_ne, gI_sR, gR_sA, gR_sI, upd_eq, upd_ne, u1_eq, u1_nk, u1_ni, fCall, a8]
    · simp (disch := omega) only [gA_eq, gA_ne, gA_sI, gA_sR, gI_sA, gI_eq, gI_ne, gI_sR, gR_sA, gR_sI, upd_eq, upd_ne, u1_eq, u1_nk, u1_ni, fCall, a9]
    · simp (disch := omega) only [gA_eq, gA_ne, gA_sI, gA_sR, gI_sA, gI_eq, gI_ne, gI_sR, gR_sA, gR_sI, upd_eq, upd_ne, u1_eq, u1_nk, u1_ni, fCall, a10]
  · repeat' first | exact tfr.rf | (refine tfrA ?_ (Or.inl ⟨by omega, by omega, rfl⟩)) | (refine tfrI ?_ (Or.inl ⟨by omega, by omega, rfl⟩))
theorem ok_call {pr : mP} {sg : mS} (hs : okS pr sg) {t x : Nat} : okS pr (fCall sg t x) := by
  obtain ⟨a1, a2, a3, a4, a5, a6⟩ := hs
  refine ⟨fun t' ht' => ?_, fun c hc => ?_, fun t' => ?_, fun j => ?_, ?_, ?_⟩
  · have q := a1 t' ht'
    by_cases h : t' = t
    · subst h
      simp (disch := omega) only [fCall, u1_eq, u1_nk]
      omega
    · simp (disch := omega) only [fCall, u1_nk, u1_ni]
      exact q
  · simp (disch := omega) only [fCall, u1_nk]; exact a2 c hc
  · simp (disch := omega) only [fCall, u1_nk]; exact a3 t'
  · simp (disch := omega) only [fCall, u1_nk]; exact a4 j
  · simp (disch := omega) only [fCall, u1_nk]; exact a5
  · simp (disch := omega) only [fCall, u1_nk]; exact a6
/-- BRIBE -/
def mayBribe (pr : mP) (sg : mS) (j : Nat) : Prop := sg.1 10 0 ≠ 0 ∧ j < nJ pr ∧ sg.1 9 j = 0 ∧ ¬ sg.2 (mkH sg) < nI (pr 7 j)
def fBribe (pr : mP) (sg : mS) (j : Nat) : mS := (u1 sg.1 9 j 1, upd sg.2 (mkH sg) (sg.2 (mkH sg) - nI (pr 7 j)))
theorem c_bribe {G : tH} {o p : Nat} {pr : mP} {sg : mS} (hP : cP G p pr) (ho : okP pr) (hS : cS G o p pr sg) (hs : okS pr sg) {j : Nat} (hm : mayBribe pr sg j) :
    ∃ G', V_X7_bribeJuror o (nI j) G = some (some (vI (nI 1)), G') ∧ cS G' o p pr (fBribe pr sg j) ∧ tfr (zS o) G G' := by
  obtain ⟨m1, m2, m3, m5⟩ := hm
  have hT := ho.1
  have hC := ho.2.1
  have hJ := ho.2.2.2.1
  have hh := hs.2.2.2.2.1
  have hh5 : mkH sg < 5 := by unfold mkH; omega
  have hhC : mkH sg < nC pr := by unfold mkH; omega
  have hhol : gI G 710 o = nI (mkH sg) := by rw [hS.2.2.2.2.2.1, hI_pos m1]; rfl
  obtain ⟨k1, k2⟩ := hP.2.2.2.2.2.2.2.2.2 j m2
  obtain ⟨mm, hmm, g1, g2⟩ := hS.2.2.2.2.1
  obtain ⟨s1, s2, s3⟩ := set5 mm hmm j (by omega)
  have e1 : V_X7_bribeJuror o (nI j) G = some (some (vI (nI 1)), sI (sA G 706 o (upd (gA G 706 o) (mkH sg) (sg.2 (mkH sg) - nI (pr 7 j)))) 709 o (nI (mm ||| 2 ^ j))) := by
    rw [e_X7_bribeJuror, v_isHeld hP hS ho hs, if_neg m1, tbI_v, tn1, hS.1, v_has, hP.2.2.2.1, if_pos ⟨nI_pos (by omega), (nI_ltI (by omega) (by omega)).mpr m2⟩, tbI_v, tn1, v_isBribed hS hs (by omega), m3, tbI_v, tn0]
    simp (disch := omega) only [tltM, ttin, nI_clamp, gA_eq, gA_ne, gA_sI, gA_sR, gI_sA, gI_eq, gI_ne, gI_sR, gR_sA, gR_sI, upd_eq, upd_ne, u1_eq, u1_nk, u1_ni, k2, hhol, (hS.2.2.1 _ hhC).1, tif_neg m5, hS.1, g1, s1, tz1]
  refine ⟨_, e1, ?_, ?_⟩
  · obtain ⟨a1, a2, a3, a4, a5, a6, a7, a8, a9, a10⟩ := hS
    refine ⟨?_, fun t' ht' => ?_, fun c hc => ?_, ?_, ?_, ?_, ?_, ?_, ?_, ?_⟩
    · simp (disch := omega) only [gA_eq, gA_ne, gA_sI, gA_sR, gI_sA, gI_eq, gI_ne, gI_sR, gR_sA, gR_sI, upd_eq, upd_ne, u1_eq, u1_nk, u1_ni, a1]
    · obtain ⟨q1, q2, q3, q4, q5⟩ := a2 t' ht'
      simp (disch := omega) only [gA_eq, gA_ne, gA_sI, gA_sR, gI_sA, gI_eq, gI_ne, gI_sR, gR_sA, gR_sI, upd_eq, upd_ne, u1_eq, u1_nk, u1_ni, fBribe, q1, q2, q3, q4, q5, and_self]
    · obtain ⟨q1, q2⟩ := a3 c hc
      by_cases h : c = mkH sg
      · subst h
        simp (disch := omega) only [gA_eq, gA_ne, gA_sI, gA_sR, gI_sA, gI_eq, gI_ne, gI_sR, gR_sA, gR_sI, upd_eq, upd_ne, u1_eq, u1_nk, u1_ni, fBribe, q1, q2, and_self]
      · simp (disch := omega) only [gA_eq, gA_ne, gA_sI, gA_sR, gI_sA, gI_eq, gI_ne, gI_sR, gR_sA, gR_sI, upd_eq, upd_ne, u1_eq, u1_nk, u1_ni, fBribe, q1, q2, and_self]
    · simp (disch := omega) only [gA_eq, gA_ne, gA_sI, gA_sR, gI_sA, gI_eq, gI_ne, gI_sR, gR_sA, gR_sI, upd_eq, upd_ne, u1_eq, u1_nk, u1_ni, fBribe]; exact a4
    · refine ⟨mm ||| 2 ^ j, s2, gI_eq, fun u hu => ?_⟩
      rw [s3 u hu]
      by_cases h : u = j
      · subst h; rw [if_pos rfl]; simp only [fBribe, u1_eq]
      · rw [if_neg h, g2 u hu]; simp (disch := omega) only [fBribe, u1_ni]
    · simp (disch := omega) only [gA_eq, gA_ne, gA_sI, gA_sR, gI_sA, gI_eq, gI_ne, gI_sR, gR_sA, gR_sI, upd_eq, upd_ne, u1_eq, u1_nk, u1_ni, fBribe, a6]
    · simp (disch := omega) only [gA_eq, gA_ne, gA_sI, gA_sR, gI_sA, gI_eq, gI_ne, gI_sR, gR_sA, gR_sI, upd_eq, upd_ne, u1_eq, u1_nk, u1_ni, fBribe, a7]
    · simp (disch := omega) only [gA_eq, gA_ne, gA_sI, gA_sR, gI_sA, gI_eq, gI_ne, gI_sR, gR_sA, gR_sI, upd_eq, upd_ne, u1_eq, u1_nk, u1_ni, fBribe, a8]
    · simp (disch := omega) only [gA_eq, gA_ne, gA_sI, gA_sR, gI_sA, gI_eq, gI_ne, gI_sR, gR_sA, gR_sI, upd_eq, upd_ne, u1_eq, u1_nk, u1_ni, fBribe, a9]
    · simp (disch := omega) only [gA_eq, gA_ne, gA_sI, gA_sR, gI_sA, gI_eq, gI_ne, gI_sR, gR_sA, gR_sI, upd_eq, upd_ne, u1_eq, u1_nk, u1_ni, fBribe, a10]
  · repeat' first | exact tfr.rf | (refine tfrA ?_ (Or.inl ⟨by omega, by omega, rfl⟩)) | (refine tfrI ?_ (Or.inl ⟨by omega, by omega, rfl⟩))
theorem ok_bribe {pr : mP} {sg : mS} (hs : okS pr sg) {j : Nat} : okS pr (fBribe pr sg j) := by
  obtain ⟨a1, a2, a3, a4, a5, a6⟩ := hs
  refine ⟨fun t' ht' => ?_, fun c hc => ?_, fun t' => ?_, fun u => ?_, ?_, ?_⟩
  · simp (disch := omega) only [fBribe, u1_nk]; exact a1 t' ht'
  · simp (disch := omega) only [fBribe, u1_nk]; exact a2 c hc
  · simp (disch := omega) only [fBribe, u1_nk]; exact a3 t'
  · by_cases h : u = j
    · subst h; simp only [fBribe, u1_eq]; omega
    · simp (disch := omega) only [fBribe, u1_ni]; exact a4 u
  · simp (disch := omega) only [fBribe, u1_nk]; exact a5
  · simp (disch := omega) only [fBribe, u1_nk]; exact a6
/-- BID -/
def mayBid (pr : mP) (sg : mS) (c x : Nat) : Prop := sg.1 10 0 = 0 ∧ c < nC pr ∧ x ≤ 9999 ∧ ¬ sg.2 c < nI x
def fBid (sg : mS) (c x : Nat) : mS := (u1 sg.1 7 c x, sg.2)
theorem c_bid {G : tH} {o p : Nat} {pr : mP} {sg : mS} (hP : cP G p pr) (ho : okP pr) (hS : cS G o p pr sg) (hs : okS pr sg) {c x : Nat} (hm : mayBid pr sg c x) :
    ∃ G', V_X7_placeBid o (nI c) (nI x) G = some (some (vI (nI 1)), G') ∧ cS G' o p pr (fBid sg c x) ∧ tfr (zS o) G G' := by
  obtain ⟨m1, m2, m3, m5⟩ := hm
  have hC := ho.2.1
  have e1 : V_X7_placeBid o (nI c) (nI x) G = some (some (vI (nI 1)), sA G 707 o (upd (gA G 707 o) c (nI x))) := by
    rw [e_X7_placeBid, v_isHeld hP hS ho hs, if_pos m1, tbI_v, tn0, hS.1, v_has, hP.2.1, if_pos ⟨nI_pos (by omega), (nI_ltI (by omega) (by omega)).mpr m2⟩, tbI_v, tn1]
    simp (disch := omega) only [tltM, tlt0, ttin, nI_clamp, gA_eq, gA_ne, gA_sI, gA_sR, gI_sA, gI_eq, gI_ne, gI_sR, gR_sA, gR_sI, upd_eq, upd_ne, u1_eq, u1_nk, u1_ni, (hS.2.2.1 _ m2).1, tif_neg m5, tz1]
  refine ⟨_, e1, ?_, ?_⟩
  · obtain ⟨a1, a2, a3, a4, a5, a6, a7, a8, a9, a10⟩ := hS
    refine ⟨?_, fun t' ht' => ?_, fun c' hc => ?_, ?_, ?_, ?_, ?_, ?_, ?_, ?_⟩
    · simp (disch := omega) only [gA_eq, gA_ne, gA_sI, gA_sR, gI_sA, gI_eq, gI_ne, gI_sR, gR_sA, gR_sI, upd_eq, upd_ne, u1_eq, u1_nk, u1_ni, a1]
    · obtain ⟨q1, q2, q3, q4, q5⟩ := a2 t' ht'
      simp (disch := omega) only [gA_eq, gA_ne, gA_sI, gA_sR, gI_sA, gI_eq, gI_ne, gI_sR, gR_sA, gR_sI, upd_eq, upd_ne, u1_eq, u1_nk, u1_ni, fBid, q1, q2, q3, q4, q5, and_self]
    · obtain ⟨q1, q2⟩ := a3 c' hc
      by_cases h : c' = c
      · subst h
        simp (disch := omega) only [gA_eq, gA_ne, gA_sI, gA_sR, gI_sA, gI_eq, gI_ne, gI_sR, gR_sA, gR_sI, upd_eq, upd_ne, u1_eq, u1_nk, u1_ni, fBid, q1, q2, and_self]
      · simp (disch := omega) only [gA_eq, gA_ne, gA_sI, gA_sR, gI_sA, gI_eq, gI_ne, gI_sR, gR_sA, gR_sI, upd_eq, upd_ne, u1_eq, u1_nk, u1_ni, fBid, q1, q2, and_self]
    · simp (disch := omega) only [gA_eq, gA_ne, gA_sI, gA_sR, gI_sA, gI_eq, gI_ne, gI_sR, gR_sA, gR_sI, upd_eq, upd_ne, u1_eq, u1_nk, u1_ni, fBid]; exact a4
    · simp (disch := omega) only [gA_eq, gA_ne, gA_sI, gA_sR, gI_sA, gI_eq, gI_ne, gI_sR, gR_sA, gR_sI, upd_eq, upd_ne, u1_eq, u1_nk, u1_ni, fBid]; exact a5
    · simp (disch := omega) only [gA_eq, gA_ne, gA_sI, gA_sR, gI_sA, gI_eq, gI_ne, gI_sR, gR_sA, gR_sI, upd_eq, upd_ne, u1_eq, u1_nk, u1_ni, fBid, a6]
    · simp (disch := omega) only [gA_eq, gA_ne, gA_sI, gA_sR, gI_sA, gI_eq, gI_ne, gI_sR, gR_sA, gR_sI, upd_eq, upd_ne, u1_eq, u1_nk, u1_ni, fBid, a7]
    · simp (disch := omega) only [gA_eq, gA_ne, gA_sI, gA_sR, gI_sA, gI_eq, gI_ne, gI_sR, gR_sA, gR_sI, upd_eq, upd_ne, u1_eq, u1_nk, u1_ni, fBid, a8]
    · simp (disch := omega) only [gA_eq, gA_ne, gA_sI, gA_sR, gI_sA, gI_eq, gI_ne, gI_sR, gR_sA, gR_sI, upd_eq, upd_ne, u1_eq, u1_nk, u1_ni, fBid, a9]
    · simp (disch := omega) only [gA_eq, gA_ne, gA_sI, gA_sR, gI_sA, gI_eq, gI_ne, gI_sR, gR_sA, gR_sI, upd_eq, upd_ne, u1_eq, u1_nk, u1_ni, fBid, a10]
  · repeat' first | exact tfr.rf | (refine tfrA ?_ (Or.inl ⟨by omega, by omega, rfl⟩)) | (refine tfrI ?_ (Or.inl ⟨by omega, by omega, rfl⟩))
theorem ok_bid {pr : mP} {sg : mS} (hs : okS pr sg) {c x : Nat} (hx : x ≤ 9999) : okS pr (fBid sg c x) := by
  obtain ⟨a1, a2, a3, a4, a5, a6⟩ := hs
  refine ⟨fun t' ht' => ?_, fun c' hc => ?_, fun t' => ?_, fun u => ?_, ?_, ?_⟩
  · simp (disch := omega) only [fBid, u1_nk]; exact a1 t' ht'
  · by_cases h : c' = c
    · subst h; simp only [fBid, u1_eq]; exact hx
    · simp (disch := omega) only [fBid, u1_ni]; exact a2 c' hc
  · simp (disch := omega) only [fBid, u1_nk]; exact a3 t'
  · simp (disch := omega) only [fBid, u1_nk]; exact a4 u
  · simp (disch := omega) only [fBid, u1_nk]; exact a5
  · simp (disch := omega) only [fBid, u1_nk]; exact a6
/-- CLOSE -/
def mayClose (sg : mS) : Prop := sg.1 10 0 ≠ 0 ∧ sg.1 10 1 = 5
def fClose (sg : mS) : mS := (u1 sg.1 10 0 0, sg.2)
theorem c_close {G : tH} {o p : Nat} {pr : mP} {sg : mS} (hP : cP G p pr) (ho : okP pr) (hS : cS G o p pr sg) (hs : okS pr sg) (hm : mayClose sg) :
    ∃ G', V_X7_closeLease o G = some (some (vI (nI 1)), G') ∧ cS G' o p pr (fClose sg) ∧ tfr (zS o) G G' := by
  obtain ⟨m1, m2⟩ := hm
  have e1 : V_X7_closeLease o G = some (some (vI (nI 1)), sI G 710 o (-1)) := by
    rw [e_X7_closeLease, v_isHeld hP hS ho hs, if_neg m1, tbI_v, tn1, hS.2.2.2.2.2.2.1, m2]
    simp (disch := omega) only [tltM, tz1]
  refine ⟨_, e1, ?_, ?_⟩
  · obtain ⟨a1, a2, a3, a4, a5, a6, a7, a8, a9, a10⟩ := hS
    refine ⟨?_, fun t' ht' => ?_, fun c hc => ?_, ?_, ?_, ?_, ?_, ?_, ?_, ?_⟩
    · simp (disch := omega) only [gA_eq, gA_ne, gA_sI, gA_sR, gI_sA, gI_eq, gI_ne, gI_sR, gR_sA, gR_sI, upd_eq, upd_ne, u1_eq, u1_nk, u1_ni, a1]
    · obtain ⟨q1, q2, q3, q4, q5⟩ := a2 t' ht'
      simp (disch := omega) only [gA_eq, gA_ne, gA_sI, gA_sR, gI_sA, gI_eq, gI_ne, gI_sR, gR_sA, gR_sI, upd_eq, upd_ne, u1_eq, u1_nk, u1_ni, fClose, q1, q2, q3, q4, q5, and_self]
    · obtain ⟨q1, q2⟩ := a3 c hc
      simp (disch := omega) only [gA_eq, gA_ne, gA_sI, gA_sR, gI_sA, gI_eq, gI_ne, gI_sR, gR_sA, gR_sI, upd_eq, upd_ne, u1_eq, u1_nk, u1_ni, fClose, q1, q2, and_self]
    · simp (disch := omega) only [gA_eq, gA_ne, gA_sI, gA_sR, gI_sA, gI_eq, gI_ne, gI_sR, gR_sA, gR_sI, upd_eq, upd_ne, u1_eq, u1_nk, u1_ni, fClose]; exact a4
    · simp (disch := omega) only [gA_eq, gA_ne, gA_sI, gA_sR, gI_sA, gI_eq, gI_ne, gI_sR, gR_sA, gR_sI, upd_eq, upd_ne, u1_eq, u1_nk, u1_ni, fClose]; exact a5
    · rw [gI_eq]; simp only [fClose, u1_eq]; rfl
    · simp (disch := omega) only [gA_eq, gA_ne, gA_sI, gA_sR, gI_sA, gI_eq, gI_ne, gI_sR, gR_sA, gR_sI, upd_eq, upd_ne, u1_eq, u1_nk, u1_ni, fClose, a7]
    · simp (disch := omega) only [gA_eq, gA_ne, gA_sI, gA_sR, gI_sA, gI_eq, gI_ne, gI_sR, gR_sA, gR_sI, upd_eq, upd_ne, u1_eq, u1_nk, u1_ni, fClose, a8]
    · simp (disch := omega) only [gA_eq, gA_ne, gA_sI, gA_sR, gI_sA, gI_eq, gI_ne, gI_sR, gR_sA, gR_sI, upd_eq, upd_ne, u1_eq, u1_nk, u1_ni, fClose, a9]
    · simp (disch := omega) only [gA_eq, gA_ne, gA_sI, gA_sR, gI_sA, gI_eq, gI_ne, gI_sR, gR_sA, gR_sI, upd_eq, upd_ne, u1_eq, u1_nk, u1_ni, fClose, a10]
  · repeat' first | exact tfr.rf | (refine tfrA ?_ (Or.inl ⟨by omega, by omega, rfl⟩)) | (refine tfrI ?_ (Or.inl ⟨by omega, by omega, rfl⟩))
theorem ok_close {pr : mP} {sg : mS} (hs : okS pr sg) : okS pr (fClose sg) := by
  obtain ⟨a1, a2, a3, a4, a5, a6⟩ := hs
  refine ⟨fun t' ht' => ?_, fun c' hc => ?_, fun t' => ?_, fun u => ?_, ?_, ?_⟩
  · simp (disch := omega) only [fClose, u1_nk]; exact a1 t' ht'
  · simp (disch := omega) only [fClose, u1_nk]; exact a2 c' hc
  · simp (disch := omega) only [fClose, u1_nk]; exact a3 t'
  · simp (disch := omega) only [fClose, u1_nk]; exact a4 u
  · simp only [fClose, u1_eq]; omega
  · simp (disch := omega) only [fClose, u1_ni]; exact a6
