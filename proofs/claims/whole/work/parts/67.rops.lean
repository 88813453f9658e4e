/-! PURE: the reference: its acts upon a state -/
theorem rP_st {G : tH} {pr : mP} (h : rP G pr) (a : Nat → Int32) : rP (sA G 1124 0 a) pr := h.kept (S := zR) (tfr.sA (Or.inr (Or.inr rfl))) (by rintro (h | h | h) <;> omega)
theorem r_mayTake {G : tH} {b : Nat} {pr : mP} {sg : mS} (hP : rP G pr) (ho : okP pr) (hS : rS (gA G 1124 0) b pr sg) (hs : okS pr sg) (hb : b + 61 ≤ 1403) {t x : Nat} (m2 : t < nT pr) (hx : x ≤ 9999) : V_X11_mayTake (nI b) (nI t) (nI x) G = some (some (vI (bN (mayTake pr sg t x))), G) := by
  have hT := ho.1
  have hC := ho.2.1
  have hH := ho.2.2.1
  have hJ := ho.2.2.2.1
  have hh := hs.2.2.2.2.1
  obtain ⟨b1, b2, b3, b4⟩ := hs.1 t m2
  have b8 := hs.2.2.1 t
  obtain ⟨k1, k2, k3, k4, k5, k8⟩ := hS.2.2.2.2.2.1 t m2
  rw [e_X11_mayTake, r_isHeld hS hb ho hs, tbI_v]
  by_cases m1 : sg.1 10 0 = 0
  · rw [if_pos m1, tn0, tz0, bN_0 fun h => h.1 m1]
  · rw [if_neg m1, tn1]
    simp (disch := omega) only [nI_add, ttin, nI_clamp, Nat.add_zero, gA_eq, gA_ne, upd_eq, upd_ne, sA_sA, tbI_v, k8, k2, tz0, tz1]
    by_cases m3 : sg.1 8 t = 0
    · rw [tz0P m3]
      by_cases m4 : 1 ≤ x
      · rw [tl0P (by omega) (by omega)]
        by_cases m6 : x ≤ sg.1 2 t
        · rw [tltM (by omega) (by omega) (by omega), bN_1 ⟨m1, m2, m3, m4, hx, m6⟩]
        · rw [tltP (by omega) (by omega) (by omega), bN_0 fun h => m6 h.2.2.2.2.2]
      · rw [tl0M (by omega), bN_0 fun h => m4 h.2.2.2.1]
    · rw [tz0M (by omega) m3, bN_0 fun h => m3 h.2.2.1]
theorem r_mayLend {G : tH} {b : Nat} {pr : mP} {sg : mS} (hP : rP G pr) (ho : okP pr) (hS : rS (gA G 1124 0) b pr sg) (hs : okS pr sg) (hb : b + 61 ≤ 1403) {t x : Nat} (m2 : t < nT pr) (m3 : 1 ≤ x) (hx : x ≤ 9999) : V_X11_mayLend (nI b) (nI x) G = some (some (vI (bN (mayLend pr sg t x))), G) := by
  have hT := ho.1
  have hC := ho.2.1
  have hH := ho.2.2.1
  have hJ := ho.2.2.2.1
  have hh := hs.2.2.2.2.1
  rw [e_X11_mayLend, r_isHeld hS hb ho hs, tbI_v]
  by_cases m1 : sg.1 10 0 = 0
  · rw [if_pos m1, tn0, tz0, bN_0 fun h => h.1 m1]
  · rw [if_neg m1, tn1]
    have hh5 : mkH sg < 5 := by unfold mkH; omega
    have hhC : mkH sg < nC pr := by unfold mkH; omega
    have hhol : gA G 1124 0 b = nI (mkH sg) := by rw [hS.1, hI_pos m1]; rfl
    simp (disch := omega) only [nI_add, ttin, nI_clamp, Nat.add_zero, gA_eq, gA_ne, upd_eq, upd_ne, sA_sA, tbI_v, hhol, (hS.2.2.2.2.2.2.1 _ hhC).1, tz0, tz1]
    by_cases m5 : sg.2 (mkH sg) < nI x
    · rw [tif_pos m5, bN_0 fun h => h.2.2.2.2 m5]
    · rw [tif_neg m5, bN_1 ⟨m1, m2, m3, hx, m5⟩]
theorem r_mayCall {G : tH} {b : Nat} {pr : mP} {sg : mS} (hP : rP G pr) (ho : okP pr) (hS : rS (gA G 1124 0) b pr sg) (hs : okS pr sg) (hb : b + 61 ≤ 1403) {t x : Nat} (m2 : t < nT pr) (m3 : 1 ≤ x) (hx : x < 2 ^ 31) : V_X11_mayCall (nI b) (nI t) (nI x) G = some (some (vI (bN (mayCall pr sg t x))), G) := by
  have hT := ho.1
  have hC := ho.2.1
  have hH := ho.2.2.1
  have hJ := ho.2.2.2.1
  have hh := hs.2.2.2.2.1
  obtain ⟨b1, b2, b3, b4⟩ := hs.1 t m2
  have b8 := hs.2.2.1 t
  obtain ⟨k1, k2, k3, k4, k5, k8⟩ := hS.2.2.2.2.2.1 t m2
  rw [e_X11_mayCall, r_isHeld hS hb ho hs, tbI_v]
  by_cases m1 : sg.1 10 0 = 0
  · rw [if_pos m1, tn0, tz0, bN_0 fun h => h.1 m1]
  · rw [if_neg m1, tn1]
    simp (disch := omega) only [nI_add, ttin, nI_clamp, Nat.add_zero, gA_eq, gA_ne, upd_eq, upd_ne, sA_sA, tbI_v, k5, k1, tz0, tz1]
    by_cases m4 : x ≤ sg.1 5 t
    · rw [tltM (by omega) (by omega) m4]
      by_cases m5 : x ≤ sg.1 1 t
      · rw [tltM (by omega) (by omega) m5, bN_1 ⟨m1, m2, m3, m4, m5⟩]
      · rw [tltP (by omega) (by omega) (by omega), bN_0 fun h => m5 h.2.2.2.2]
    · rw [tltP (by omega) (by omega) (by omega), bN_0 fun h => m4 h.2.2.2.1]
theorem r_mayBribe {G : tH} {b : Nat} {pr : mP} {sg : mS} (hP : rP G pr) (ho : okP pr) (hS : rS (gA G 1124 0) b pr sg) (hs : okS pr sg) (hb : b + 61 ≤ 1403) {j : Nat} (m2 : j < nJ pr) : V_X11_mayBribe (nI b) (nI j) G = some (some (vI (bN (mayBribe pr sg j))), G) := by
  have hT := ho.1
  have hC := ho.2.1
  have hH := ho.2.2.1
  have hJ := ho.2.2.2.1
  have hh := hs.2.2.2.2.1
  have b8 := hs.2.2.2.1 j
  rw [e_X11_mayBribe, r_isHeld hS hb ho hs, tbI_v]
  by_cases m1 : sg.1 10 0 = 0
  · rw [if_pos m1, tn0, tz0, bN_0 fun h => h.1 m1]
  · rw [if_neg m1, tn1]
    have hh5 : mkH sg < 5 := by unfold mkH; omega
    have hhC : mkH sg < nC pr := by unfold mkH; omega
    have hhol : gA G 1124 0 b = nI (mkH sg) := by rw [hS.1, hI_pos m1]; rfl
    simp (disch := omega) only [nI_add, ttin, nI_clamp, Nat.add_zero, gA_eq, gA_ne, upd_eq, upd_ne, sA_sA, tbI_v, pk_mul, hhol, (hS.2.2.2.2.2.2.1 _ hhC).1, hS.2.2.2.2.2.2.2 j m2, (hP.2.2.2.2.2.2.2.2.2 j m2).2, tz0, tz1]
    by_cases m3 : sg.1 9 j = 0
    · rw [tz0P m3]
      by_cases m5 : sg.2 (mkH sg) < nI (pr 7 j)
      · rw [tif_pos m5, bN_0 fun h => h.2.2.2 m5]
      · rw [tif_neg m5, bN_1 ⟨m1, m2, m3, m5⟩]
    · rw [tz0M (by omega) m3, bN_0 fun h => m3 h.2.2.1]
theorem r_mayBid {G : tH} {b : Nat} {pr : mP} {sg : mS} (hP : rP G pr) (ho : okP pr) (hS : rS (gA G 1124 0) b pr sg) (hs : okS pr sg) (hb : b + 61 ≤ 1403) {c x : Nat} (m2 : c < nC pr) (hx : x ≤ 9999) : V_X11_mayBid (nI b) (nI c) (nI x) G = some (some (vI (bN (mayBid pr sg c x))), G) := by
  have hT := ho.1
  have hC := ho.2.1
  have hH := ho.2.2.1
  have hJ := ho.2.2.2.1
  have hh := hs.2.2.2.2.1
  rw [e_X11_mayBid, r_isHeld hS hb ho hs, tbI_v]
  by_cases m1 : sg.1 10 0 = 0
  · rw [if_pos m1, tn0]
    simp (disch := omega) only [nI_add, ttin, nI_clamp, Nat.add_zero, gA_eq, gA_ne, upd_eq, upd_ne, sA_sA, tbI_v, (hS.2.2.2.2.2.2.1 _ m2).1, tz0, tz1]
    by_cases m5 : sg.2 c < nI x
    · rw [tif_pos m5, bN_0 fun h => h.2.2.2 m5]
    · rw [tif_neg m5, bN_1 ⟨m1, m2, hx, m5⟩]
  · rw [if_neg m1, tn1, tz0, bN_0 fun h => m1 h.1]
theorem r_maySpare {G : tH} {b : Nat} {pr : mP} {sg : mS} (hP : rP G pr) (ho : okP pr) (hS : rS (gA G 1124 0) b pr sg) (hs : okS pr sg) (hb : b + 61 ≤ 1403) {t : Nat} (m2 : t < nT pr) : V_X11_maySpare (nI b) (nI t) G = some (some (vI (bN (maySpare pr sg t))), G) := by
  have hT := ho.1
  have hC := ho.2.1
  have hH := ho.2.2.1
  have hJ := ho.2.2.2.1
  have hh := hs.2.2.2.2.1
  obtain ⟨b1, b2, b3, b4⟩ := hs.1 t m2
  have b8 := hs.2.2.1 t
  obtain ⟨k1, k2, k3, k4, k5, k8⟩ := hS.2.2.2.2.2.1 t m2
  rw [e_X11_maySpare, r_isHeld hS hb ho hs, tbI_v]
  by_cases m1 : sg.1 10 0 = 0
  · rw [if_pos m1, tn0, tz0, bN_0 fun h => h.1 m1]
  · rw [if_neg m1, tn1]
    simp (disch := omega) only [nI_add, ttin, nI_clamp, Nat.add_zero, gA_eq, gA_ne, upd_eq, upd_ne, sA_sA, tbI_v, k8, tz0, tz1]
    by_cases m3 : sg.1 8 t = 0
    · rw [tz0P m3, bN_1 ⟨m1, m2, m3⟩]
    · rw [tz0M (by omega) m3, bN_0 fun h => m3 h.2.2]
theorem r_mayYear {G : tH} {b : Nat} {pr : mP} {sg : mS} (hP : rP G pr) (ho : okP pr) (hS : rS (gA G 1124 0) b pr sg) (hs : okS pr sg) (hb : b + 61 ≤ 1403) {h : Nat} (m3 : h < nH pr) : V_X11_mayYear (nI b)  G = some (some (vI (bN (mayYear pr sg h))), G) := by
  have hT := ho.1
  have hC := ho.2.1
  have hH := ho.2.2.1
  have hJ := ho.2.2.2.1
  have hh := hs.2.2.2.2.1
  have h1 := hs.2.2.2.2.2
  rw [e_X11_mayYear, r_isHeld hS hb ho hs, tbI_v]
  by_cases m1 : sg.1 10 0 = 0
  · rw [if_pos m1, tn0, tz0, bN_0 fun h => h.1 m1]
  · rw [if_neg m1, tn1]
    simp (disch := omega) only [nI_add, ttin, nI_clamp, Nat.add_zero, gA_eq, gA_ne, upd_eq, upd_ne, sA_sA, tbI_v, hS.2.1, tz0, tz1]
    by_cases m2 : sg.1 10 1 < 5
    · rw [tltP (by omega) (by omega) m2, bN_1 ⟨m1, m2, m3⟩]
    · rw [tltM (by omega) (by omega) (by omega), bN_0 fun h => m2 h.2.1]
theorem r_mayClose {G : tH} {b : Nat} {pr : mP} {sg : mS} (hP : rP G pr) (ho : okP pr) (hS : rS (gA G 1124 0) b pr sg) (hs : okS pr sg) (hb : b + 61 ≤ 1403)  : V_X11_mayClose (nI b)  G = some (some (vI (bN (mayClose sg))), G) := by
  have hT := ho.1
  have hC := ho.2.1
  have hH := ho.2.2.1
  have hJ := ho.2.2.2.1
  have hh := hs.2.2.2.2.1
  have h1 := hs.2.2.2.2.2
  rw [e_X11_mayClose, r_isHeld hS hb ho hs, tbI_v]
  by_cases m1 : sg.1 10 0 = 0
  · rw [if_pos m1, tn0, tz0, bN_0 fun h => h.1 m1]
  · rw [if_neg m1, tn1]
    simp (disch := omega) only [nI_add, ttin, nI_clamp, Nat.add_zero, gA_eq, gA_ne, upd_eq, upd_ne, sA_sA, tbI_v, hS.2.1, tz0, tz1]
    by_cases m2 : sg.1 10 1 = 5
    · rw [teqP m2, bN_1 ⟨m1, m2⟩]
    · rw [teqM (by omega) (by omega) m2, bN_0 fun h => m2 h.2]
theorem r_takes {G : tH} {b : Nat} {pr : mP} {sg : mS} (hP : rP G pr) (ho : okP pr) (hS : rS (gA G 1124 0) b pr sg) (hs : okS pr sg) (hb : b + 61 ≤ 1403) {t x : Nat} (hm : mayTake pr sg t x) : ∃ G', V_X11_takes (nI b) (nI t) (nI x) G = some (some (vI (nI (aTake pr sg t x))), G') ∧ rD G G' b pr (fTake pr sg t x) := by
  obtain ⟨m1, m2, m3, m4, m5, m6⟩ := hm
  have hT := ho.1
  have hC := ho.2.1
  have hH := ho.2.2.1
  have hJ := ho.2.2.2.1
  have hh := hs.2.2.2.2.1
  have hh5 : mkH sg < 5 := by unfold mkH; omega
  have hhC : mkH sg < nC pr := by unfold mkH; omega
  have hhol : gA G 1124 0 b = nI (mkH sg) := by rw [hS.1, hI_pos m1]; rfl
  obtain ⟨b1, b2, b3, b4⟩ := hs.1 t m2
  have b8 := hs.2.2.1 t
  obtain ⟨k1, k2, k3, k4, k5, k8⟩ := hS.2.2.2.2.2.1 t m2
  have htt := tthN_le ho b3
  have hat : aTake pr sg t x ≤ 9999 := by unfold aTake; omega
  have hat' : sg.1 4 t + x - tthN pr (sg.1 3 t) - (sg.1 4 t - tthN pr (sg.1 3 t)) ≤ 9999 := hat
  have hhm := hmN_le pr t (sg.1 4 t + x - tthN pr (sg.1 3 t) - (sg.1 4 t - tthN pr (sg.1 3 t)))
  have e1 : V_X11_takes (nI b) (nI t) (nI x) G = some (some (vI (nI (aTake pr sg t x))), sA G 1124 0 (upd (upd (upd (upd (upd (gA G 1124 0) (b + 23 + t) (nI (sg.1 4 t + x))) (b + 11 + t) (nI (sg.1 2 t - x))) (b + 41 + mkH sg) (sg.2 (mkH sg) + nI x)) (b + 2) (sg.2 10 + nI (aTake pr sg t x))) (b + 5 + t) (nI (sg.1 1 t - hmN pr t (aTake pr sg t x))))) := by
    rw [e_X11_takes]
    simp (disch := omega) only [nI_add, ttin, nI_clamp, Nat.add_zero, gA_eq, gA_ne, upd_eq, upd_ne, sA_sA, tbI_v, k1, k2, k3, k4, hhol, hS.2.2.1, (hS.2.2.2.2.2.2.1 _ hhC).1, r_titheOf hP ho b3, r_over, nI_sub, r_lostBy (rP_st hP _) ho m2 hat', r_atMost, cl_sub, Nat.min_eq_right]
    rfl
  refine ⟨_, e1, ⟨?_, ?_, ?_, ?_, ?_, fun t' ht' => ?_, fun c hc => ?_, fun j hj => ?_⟩, fun i hi => ?_, tfr.sA (Or.inr (Or.inr rfl))⟩
  all_goals simp only [gA_eq]
  · simp (disch := omega) only [upd_eq, upd_ne, u1_eq, u1_nk, u1_ni, fTake, hS.1]
  · simp (disch := omega) only [upd_eq, upd_ne, u1_eq, u1_nk, u1_ni, fTake, hS.2.1]
  · simp (disch := omega) only [upd_eq, upd_ne, u1_eq, u1_nk, u1_ni, fTake, hS.2.2.1]
  · simp (disch := omega) only [upd_eq, upd_ne, u1_eq, u1_nk, u1_ni, fTake, hS.2.2.2.1]
  · simp (disch := omega) only [upd_eq, upd_ne, u1_eq, u1_nk, u1_ni, fTake, hS.2.2.2.2.1]
  · obtain ⟨q1, q2, q3, q4, q5, q6⟩ := hS.2.2.2.2.2.1 t' ht'
    by_cases h : t' = t
    · subst h
      simp (disch := omega) only [upd_eq, upd_ne, u1_eq, u1_nk, u1_ni, fTake, q1, q2, q3, q4, q5, q6, and_self]
    · simp (disch := omega) only [upd_eq, upd_ne, u1_eq, u1_nk, u1_ni, fTake, q1, q2, q3, q4, q5, q6, and_self]
  · obtain ⟨q1, q2⟩ := hS.2.2.2.2.2.2.1 c hc
    by_cases h : c = mkH sg
    · subst h
      simp (disch := omega) only [upd_eq, upd_ne, u1_eq, u1_nk, u1_ni, fTake, q1, q2, and_self]
    · simp (disch := omega) only [upd_eq, upd_ne, u1_eq, u1_nk, u1_ni, fTake, q1, q2, and_self]
  · have q1 := hS.2.2.2.2.2.2.2 j hj
    simp (disch := omega) only [upd_eq, upd_ne, u1_eq, u1_nk, u1_ni, fTake, q1]
  · simp (disch := omega) only [upd_ne]

theorem r_lends {G : tH} {b : Nat} {pr : mP} {sg : mS} (hP : rP G pr) (ho : okP pr) (hS : rS (gA G 1124 0) b pr sg) (hs : okS pr sg) (hb : b + 61 ≤ 1403) {t x : Nat} (hm : mayLend pr sg t x) : ∃ G', V_X11_lends (nI b) (nI t) (nI x) G = some (some (vI (nI (min 9999 (sg.1 5 t + x)))), G') ∧ rD G G' b pr (fLend sg t x) := by
  obtain ⟨m1, m2, m3, m4, m5⟩ := hm
  have hT := ho.1
  have hC := ho.2.1
  have hH := ho.2.2.1
  have hJ := ho.2.2.2.1
  have hh := hs.2.2.2.2.1
  have hh5 : mkH sg < 5 := by unfold mkH; omega
  have hhC : mkH sg < nC pr := by unfold mkH; omega
  have hhol : gA G 1124 0 b = nI (mkH sg) := by rw [hS.1, hI_pos m1]; rfl
  obtain ⟨b1, b2, b3, b4⟩ := hs.1 t m2
  have b8 := hs.2.2.1 t
  obtain ⟨k1, k2, k3, k4, k5, k8⟩ := hS.2.2.2.2.2.1 t m2
  have e1 : V_X11_lends (nI b) (nI t) (nI x) G = some (some (vI (nI (min 9999 (sg.1 5 t + x)))), sA G 1124 0 (upd (upd (upd (gA G 1124 0) (b + 41 + mkH sg) (sg.2 (mkH sg) - nI x)) (b + 5 + t) (nI (min 9999 (sg.1 1 t + x)))) (b + 29 + t) (nI (min 9999 (sg.1 5 t + x))))) := by
    rw [e_X11_lends]
    simp (disch := omega) only [nI_add, ttin, nI_clamp, Nat.add_zero, gA_eq, gA_ne, upd_eq, upd_ne, sA_sA, tbI_v, k1, k5, hhol, (hS.2.2.2.2.2.2.1 _ hhC).1, r_atMost, cl_nI]
  refine ⟨_, e1, ⟨?_, ?_, ?_, ?_, ?_, fun t' ht' => ?_, fun c hc => ?_, fun j hj => ?_⟩, fun i hi => ?_, tfr.sA (Or.inr (Or.inr rfl))⟩
  all_goals simp only [gA_eq]
  · simp (disch := omega) only [upd_eq, upd_ne, u1_eq, u1_nk, u1_ni, fLend, hS.1]
  · simp (disch := omega) only [upd_eq, upd_ne, u1_eq, u1_nk, u1_ni, fLend, hS.2.1]
  · simp (disch := omega) only [upd_eq, upd_ne, u1_eq, u1_nk, u1_ni, fLend, hS.2.2.1]
  · simp (disch := omega) only [upd_eq, upd_ne, u1_eq, u1_nk, u1_ni, fLend, hS.2.2.2.1]
  · simp (disch := omega) only [upd_eq, upd_ne, u1_eq, u1_nk, u1_ni, fLend, hS.2.2.2.2.1]
  · obtain ⟨q1, q2, q3, q4, q5, q6⟩ := hS.2.2.2.2.2.1 t' ht'
    by_cases h : t' = t
    · subst h
      simp (disch := omega) only [upd_eq, upd_ne, u1_eq, u1_nk, u1_ni, fLend, q1, q2, q3, q4, q5, q6, and_self]
    · simp (disch := omega) only [upd_eq, upd_ne, u1_eq, u1_nk, u1_ni, fLend, q1, q2, q3, q4, q5, q6, and_self]
  · obtain ⟨q1, q2⟩ := hS.2.2.2.2.2.2.1 c hc
    by_cases h : c = mkH sg
    · subst h
      simp (disch := omega) only [upd_eq, upd_ne, u1_eq, u1_nk, u1_ni, fLend, q1, q2, and_self]
    · simp (disch := omega) only [upd_eq, upd_ne, u1_eq, u1_nk, u1_ni, fLend, q1, q2, and_self]
  · have q1 := hS.2.2.2.2.2.2.2 j hj
    simp (disch := omega) only [upd_eq, upd_ne, u1_eq, u1_nk, u1_ni, fLend, q1]
  · simp (disch := omega) only [upd_ne]

theorem r_calls {G : tH} {b : Nat} {pr : mP} {sg : mS} (hP : rP G pr) (ho : okP pr) (hS : rS (gA G 1124 0) b pr sg) (hs : okS pr sg) (hb : b + 61 ≤ 1403) {t x : Nat} (hm : mayCall pr sg t x) : ∃ G', V_X11_calls (nI b) (nI t) (nI x) G = some (some (vI (nI (sg.1 5 t - x))), G') ∧ rD G G' b pr (fCall sg t x) := by
  obtain ⟨m1, m2, m3, m4, m5⟩ := hm
  have hT := ho.1
  have hC := ho.2.1
  have hH := ho.2.2.1
  have hJ := ho.2.2.2.1
  have hh := hs.2.2.2.2.1
  have hh5 : mkH sg < 5 := by unfold mkH; omega
  have hhC : mkH sg < nC pr := by unfold mkH; omega
  have hhol : gA G 1124 0 b = nI (mkH sg) := by rw [hS.1, hI_pos m1]; rfl
  obtain ⟨b1, b2, b3, b4⟩ := hs.1 t m2
  have b8 := hs.2.2.1 t
  obtain ⟨k1, k2, k3, k4, k5, k8⟩ := hS.2.2.2.2.2.1 t m2
  have e1 : V_X11_calls (nI b) (nI t) (nI x) G = some (some (vI (nI (sg.1 5 t - x))), sA G 1124 0 (upd (upd (upd (gA G 1124 0) (b + 41 + mkH sg) (sg.2 (mkH sg) + nI x)) (b + 5 + t) (nI (sg.1 1 t - x))) (b + 29 + t) (nI (sg.1 5 t - x)))) := by
    rw [e_X11_calls]
    simp (disch := omega) only [nI_add, ttin, nI_clamp, Nat.add_zero, gA_eq, gA_ne, upd_eq, upd_ne, sA_sA, tbI_v, k1, k5, hhol, (hS.2.2.2.2.2.2.1 _ hhC).1, nI_sub]
  refine ⟨_, e1, ⟨?_, ?_, ?_, ?_, ?_, fun t' ht' => ?_, fun c hc => ?_, fun j hj => ?_⟩, fun i hi => ?_, tfr.sA (Or.inr (Or.inr rfl))⟩
  all_goals simp only [gA_eq]
  · simp (disch := omega) only [upd_eq, upd_ne, u1_eq, u1_nk, u1_ni, fCall, hS.1]
  · simp (disch := omega) only [upd_eq, upd_ne, u1_eq, u1_nk, u1_ni, fCall, hS.2.1]
  · simp (disch := omega) only [upd_eq, upd_ne, u1_eq, u1_nk, u1_ni, fCall, hS.2.2.1]
  · simp (disch := omega) only [upd_eq, upd_ne, u1_eq, u1_nk, u1_ni, fCall, hS.2.2.2.1]
  · simp (disch := omega) only [upd_eq, upd_ne, u1_eq, u1_nk, u1_ni, fCall, hS.2.2.2.2.1]
  · obtain ⟨q1, q2, q3, q4, q5, q6⟩ := hS.2.2.2.2.2.1 t' ht'
    by_cases h : t' = t
    · subst h
      simp (disch := omega) only [upd_eq, upd_ne, u1_eq, u1_nk, u1_ni, fCall, q1, q2, q3, q4, q5, q6, and_self]
    · simp (disch := omega) only [upd_eq, upd_ne, u1_eq, u1_nk, u1_ni, fCall, q1, q2, q3, q4, q5, q6, and_self]
  · obtain ⟨q1, q2⟩ := hS.2.2.2.2.2.2.1 c hc
    by_cases h : c = mkH sg
    · subst h
      simp (disch := omega) only [upd_eq, upd_ne, u1_eq, u1_nk, u1_ni, fCall, q1, q2, and_self]
    · simp (disch := omega) only [upd_eq, upd_ne, u1_eq, u1_nk, u1_ni, fCall, q1, q2, and_self]
  · have q1 := hS.2.2.2.2.2.2.2 j hj
    simp (disch := omega) only [upd_eq, upd_ne, u1_eq, u1_nk, u1_ni, fCall, q1]
  · simp (disch := omega) only [upd_ne]

theorem r_bribes {G : tH} {b : Nat} {pr : mP} {sg : mS} (hP : rP G pr) (ho : okP pr) (hS : rS (gA G 1124 0) b pr sg) (hs : okS pr sg) (hb : b + 61 ≤ 1403) {j0 : Nat} (hm : mayBribe pr sg j0) : ∃ G', V_X11_bribes (nI b) (nI j0) G = some (none, G') ∧ rD G G' b pr (fBribe pr sg j0) := by
  obtain ⟨m1, m2, m3, m4⟩ := hm
  have hT := ho.1
  have hC := ho.2.1
  have hH := ho.2.2.1
  have hJ := ho.2.2.2.1
  have hh := hs.2.2.2.2.1
  have hh5 : mkH sg < 5 := by unfold mkH; omega
  have hhC : mkH sg < nC pr := by unfold mkH; omega
  have hhol : gA G 1124 0 b = nI (mkH sg) := by rw [hS.1, hI_pos m1]; rfl
  have e1 : V_X11_bribes (nI b) (nI j0) G = some (none, sA G 1124 0 (upd (upd (gA G 1124 0) (b + 41 + mkH sg) (sg.2 (mkH sg) - nI (pr 7 j0))) (b + 51 + j0) (nI 1))) := by
    rw [e_X11_bribes]
    simp (disch := omega) only [nI_add, ttin, nI_clamp, Nat.add_zero, gA_eq, gA_ne, upd_eq, upd_ne, sA_sA, tbI_v, pk_mul, hhol, (hS.2.2.2.2.2.2.1 _ hhC).1, (hP.2.2.2.2.2.2.2.2.2 j0 m2).2]
  refine ⟨_, e1, ⟨?_, ?_, ?_, ?_, ?_, fun t' ht' => ?_, fun c hc => ?_, fun j hj => ?_⟩, fun i hi => ?_, tfr.sA (Or.inr (Or.inr rfl))⟩
  all_goals simp only [gA_eq]
  · simp (disch := omega) only [upd_eq, upd_ne, u1_eq, u1_nk, u1_ni, fBribe, hS.1]
  · simp (disch := omega) only [upd_eq, upd_ne, u1_eq, u1_nk, u1_ni, fBribe, hS.2.1]
  · simp (disch := omega) only [upd_eq, upd_ne, u1_eq, u1_nk, u1_ni, fBribe, hS.2.2.1]
  · simp (disch := omega) only [upd_eq, upd_ne, u1_eq, u1_nk, u1_ni, fBribe, hS.2.2.2.1]
  · simp (disch := omega) only [upd_eq, upd_ne, u1_eq, u1_nk, u1_ni, fBribe, hS.2.2.2.2.1]
  · obtain ⟨q1, q2, q3, q4, q5, q6⟩ := hS.2.2.2.2.2.1 t' ht'
    simp (disch := omega) only [upd_eq, upd_ne, u1_eq, u1_nk, u1_ni, fBribe, q1, q2, q3, q4, q5, q6, and_self]
  · obtain ⟨q1, q2⟩ := hS.2.2.2.2.2.2.1 c hc
    by_cases h : c = mkH sg
    · subst h
      simp (disch := omega) only [upd_eq, upd_ne, u1_eq, u1_nk, u1_ni, fBribe, q1, q2, and_self]
    · simp (disch := omega) only [upd_eq, upd_ne, u1_eq, u1_nk, u1_ni, fBribe, q1, q2, and_self]
  · have q1 := hS.2.2.2.2.2.2.2 j hj
    by_cases h : j = j0
    · subst h
      simp (disch := omega) only [upd_eq, upd_ne, u1_eq, u1_nk, u1_ni, fBribe, q1]
    · simp (disch := omega) only [upd_eq, upd_ne, u1_eq, u1_nk, u1_ni, fBribe, q1]
  · simp (disch := omega) only [upd_ne]

theorem r_bids {G : tH} {b : Nat} {pr : mP} {sg : mS} (hP : rP G pr) (ho : okP pr) (hS : rS (gA G 1124 0) b pr sg) (hs : okS pr sg) (hb : b + 61 ≤ 1403) {c0 x : Nat} (m2 : c0 < nC pr) : rD G (sA G 1124 0 (upd (gA G 1124 0) (b + 46 + c0) (nI x))) b pr (fBid sg c0 x) := by
  have hT := ho.1
  have hC := ho.2.1
  have hH := ho.2.2.1
  have hJ := ho.2.2.2.1
  have hh := hs.2.2.2.2.1
  refine ⟨⟨?_, ?_, ?_, ?_, ?_, fun t' ht' => ?_, fun c hc => ?_, fun j hj => ?_⟩, fun i hi => ?_, tfr.sA (Or.inr (Or.inr rfl))⟩
  all_goals simp only [gA_eq]
  · simp (disch := omega) only [upd_eq, upd_ne, u1_eq, u1_nk, u1_ni, fBid, hS.1]
  · simp (disch := omega) only [upd_eq, upd_ne, u1_eq, u1_nk, u1_ni, fBid, hS.2.1]
  · simp (disch := omega) only [upd_eq, upd_ne, u1_eq, u1_nk, u1_ni, fBid, hS.2.2.1]
  · simp (disch := omega) only [upd_eq, upd_ne, u1_eq, u1_nk, u1_ni, fBid, hS.2.2.2.1]
  · simp (disch := omega) only [upd_eq, upd_ne, u1_eq, u1_nk, u1_ni, fBid, hS.2.2.2.2.1]
  · obtain ⟨q1, q2, q3, q4, q5, q6⟩ := hS.2.2.2.2.2.1 t' ht'
    simp (disch := omega) only [upd_eq, upd_ne, u1_eq, u1_nk, u1_ni, fBid, q1, q2, q3, q4, q5, q6, and_self]
  · obtain ⟨q1, q2⟩ := hS.2.2.2.2.2.2.1 c hc
    by_cases h : c = c0
    · subst h
      simp (disch := omega) only [upd_eq, upd_ne, u1_eq, u1_nk, u1_ni, fBid, q1, q2, and_self]
    · simp (disch := omega) only [upd_eq, upd_ne, u1_eq, u1_nk, u1_ni, fBid, q1, q2, and_self]
  · have q1 := hS.2.2.2.2.2.2.2 j hj
    simp (disch := omega) only [upd_eq, upd_ne, u1_eq, u1_nk, u1_ni, fBid, q1]
  · simp (disch := omega) only [upd_ne]

theorem hI_0 : hI 0 = -1 := if_pos rfl
theorem r_closes {G : tH} {b : Nat} {pr : mP} {sg : mS} (hP : rP G pr) (ho : okP pr) (hS : rS (gA G 1124 0) b pr sg) (hs : okS pr sg) (hb : b + 61 ≤ 1403) : rD G (sA G 1124 0 (upd (gA G 1124 0) b (-1))) b pr (fClose sg) := by
  have hT := ho.1
  have hC := ho.2.1
  have hH := ho.2.2.1
  have hJ := ho.2.2.2.1
  have hh := hs.2.2.2.2.1
  refine ⟨⟨?_, ?_, ?_, ?_, ?_, fun t' ht' => ?_, fun c hc => ?_, fun j hj => ?_⟩, fun i hi => ?_, tfr.sA (Or.inr (Or.inr rfl))⟩
  all_goals simp only [gA_eq]
  · simp (disch := omega) only [upd_eq, upd_ne, u1_eq, u1_nk, u1_ni, fClose, hI_0]
  · simp (disch := omega) only [upd_eq, upd_ne, u1_eq, u1_nk, u1_ni, fClose, hS.2.1]
  · simp (disch := omega) only [upd_eq, upd_ne, u1_eq, u1_nk, u1_ni, fClose, hS.2.2.1]
  · simp (disch := omega) only [upd_eq, upd_ne, u1_eq, u1_nk, u1_ni, fClose, hS.2.2.2.1]
  · simp (disch := omega) only [upd_eq, upd_ne, u1_eq, u1_nk, u1_ni, fClose, hS.2.2.2.2.1]
  · obtain ⟨q1, q2, q3, q4, q5, q6⟩ := hS.2.2.2.2.2.1 t' ht'
    simp (disch := omega) only [upd_eq, upd_ne, u1_eq, u1_nk, u1_ni, fClose, q1, q2, q3, q4, q5, q6, and_self]
  · obtain ⟨q1, q2⟩ := hS.2.2.2.2.2.2.1 c hc
    simp (disch := omega) only [upd_eq, upd_ne, u1_eq, u1_nk, u1_ni, fClose, q1, q2, and_self]
  · have q1 := hS.2.2.2.2.2.2.2 j hj
    simp (disch := omega) only [upd_eq, upd_ne, u1_eq, u1_nk, u1_ni, fClose, q1]
  · simp (disch := omega) only [upd_ne]

