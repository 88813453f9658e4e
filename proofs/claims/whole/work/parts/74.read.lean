/-! PURE: reading, undo, marks, tales -/
def uX {α : Type} (f : Nat → α) (i : Nat) (x : α) : Nat → α := fun k => if k = i then x else f k
theorem uX_eq {α : Type} {f : Nat → α} {i : Nat} {x : α} : uX f i x i = x := if_pos rfl
theorem uX_ne {α : Type} {f : Nat → α} {i k : Nat} {x : α} (h : k ≠ i) : uX f i x k = f k := if_neg h
theorem tif_tr {a b : Option tRes} : tif True a b = a := tif_pos trivial
theorem INV.thr {G : tH} (h : INV G) : INV (sI G 1100 0 (nI 0)) := by
  obtain ⟨p, fr, q, pr, lw, σ, τ, ν, L, tx, nm, hM, hN, hC, hR⟩ := h
  exact ⟨p, fr, q, pr, lw, σ, τ, ν, L, tx, nm, hM, hN, hC.kept (tfr.sI (by unfold zRef; omega)), hR.act (RQ.same hR.1) fun _ _ => rfl⟩
theorem PAIR.read {f g : tH → Option tRes} {G : tH} {r : Int32} (h : INV G) (e1 : f G = some (some (vI r), G)) (e2 : g G = some (some (vI r), sI G 1100 0 (nI 0))) : PAIR f g G := ⟨r, G, _, e1, e2, h.thr⟩
theorem r_isT {G : tH} {pr : mP} {t : Nat} (h : rP G pr) (ho : okP pr) (ht : t < nT pr) : V_X11_isTown (nI t) G = some (some (vI (nI 1)), G) := by
  have := ho.1
  rw [r_isTown _ h, if_pos ⟨nI_pos (by omega), (nI_ltI (by omega) (by omega)).mpr ht⟩]
theorem r_isC {G : tH} {pr : mP} {t : Nat} (h : rP G pr) (ho : okP pr) (ht : t < nC pr) : V_X11_isCompany (nI t) G = some (some (vI (nI 1)), G) := by
  have := ho.2.1
  rw [r_isCompany _ h, if_pos ⟨nI_pos (by omega), (nI_ltI (by omega) (by omega)).mpr ht⟩]
theorem r_isH {G : tH} {pr : mP} {t : Nat} (h : rP G pr) (ho : okP pr) (ht : t < nH pr) : V_X11_isHarvest (nI t) G = some (some (vI (nI 1)), G) := by
  have := ho.2.2.1
  rw [r_isHarvest _ h, if_pos ⟨nI_pos (by omega), (nI_ltI (by omega) (by omega)).mpr ht⟩]
theorem r_isJ {G : tH} {pr : mP} {t : Nat} (h : rP G pr) (ho : okP pr) (ht : t < nJ pr) : V_X11_isJuror (nI t) G = some (some (vI (nI 1)), G) := by
  have := ho.2.2.2.1
  rw [r_isJuror _ h, if_pos ⟨nI_pos (by omega), (nI_ltI (by omega) (by omega)).mpr ht⟩]
theorem r_win {G : tH} {a b k : Nat} (hb : b < 2 ^ 31) (h1 : a ≤ k) (h2 : k ≤ b) : V_X11_within (nI k) (nI a) (nI b) G = some (some (vI (nI 1)), G) := by
  rw [r_within, if_neg (show ¬ nI k < nI a by rw [nI_ltI (by omega) (by omega)]; omega), if_neg (show ¬ nI b < nI k by rw [nI_ltI (by omega) (by omega)]; omega)]
theorem p_holder {G : tH} (h : INV G) : PAIR (V_X10_holder) (V_X11_holder) G := by
  obtain ⟨p, fr, q, pr, lw, σ, τ, ν, L, tx, nm, hM, hN, hC, hR⟩ := id h
  refine PAIR.read h (r := hI ((σ 0).1 10 0)) ?_ ?_
  · rw [e_X10_holder, hC.1.2.2.2.2.2.2.1.2.2.2.2.2.1]
  · rw [e_X11_holder]
    dsimp only
    rw [ttin (by omega) (by omega), nI_clamp (by omega), gA_sI, hR.1.2.2.2.1.1]

theorem p_town (x1 x2 : Int32) {G : tH} (h : INV G) : PAIR (V_X10_town x1 x2) (V_X11_town x1 x2) G := by
  obtain ⟨p, fr, q, pr, lw, σ, τ, ν, L, tx, nm, hM, hN, hC, hR⟩ := id h
  obtain ⟨ho, hs, hu, _⟩ := id hM
  obtain ⟨c1, c2, c3, hP, c5, c6, hS, _⟩ := hC.1
  have hR0 := hR.1.thr (nI 0)
  have hT := ho.1
  rcases has_cases (x := x1) (n := nT pr) (by omega) with ⟨t, ht, rfl, hz⟩ | ⟨hno, hz⟩
  · obtain ⟨b1, b2, b3, b4⟩ := hs.1 t ht
    have b8 := hs.2.2.1 t
    obtain ⟨k1, k2, k3, k4, k5⟩ := hS.2.1 t ht
    obtain ⟨g1, g2, g3, g4, g5, g6⟩ := hR.1.2.2.2.1.2.2.2.2.2.1 t ht
    simp only [Nat.zero_add] at g1 g2 g3 g4 g5 g6
    rcases within_c (a := 0) (b := 6) x2 (by omega) (by omega) with ⟨k, _, hk, rfl, hw⟩ | ⟨hno, hw⟩
    · have key : ∀ r, (V_X10_town (nI t) (nI k) G = some (some (vI r), G)) → (V_X11_town (nI t) (nI k) G = some (some (vI r), sI G 1100 0 (nI 0))) → PAIR (V_X10_town (nI t) (nI k)) (V_X11_town (nI t) (nI k)) G := fun r e1 e2 => PAIR.read h e1 e2
      rcases (show k = 0 ∨ k = 1 ∨ k = 2 ∨ k = 3 ∨ k = 4 ∨ k = 5 ∨ k = 6 by omega) with rfl | rfl | rfl | rfl | rfl | rfl | rfl
      · refine key (nI (pr 0 t)) ?_ ?_
        · rw [e_X10_town, c2, v_has, hP.1, hz, tbI_v, tn1]
          simp (disch := omega) only [tif_tr, teqP, teqM, ttin, nI_clamp, c2, tbI_v, (hP.2.2.2.2.2.2.1 t ht).1]
        · rw [e_X11_town]
          dsimp only
          rw [r_isT hR0.1 ho ht, tbI_v, tn1, r_win (by omega) (by omega) (by omega), tbI_v, tn1]
          simp (disch := omega) only [tif_tr, teqP, teqM, ttin, nI_add, nI_clamp, gA_sI, r_townOf0 hR0.1 ho ht, tbI_v, g1, g2, g3, g4, g5, g6, r_titheOf hR0.1 ho b3]
      · refine key (nI ((σ 0).1 1 t)) ?_ ?_
        · rw [e_X10_town, c2, v_has, hP.1, hz, tbI_v, tn1]
          simp (disch := omega) only [tif_tr, teqP, teqM, ttin, nI_clamp, c2, tbI_v, k1]
        · rw [e_X11_town]
          dsimp only
          rw [r_isT hR0.1 ho ht, tbI_v, tn1, r_win (by omega) (by omega) (by omega), tbI_v, tn1]
          simp (disch := omega) only [tif_tr, teqP, teqM, ttin, nI_add, nI_clamp, gA_sI, r_townOf0 hR0.1 ho ht, tbI_v, g1, g2, g3, g4, g5, g6, r_titheOf hR0.1 ho b3]
      · refine key (nI ((σ 0).1 2 t)) ?_ ?_
        · rw [e_X10_town, c2, v_has, hP.1, hz, tbI_v, tn1]
          simp (disch := omega) only [tif_tr, teqP, teqM, ttin, nI_clamp, c2, tbI_v, k2]
        · rw [e_X11_town]
          dsimp only
          rw [r_isT hR0.1 ho ht, tbI_v, tn1, r_win (by omega) (by omega) (by omega), tbI_v, tn1]
          simp (disch := omega) only [tif_tr, teqP, teqM, ttin, nI_add, nI_clamp, gA_sI, r_townOf0 hR0.1 ho ht, tbI_v, g1, g2, g3, g4, g5, g6, r_titheOf hR0.1 ho b3]
      · refine key (nI ((σ 0).1 5 t)) ?_ ?_
        · rw [e_X10_town, c2, v_has, hP.1, hz, tbI_v, tn1]
          simp (disch := omega) only [tif_tr, teqP, teqM, ttin, nI_clamp, c2, tbI_v, k5]
        · rw [e_X11_town]
          dsimp only
          rw [r_isT hR0.1 ho ht, tbI_v, tn1, r_win (by omega) (by omega) (by omega), tbI_v, tn1]
          simp (disch := omega) only [tif_tr, teqP, teqM, ttin, nI_add, nI_clamp, gA_sI, r_townOf0 hR0.1 ho ht, tbI_v, g1, g2, g3, g4, g5, g6, r_titheOf hR0.1 ho b3]
      · refine key (nI ((σ 0).1 4 t)) ?_ ?_
        · rw [e_X10_town, c2, v_has, hP.1, hz, tbI_v, tn1]
          simp (disch := omega) only [tif_tr, teqP, teqM, ttin, nI_clamp, c2, tbI_v, k4]
        · rw [e_X11_town]
          dsimp only
          rw [r_isT hR0.1 ho ht, tbI_v, tn1, r_win (by omega) (by omega) (by omega), tbI_v, tn1]
          simp (disch := omega) only [tif_tr, teqP, teqM, ttin, nI_add, nI_clamp, gA_sI, r_townOf0 hR0.1 ho ht, tbI_v, g1, g2, g3, g4, g5, g6, r_titheOf hR0.1 ho b3]
      · refine key (nI ((σ 0).1 8 t)) ?_ ?_
        · rw [e_X10_town, c2, v_has, hP.1, hz, tbI_v, tn1]
          simp (disch := omega) only [tif_tr, teqP, teqM, ttin, nI_clamp, c2, tbI_v, v_isSpared hS hs (show t < 6 by omega)]
          rcases (show (σ 0).1 8 t = 0 ∨ (σ 0).1 8 t = 1 by omega) with e | e
          · rw [e, tn0]
          · rw [e, tn1]
        · rw [e_X11_town]
          dsimp only
          rw [r_isT hR0.1 ho ht, tbI_v, tn1, r_win (by omega) (by omega) (by omega), tbI_v, tn1]
          simp (disch := omega) only [tif_tr, teqP, teqM, ttin, nI_add, nI_clamp, gA_sI, r_townOf0 hR0.1 ho ht, tbI_v, g1, g2, g3, g4, g5, g6, r_titheOf hR0.1 ho b3]
      · refine key (nI (tthN pr ((σ 0).1 3 t))) ?_ ?_
        · rw [e_X10_town, c2, v_has, hP.1, hz, tbI_v, tn1]
          simp (disch := omega) only [tif_tr, teqP, teqM, ttin, nI_clamp, c2, tbI_v, k3, v_titheOf hP ho b3]
        · rw [e_X11_town]
          dsimp only
          rw [r_isT hR0.1 ho ht, tbI_v, tn1, r_win (by omega) (by omega) (by omega), tbI_v, tn1]
          simp (disch := omega) only [tif_tr, teqP, teqM, ttin, nI_add, nI_clamp, gA_sI, r_townOf0 hR0.1 ho ht, tbI_v, g1, g2, g3, g4, g5, g6, r_titheOf hR0.1 ho b3]
    · refine PAIR.read h (r := -1) ?_ ?_
      · rw [e_X10_town, c2, v_has, hP.1, hz, tbI_v, tn1, tif_neg fun e => hno ⟨0, by omega, by omega, e⟩, tif_neg fun e => hno ⟨1, by omega, by omega, e⟩, tif_neg fun e => hno ⟨2, by omega, by omega, e⟩, tif_neg fun e => hno ⟨3, by omega, by omega, e⟩, tif_neg fun e => hno ⟨4, by omega, by omega, e⟩, tif_neg fun e => hno ⟨5, by omega, by omega, e⟩, tif_neg fun e => hno ⟨6, by omega, by omega, e⟩]
      · rw [e_X11_town]
        dsimp only
        rw [r_isT hR0.1 ho ht, tbI_v, tn1, r_within, hw, tbI_v, tn0]
  · refine PAIR.read h (r := -1) ?_ ?_
    · rw [e_X10_town, c2, v_has, hP.1, hz, tbI_v, tn0]
    · rw [e_X11_town]
      dsimp only
      rw [r_isTown _ hR0.1, hz, tbI_v, tn0]
theorem p_company (x1 x2 : Int32) {G : tH} (h : INV G) : PAIR (V_X10_company x1 x2) (V_X11_company x1 x2) G := by
  obtain ⟨p, fr, q, pr, lw, σ, τ, ν, L, tx, nm, hM, hN, hC, hR⟩ := id h
  obtain ⟨ho, hs, hu, _⟩ := id hM
  obtain ⟨c1, c2, c3, hP, c5, c6, hS, _⟩ := hC.1
  have hR0 := hR.1.thr (nI 0)
  have hT := ho.2.1
  rcases has_cases (x := x1) (n := nC pr) (by omega) with ⟨t, ht, rfl, hz⟩ | ⟨hno, hz⟩
  · obtain ⟨k1, k2⟩ := hS.2.2.1 t ht
    obtain ⟨g1, g2⟩ := hR.1.2.2.2.1.2.2.2.2.2.2.1 t ht
    simp only [Nat.zero_add] at g1 g2
    rcases within_c (a := 0) (b := 2) x2 (by omega) (by omega) with ⟨k, _, hk, rfl, hw⟩ | ⟨hno, hw⟩
    · have key : ∀ r, (V_X10_company (nI t) (nI k) G = some (some (vI r), G)) → (V_X11_company (nI t) (nI k) G = some (some (vI r), sI G 1100 0 (nI 0))) → PAIR (V_X10_company (nI t) (nI k)) (V_X11_company (nI t) (nI k)) G := fun r e1 e2 => PAIR.read h e1 e2
      rcases (show k = 0 ∨ k = 1 ∨ k = 2 by omega) with rfl | rfl | rfl
      · refine key (nI (pr 2 t)) ?_ ?_
        · rw [e_X10_company, c2, v_has, hP.2.1, hz, tbI_v, tn1]
          simp (disch := omega) only [tif_tr, teqP, teqM, ttin, nI_clamp, c2, tbI_v, (hP.2.2.2.2.2.2.2.1 t ht).1]
        · rw [e_X11_company]
          dsimp only
          rw [r_isC hR0.1 ho ht, tbI_v, tn1, r_win (by omega) (by omega) (by omega), tbI_v, tn1]
          simp (disch := omega) only [tif_tr, tz0P, tz0M, teqP, teqM, ttin, nI_add, nI_clamp, gA_sI, r_sortOf hR0.1 ho ht, tbI_v, g1, g2]
      · refine key ((σ 0).2 t) ?_ ?_
        · rw [e_X10_company, c2, v_has, hP.2.1, hz, tbI_v, tn1]
          simp (disch := omega) only [tif_tr, teqP, teqM, ttin, nI_clamp, c2, tbI_v, k1]
        · rw [e_X11_company]
          dsimp only
          rw [r_isC hR0.1 ho ht, tbI_v, tn1, r_win (by omega) (by omega) (by omega), tbI_v, tn1]
          simp (disch := omega) only [tif_tr, tz0P, tz0M, teqP, teqM, ttin, nI_add, nI_clamp, gA_sI, r_sortOf hR0.1 ho ht, tbI_v, g1, g2]
      · refine key (nI ((σ 0).1 7 t)) ?_ ?_
        · rw [e_X10_company, c2, v_has, hP.2.1, hz, tbI_v, tn1]
          simp (disch := omega) only [tif_tr, teqP, teqM, ttin, nI_clamp, c2, tbI_v, k2]
        · rw [e_X11_company]
          dsimp only
          rw [r_isC hR0.1 ho ht, tbI_v, tn1, r_win (by omega) (by omega) (by omega), tbI_v, tn1]
          simp (disch := omega) only [tif_tr, tz0P, tz0M, teqP, teqM, ttin, nI_add, nI_clamp, gA_sI, r_sortOf hR0.1 ho ht, tbI_v, g1, g2]
    · refine PAIR.read h (r := -1) ?_ ?_
      · rw [e_X10_company, c2, v_has, hP.2.1, hz, tbI_v, tn1, tif_neg fun e => hno ⟨0, by omega, by omega, e⟩, tif_neg fun e => hno ⟨1, by omega, by omega, e⟩, tif_neg fun e => hno ⟨2, by omega, by omega, e⟩]
      · rw [e_X11_company]
        dsimp only
        rw [r_isC hR0.1 ho ht, tbI_v, tn1, r_within, hw, tbI_v, tn0]
  · refine PAIR.read h (r := -1) ?_ ?_
    · rw [e_X10_company, c2, v_has, hP.2.1, hz, tbI_v, tn0]
    · rw [e_X11_company]
      dsimp only
      rw [r_isCompany _ hR0.1, hz, tbI_v, tn0]
theorem p_juror (x1 x2 : Int32) {G : tH} (h : INV G) : PAIR (V_X10_juror x1 x2) (V_X11_juror x1 x2) G := by
  obtain ⟨p, fr, q, pr, lw, σ, τ, ν, L, tx, nm, hM, hN, hC, hR⟩ := id h
  obtain ⟨ho, hs, hu, _⟩ := id hM
  obtain ⟨c1, c2, c3, hP, c5, c6, hS, _⟩ := hC.1
  have hR0 := hR.1.thr (nI 0)
  have hT := ho.2.2.2.1
  rcases has_cases (x := x1) (n := nJ pr) (by omega) with ⟨t, ht, rfl, hz⟩ | ⟨hno, hz⟩
  · obtain ⟨k1, k2⟩ := hP.2.2.2.2.2.2.2.2.2 t ht
    obtain ⟨j1, j2⟩ := hR0.1.2.2.2.2.2.2.2.2.2 t ht
    rw [gA_sI] at j1 j2
    have g1 := hR.1.2.2.2.1.2.2.2.2.2.2.2 t ht
    have b8 := hs.2.2.2.1 t
    simp only [Nat.zero_add] at g1
    rcases within_c (a := 0) (b := 3) x2 (by omega) (by omega) with ⟨k, _, hk, rfl, hw⟩ | ⟨hno, hw⟩
    · have key : ∀ r, (V_X10_juror (nI t) (nI k) G = some (some (vI r), G)) → (V_X11_juror (nI t) (nI k) G = some (some (vI r), sI G 1100 0 (nI 0))) → PAIR (V_X10_juror (nI t) (nI k)) (V_X11_juror (nI t) (nI k)) G := fun r e1 e2 => PAIR.read h e1 e2
      rcases (show k = 0 ∨ k = 1 ∨ k = 2 ∨ k = 3 by omega) with rfl | rfl | rfl | rfl
      · refine key (nI (pr 6 t)) ?_ ?_
        · rw [e_X10_juror, c2, v_has, hP.2.2.2.1, hz, tbI_v, tn1]
          simp (disch := omega) only [tif_tr, teqP, teqM, ttin, nI_clamp, c2, tbI_v, k1]
        · rw [e_X11_juror]
          dsimp only
          rw [r_isJ hR0.1 ho ht, tbI_v, tn1, r_win (by omega) (by omega) (by omega), tbI_v, tn1]
          simp (disch := omega) only [tif_tr, tltP, tltM, teqP, teqM, ttin, nI_add, pk_mul, nI_clamp, gA_sI, Nat.add_zero, g1, j1, j2]
      · refine key (nI (pr 7 t)) ?_ ?_
        · rw [e_X10_juror, c2, v_has, hP.2.2.2.1, hz, tbI_v, tn1]
          simp (disch := omega) only [tif_tr, teqP, teqM, ttin, nI_clamp, c2, tbI_v, k2]
        · rw [e_X11_juror]
          dsimp only
          rw [r_isJ hR0.1 ho ht, tbI_v, tn1, r_win (by omega) (by omega) (by omega), tbI_v, tn1]
          simp (disch := omega) only [tif_tr, tltP, tltM, teqP, teqM, ttin, nI_add, pk_mul, nI_clamp, gA_sI, Nat.add_zero, g1, j1, j2]
      · refine key (nI ((σ 0).1 9 t)) ?_ ?_
        · rw [e_X10_juror, c2, v_has, hP.2.2.2.1, hz, tbI_v, tn1]
          simp (disch := omega) only [tif_tr, teqP, teqM, ttin, nI_clamp, c2, tbI_v, v_isBribed hS hs (show t < 5 by omega)]
          rcases (show (σ 0).1 9 t = 0 ∨ (σ 0).1 9 t = 1 by omega) with e | e
          · rw [e, tn0]
          · rw [e, tn1]
        · rw [e_X11_juror]
          dsimp only
          rw [r_isJ hR0.1 ho ht, tbI_v, tn1, r_win (by omega) (by omega) (by omega), tbI_v, tn1]
          simp (disch := omega) only [tif_tr, tltP, tltM, teqP, teqM, ttin, nI_add, pk_mul, nI_clamp, gA_sI, Nat.add_zero, g1, j1, j2]
      · by_cases hh : (σ 0).1 10 0 = 0
        · refine key (-1) ?_ ?_
          · rw [e_X10_juror, c2, v_has, hP.2.2.2.1, hz, tbI_v, tn1]
            simp (disch := omega) only [tif_tr, teqP, teqM, v_isHeld hP hS ho hs, if_pos hh, tbI_v, tn0]
          · rw [e_X11_juror]
            dsimp only
            rw [r_isJ hR0.1 ho ht, tbI_v, tn1, r_win (by omega) (by omega) (by omega), tbI_v, tn1]
            simp (disch := omega) only [tltM, teqM, r_isHeld hR0.2.2.2.1 (show 0 + 61 ≤ 1403 by omega) ho hs, if_pos hh, tbI_v, tn0]
        · have hl := lgN_le pr (σ 0) t
          refine key (nI (lgN pr (σ 0) t)) ?_ ?_
          · rw [e_X10_juror, c2, v_has, hP.2.2.2.1, hz, tbI_v, tn1]
            simp (disch := omega) only [tif_tr, teqP, teqM, v_isHeld hP hS ho hs, if_neg hh, tbI_v, tn1, v_letsGo hP ho hS hs hh ht]
            rcases (show lgN pr (σ 0) t = 0 ∨ lgN pr (σ 0) t = 1 by omega) with e | e
            · rw [e, tn0]
            · rw [e, tn1]
          · rw [e_X11_juror]
            dsimp only
            rw [r_isJ hR0.1 ho ht, tbI_v, tn1, r_win (by omega) (by omega) (by omega), tbI_v, tn1]
            simp (disch := omega) only [tltM, teqM, r_isHeld hR0.2.2.2.1 (show 0 + 61 ≤ 1403 by omega) ho hs, if_neg hh, tbI_v, tn1, r_letsGo hR0.1 ho hR0.2.2.2.1 hs (show 0 + 61 ≤ 1403 by omega) hh ht]
            rcases (show lgN pr (σ 0) t = 0 ∨ lgN pr (σ 0) t = 1 by omega) with e | e
            · rw [e, tn0]
            · rw [e, tn1]
    · refine PAIR.read h (r := -2) ?_ ?_
      · rw [e_X10_juror, c2, v_has, hP.2.2.2.1, hz, tbI_v, tn1, tif_neg fun e => hno ⟨0, by omega, by omega, e⟩, tif_neg fun e => hno ⟨1, by omega, by omega, e⟩, tif_neg fun e => hno ⟨2, by omega, by omega, e⟩, tif_neg fun e => hno ⟨3, by omega, by omega, e⟩]
      · rw [e_X11_juror]
        dsimp only
        rw [r_isJ hR0.1 ho ht, tbI_v, tn1, r_within, hw, tbI_v, tn0]
  · refine PAIR.read h (r := -2) ?_ ?_
    · rw [e_X10_juror, c2, v_has, hP.2.2.2.1, hz, tbI_v, tn0]
    · rw [e_X11_juror]
      dsimp only
      rw [r_isJuror _ hR0.1, hz, tbI_v, tn0]
/-! tales -/
theorem p_tale (x1 x2 : Int32) {G : tH} (h : INV G) : PAIR (V_X10_tale x1 x2) (V_X11_tale x1 x2) G := by
  obtain ⟨p, fr, q, pr, lw, σ, τ, ν, L, tx, nm, hM, hN, hC, hR⟩ := id h
  obtain ⟨ho, hs, hu, hM4, hM5, hM6, hM7, hM8, hM9⟩ := id hM
  obtain ⟨c1, c2, c3, hP, c5, c6, hS, _⟩ := hC.1
  have hR0 := hR.1.thr (nI 0)
  have hT := ho.2.1
  rcases has_cases (x := x1) (n := nC pr) (by omega) with ⟨t, ht, rfl, hz⟩ | ⟨hno, hz⟩
  · rcases within_c (a := 0) (b := 99999) x2 (by omega) (by omega) with ⟨k, _, hk, rfl, hw⟩ | ⟨hno, hw⟩
    · have e1 : V_X10_tale (nI t) (nI k) G = some (some (vI (nI 1)), sA G 1011 0 (upd (gA G 1011 0) t (nI k))) := by
        rw [e_X10_tale, c2, v_has, hP.2.1, hz, tbI_v, tn1, tlt0 (by omega), tltM (by omega) (by omega) (by omega), ttin (by omega) (by omega), nI_clamp (by omega)]
        dsimp only
        rw [tz1]
      have f1 : tfr (fun f _ => f = 1011) G (sA G 1011 0 (upd (gA G 1011 0) t (nI k))) := tfr.sA rfl
      have hR1 := hR.kept (f1.mono fun f o q => by unfold zCls; omega)
      have e2 : V_X11_tale (nI t) (nI k) (sA G 1011 0 (upd (gA G 1011 0) t (nI k))) = some (some (vI (nI 1)), sA (sI (sA G 1011 0 (upd (gA G 1011 0) t (nI k))) 1100 0 (nI 0)) 1124 0 (upd (gA G 1124 0) (56 + t) (nI k))) := by
        rw [e_X11_tale]
        dsimp only
        rw [r_isC (hR1.1.thr (nI 0)).1 ho ht, tbI_v, tn1, r_win (by omega) (by omega) (by omega), tbI_v, tn1]
        simp (disch := omega) only [nI_add, ttin, nI_clamp, gA_sI, gA_ne, tz1]
      refine ⟨_, _, _, e1, e2, p, fr, q, pr, lw, σ, uX τ 0 (upd (τ 0) t (nI k)), ν, L, tx, nm, ?_, hN, ?_, ?_⟩
      · refine ⟨ho, hs, hu, hM4, hM5, hM6, ?_, fun m hm => ?_, hM9⟩
        · intro c hc
          rw [uX_eq]
          by_cases hct : c = t
          · subst hct
            exact Or.inr ⟨ht, k, hk, upd_eq⟩
          · rw [upd_ne hct]; exact hM7 c hc
        · rw [uX_ne (by omega)]; exact hM8 m hm
      · have f2 : tfr (fun f _ => f = 1011 ∨ 1100 ≤ f) G (sA (sI (sA G 1011 0 (upd (gA G 1011 0) t (nI k))) 1100 0 (nI 0)) 1124 0 (upd (gA G 1124 0) (56 + t) (nI k))) := tfrA (tfrI (tfrA tfr.rf (Or.inl rfl)) (Or.inr (by omega))) (Or.inr (by omega))
        obtain ⟨d1, d2, d3, d4, d5⟩ := hC
        refine ⟨d1.kept f2 fun f o z => by omega, ⟨fun c hc => ?_, fun m hm c hc => ?_, ?_⟩, d3.kept f2 fun f o z => by omega, d4.kept f2 fun f o z => by omega, d5.kept f2 fun f o z => by omega⟩
        · simp (disch := omega) only [gA_ne, gA_sI, gA_eq]
          rw [uX_eq]
          by_cases hct : c = t
          · subst hct; rw [upd_eq, upd_eq]
          · rw [upd_ne hct, upd_ne hct]; exact d2.1 c hc
        · simp (disch := omega) only [gA_ne, gA_sI]
          rw [uX_ne (by omega)]
          exact d2.2.1 m hm c hc
        · simp (disch := omega) only [gI_sA, gI_ne]
          exact d2.2.2
      · have f3 : tfr (fun f _ => f = 1011 ∨ f = 1100 ∨ f = 1124) G (sA (sI (sA G 1011 0 (upd (gA G 1011 0) t (nI k))) 1100 0 (nI 0)) 1124 0 (upd (gA G 1124 0) (56 + t) (nI k))) := tfrA (tfrI (tfrA tfr.rf (Or.inl rfl)) (Or.inr (by omega))) (Or.inr (by omega))
        obtain ⟨⟨r1, r2, r3, r4, r5, r6, r7⟩, d2, d3, d4, d5, d6⟩ := hR
        refine ⟨⟨r1.kept f3 (by omega), r2.kept f3 (by omega) (by omega) (by omega), r3.kept f3 (by omega) (by omega) (by omega), ?_, ?_, fun u hu2 => ?_, fun m hm => ?_⟩, ⟨fun c hc => ?_, fun m hm c hc => ?_, fun m hm => ?_⟩, d3.kept f3 (by omega), d4.kept f3 (by omega) (by omega), d5.kept f3 (by omega) (by omega) (by omega), d6.kept f3 (by omega)⟩
        · refine r4.ext ho fun i i1 i2 => ?_
          rw [gA_eq, upd_ne (by omega)]
        · simp (disch := omega) only [gI_sA, gI_ne]; exact r5
        · refine (r6 u hu2).ext ho fun i i1 i2 => ?_
          rw [gA_eq, upd_ne (by omega)]
        · refine (r7 m hm).ext ho fun i i1 i2 => ?_
          rw [gA_eq, upd_ne (by omega)]
        · rw [gA_eq, uX_eq]
          by_cases hct : c = t
          · subst hct; rw [upd_eq, upd_eq]
          · rw [upd_ne (by omega), upd_ne hct]; exact d2.1 c hc
        · rw [gA_eq, uX_ne (by omega), upd_ne (by omega)]
          exact d2.2.1 m hm c hc
        · simp (disch := omega) only [gA_ne, gA_sI]
          exact d2.2.2 m hm
    · refine PAIR.read h (r := nI 0) ?_ ?_
      · rw [e_X10_tale, c2, v_has, hP.2.1, hz, tbI_v, tn1]
        simp only [tz0, tz1]
        by_cases h1 : x2 < 0
        · rw [tif_pos h1]
        · obtain ⟨k, hk, rfl⟩ := nI_of h1
          rw [tif_neg h1, tltP (by omega) hk (Nat.lt_of_not_le fun q => hno ⟨k, by omega, q, rfl⟩)]
      · rw [e_X11_tale]
        dsimp only
        rw [r_isC hR0.1 ho ht, tbI_v, tn1, r_within, hw, tbI_v, tn0, tz0]
  · refine PAIR.read h (r := nI 0) ?_ ?_
    · rw [e_X10_tale, c2, v_has, hP.2.1, hz, tbI_v, tn0, tz0]
    · rw [e_X11_tale]
      dsimp only
      rw [r_isCompany _ hR0.1, hz, tbI_v, tn0, tz0]

