/-! PURE: statements that are told once; a statement -/
theorem ob_j : ∀ ob, ob < 16 → ∀ j, j < 4 → ((nI (16 * ob) >>> (nI j &&& 31)) &&& nI 1) = 0 := by decide +kernel
theorem ob_c : ∀ ob, ob < 16 → ∀ i, i < 4 → ((nI (16 * ob) >>> (nI (4 + i) &&& 31)) &&& nI 1) = nI (ob / 2 ^ i % 2) ∧ (nI (16 * ob) ||| (nI 1 <<< (nI (4 + i) &&& 31))) = nI (16 * (ob ||| 2 ^ i)) ∧ (ob ||| 2 ^ i) < 16 := by decide +kernel
theorem ob_r : ∀ ob, ob < 16 → ∀ i, i < 4 → ((nI ob >>> (nI i &&& 31)) &&& nI 1) = nI (ob / 2 ^ i % 2) ∧ (nI ob ||| (nI 1 <<< (nI i &&& 31))) = nI (ob ||| 2 ^ i) := by decide +kernel
theorem PV.once {z : mZ} {N p k mn ob ob' cd : Nat} {pr : mP} {nm : Nat → Nat → List Nat} {Gc Gr Gc1 : tH} (h : PV z N p Gc Gr k pr nm ob mn cd) (hk : k + 1 ≤ N) (ho : ob' < 16) (hc : CT Gc1 z (k + 1)) (hf : tfr zTk (sI Gc 516 p (nI (16 * ob'))) Gc1) : PV z N p Gc1 (sI (sI Gr 1120 0 (nI ob')) 1107 0 (nI (k + 1))) (k + 1) pr nm ob' mn cd ∧ FP p Gc Gr Gc1 (sI (sI Gr 1120 0 (nI ob')) 1107 0 (nI (k + 1))) := by
  obtain ⟨v1, v2, v3, v4, v5, v6, v7, v8, v9, v10, v11, v12⟩ := h
  have f1 : tfr (fun f o => (802 ≤ f ∧ f ≤ 807) ∨ (f = 516 ∧ o = p)) Gc Gc1 := (tfr.sI (Or.inr ⟨rfl, rfl⟩)).tr (hf.mono fun f o w => by unfold zTk at w; omega)
  have fr1 : tfr (fun f _ => f = 1107 ∨ f = 1120) Gr (sI (sI Gr 1120 0 (nI ob')) 1107 0 (nI (k + 1))) := tfrI (tfr.sI (Or.inr rfl)) (Or.inl rfl)
  have lwk : ∀ i, i < 2 → LW Gc Gr p cd i → LW Gc1 (sI (sI Gr 1120 0 (nI ob')) 1107 0 (nI (k + 1))) p cd i := fun i hi h => h.kept (by rw [(f1 200 _ (by omega)).2.2.2.1]) (by rw [(f1 201 _ (by omega)).1]) rfl (fun m _ => ⟨rfl, rfl⟩) (Nat.le_refl _)
  refine ⟨⟨hc, ?_, ?_, ?_, ?_, v6, v7, ho, ?_, by omega, lwk 0 (by omega) v11, lwk 1 (by omega) v12⟩, f1.mono fun f o w => by unfold zPc; omega, fr1.mono fun f o w => by unfold zPr; omega, fun i _ => rfl, fun i _ => ⟨rfl, rfl⟩⟩
  · rw [(f1 808 0 (by omega)).1]; exact v2
  · refine RT.at (k := k) ?_ hk
    exact v3.kept (tfr.sI (S := fun f _ => f = 1120) rfl) (fun f _ _ => by omega)
  · obtain ⟨a1, a2, a3, a4⟩ := v4
    refine ⟨fun j hj => ⟨?_, fun i hi => ?_⟩, ?_, ?_, ?_⟩
    · rw [(f1 601 _ (by omega)).1]; exact (a1 j hj).1
    · rw [(f1 (504 + 2 * j) p (by omega)).2.2.2.1, (f1 (505 + 2 * j) p (by omega)).2.2.2.1, (f1 600 _ (by omega)).2.2.2.2]; exact (a1 j hj).2 i hi
    · rw [(f1 512 p (by omega)).1]; exact a2
    · rw [(f1 513 p (by omega)).1]; exact a3
    · rw [(hf 516 p (by unfold zTk; omega)).1, gI_eq]
  · obtain ⟨a1, a2, a3, a4, a5, a6, a7⟩ := v5
    exact ⟨a1, a2, a3, by rw [gI_ne (by omega), gI_eq], by rw [gI_ne (by omega), gI_ne (by omega)]; exact a5, a6, a7⟩
  · rw [gI_ne (by omega), gI_ne (by omega)]; exact v9
def prS (pr : mP) (i x : Nat) : mP := u1 pr 8 i x
theorem prS_c {pr : mP} {i x : Nat} (hi : i < 2) : cntP (prS pr i x) = cntP pr := funext fun j => by unfold cntP prS; rw [u1_ni (by omega)]
theorem prS_o {pr : mP} {i x r t : Nat} (hr : r < 8) : prS pr i x r t = pr r t := by unfold prS; rw [u1_nk (by omega)]
theorem prS_n {pr : mP} {i i' x : Nat} (h : i' ≠ i) : prS pr i x 8 i' = pr 8 i' := by unfold prS; rw [u1_ni h]
theorem prS_e {pr : mP} {i x : Nat} : prS pr i x 8 i = x := by unfold prS; rw [u1_eq]
theorem okP.set {pr : mP} {i x : Nat} (h : okP pr) (hi : i < 2) (h0 : i = 0 → x ≤ 100) (h1 : i = 1 → x ≤ 999) : okP (prS pr i x) := by
  have ec := prS_c (pr := pr) (x := x) hi
  have c0 : nT (prS pr i x) = nT pr := congrFun ec 0
  have c1 : nC (prS pr i x) = nC pr := congrFun ec 1
  have c2 : nH (prS pr i x) = nH pr := congrFun ec 2
  have c3 : nJ (prS pr i x) = nJ pr := congrFun ec 3
  obtain ⟨a1, a2, a3, a4, a5, a6, a7, a8, a9, a10⟩ := h
  unfold okP
  rw [c0, c1, c2, c3]
  refine ⟨a1, a2, a3, a4, ?_, ?_, fun t ht => ?_, fun t ht => ?_, fun t ht => ?_, fun t ht => ?_⟩
  · by_cases e : i = 0
    · subst e; rw [prS_e]; exact h0 rfl
    · rw [prS_n (by omega)]; exact a5
  · by_cases e : i = 1
    · subst e; rw [prS_e]; exact h1 rfl
    · rw [prS_n (by omega)]; exact a6
  · rw [prS_o (by omega), prS_o (by omega)]; exact a7 t ht
  · rw [prS_o (by omega), prS_o (by omega)]; exact a8 t ht
  · rw [prS_o (by omega), prS_o (by omega)]; exact a9 t ht
  · rw [prS_o (by omega), prS_o (by omega)]; exact a10 t ht
theorem pair_num {z : mZ} {N p k i hi mn ob cd : Nat} {pr : mP} {nm : Nat → Nat → List Nat} {Gc Gr : tH} (hT : TK z N) (h : PV z N p Gc Gr k pr nm ob mn cd) (hi2 : i < 2) (hh : hi < 2 ^ 31) (h0 : i = 0 → hi ≤ 100) (h1 : i = 1 → hi ≤ 999) {rc rr : Option tRes} (ec : rc = tbI (V_X8_readNumber (nI 0) (nI hi) Gc) (fun r_15 G_14 => let G_16 := sI G_14 (512 + i) p (r_15)
  tif ((gI G_16 (512 + i) p) = (-1 : Int32)) (tif (vp_nar .boolean (nI 0) = (nI 0)) (some (some (vI (nI 0)), G_16)) none)
  (tif (vp_nar .boolean (nI 1) = (nI 1)) (some (some (vI (nI 1)), G_16)) none))) (er : rr = V_X11_readOnce_94 (nI hi) (nI 0) (nI (64 + i)) Gr) : SUP z N p rc rr Gc Gr k ∨ FAP p rc rr Gc Gr := by
  obtain ⟨v1, v2, v3, v4, v5, v6, v7, v8, v9, v10, v11, v12⟩ := h
  rw [ec, er, e_X11_readOnce_94]
  rcases (rd_num (lo := 0) hT (by omega) hh).1 Gc Gr k v1 v2 v3 trivial trivial with ⟨x, k', Gc', Gr', a1, a2, a3, a4, a5, a6, a7, a8, a9⟩ | ⟨v, Gc', Gr', a1, a2, a3, a4, a5, a6⟩
  · refine Or.inl ?_
    rw [a1, a2, tbI_v, tbI_v, ttin (by omega) (by omega), nI_clamp (by omega)]
    dsimp only
    rw [gI_eq, tif_neg (m1_ne a4), tz1]
    obtain ⟨Gc2, hGc2⟩ : ∃ g, g = sI Gc' (512 + i) p (nI x) := ⟨_, rfl⟩
    obtain ⟨Gr2, hGr2⟩ : ∃ g, g = sA Gr' 1110 0 (upd (gA Gr' 1110 0) (64 + i) (nI x)) := ⟨_, rfl⟩
    rw [← hGc2, ← hGr2]
    have fc2 : tfr (fun f o => f = 512 + i ∧ o = p) Gc' Gc2 := by rw [hGc2]; exact tfr.sI ⟨rfl, rfl⟩
    have fr2 : tfr (fun f _ => f = 1110) Gr' Gr2 := by rw [hGr2]; exact tfr.sA rfl
    have fc : tfr (fun f o => (802 ≤ f ∧ f ≤ 807) ∨ (f = 512 + i ∧ o = p)) Gc Gc2 := (a8.mono fun f o w => by unfold zTk at w; omega).tr (fc2.mono fun f o w => Or.inr w)
    have fr : tfr (fun f _ => f = 1107 ∨ f = 1110) Gr Gr2 := (a9.mono fun f o w => Or.inl w).tr (fr2.mono fun f o w => Or.inr w)
    have g2 : gA Gr2 1110 0 = upd (gA Gr 1110 0) (64 + i) (nI x) := by rw [hGr2, gA_eq, (a9 1110 0 (by omega)).2.2.2.1]
    have lwk : ∀ t, t < 2 → LW Gc Gr p cd t → LW Gc2 Gr2 p cd t := fun t ht h => h.kept (by rw [(fc 200 _ (by omega)).2.2.2.1]) (by rw [(fc 201 _ (by omega)).1]) (by rw [g2, upd_ne (by omega)]) (fun m _ => ⟨by rw [(fr 1111 0 (by omega)).2.2.2.1], by rw [(fr 1112 0 (by omega)).2.2.2.1]⟩) (Nat.le_refl _)
    refine ⟨Gc2, Gr2, k', prS pr i x, nm, ob, mn, cd, rfl, rfl, ⟨?_, ?_, ?_, ?_, ?_, v6.set hi2 (fun w => by have := h0 w; have := a3.2; omega) (fun w => by have := h1 w; have := a3.2; omega), by rw [prS_c hi2]; exact v7, v8, ?_, by omega, lwk 0 (by omega) v11, lwk 1 (by omega) v12⟩, a7, fc.mono fun f o w => by unfold zPc; omega, fr.mono fun f o w => by unfold zPr; omega, fun t ht => by rw [g2, upd_ne (by omega)], fun t _ => ⟨by rw [(fr 1111 0 (by omega)).2.2.2.1], by rw [(fr 1112 0 (by omega)).2.2.2.1]⟩⟩
    · exact a5.kept fc2 (fun f _ _ => by omega)
    · rw [(fc 808 0 (by omega)).1]; exact v2
    · exact a6.kept fr2 (fun f _ _ => by omega)
    · obtain ⟨b1, b2, b3, b4⟩ := v4
      refine ⟨fun j hj => ?_, ?_, ?_, ?_⟩
      · rw [prS_c hi2]
        refine ⟨?_, fun t ht => ?_⟩
        · rw [(fc 601 _ (by omega)).1]; exact (b1 j hj).1
        · rw [(fc (504 + 2 * j) p (by omega)).2.2.2.1, (fc (505 + 2 * j) p (by omega)).2.2.2.1, (fc 600 _ (by omega)).2.2.2.2, prS_o (by omega), prS_o (by omega)]; exact (b1 j hj).2 t ht
      · by_cases e : i = 0
        · subst e; rw [hGc2, gI_eq, prS_e]
        · rw [(fc 512 p (by omega)).1, prS_n (by omega)]; exact b2
      · by_cases e : i = 1
        · subst e; rw [hGc2, gI_eq, prS_e]
        · rw [(fc 513 p (by omega)).1, prS_n (by omega)]; exact b3
      · rw [(fc 516 p (by omega)).1]; exact b4
    · obtain ⟨b1, b2, b3, b4, b5, b6, b7⟩ := v5
      refine ⟨fun j hj => ?_, ?_, ?_, ?_, ?_, ?_, ?_⟩
      · have hlb := lb_in hj
        rw [prS_c hi2]
        refine ⟨?_, fun t ht => ?_⟩
        · rw [g2, upd_ne (by omega)]; exact (b1 j hj).1
        · rw [g2, upd_ne (by omega), upd_ne (by omega), prS_o (by omega), prS_o (by omega)]; exact (b1 j hj).2 t ht
      · by_cases e : i = 0
        · subst e; rw [g2, upd_eq, prS_e]
        · rw [g2, upd_ne (by omega), prS_n (by omega)]; exact b2
      · by_cases e : i = 1
        · subst e; rw [g2, upd_eq, prS_e]
        · rw [g2, upd_ne (by omega), prS_n (by omega)]; exact b3
      · rw [(fr 1120 0 (by omega)).1]; exact b4
      · rw [(fr 1119 0 (by omega)).1]; exact b5
      · rw [(fr 1115 0 (by omega)).2.2.2.2, (fr 1117 0 (by omega)).2.2.2.1, prS_c hi2]; exact b6
      · rw [prS_c hi2]; exact b7
    · rw [(fr 1113 0 (by omega)).1]; exact v9
  · refine Or.inr ⟨sI Gc' (512 + i) p (-1), sA Gr' 1110 0 (upd (gA Gr' 1110 0) (64 + i) (nI 0)), v, ?_, ?_, ?_, a4, ?_⟩
    · rw [a1, tbI_v]
      dsimp only
      rw [gI_eq, tif_pos rfl, tz0]
    · rw [gI_ne (by omega)]; exact a2
    · rw [a3, tbI_v, ttin (by omega) (by omega), nI_clamp (by omega)]
    · refine ⟨tfrI (a5.mono fun f o w => by unfold zPc; omega) (by unfold zPc; omega), tfrA (a6.mono fun f o w => by unfold zPr; omega) (by unfold zPr; omega), fun t ht => ?_, fun t _ => ⟨?_, ?_⟩⟩
      · rw [gA_eq, upd_ne (by omega), (a6 1110 0 (by omega)).2.2.2.1]
      · rw [gA_ne (by omega), (a6 1111 0 (by omega)).2.2.2.1]
      · rw [gA_ne (by omega), (a6 1112 0 (by omega)).2.2.2.1]
theorem pair_law {z : mZ} {N p k i mn ob cd : Nat} {pr : mP} {nm : Nat → Nat → List Nat} {Gc Gr : tH} (hT : TK z N) (h : PV z N p Gc Gr k pr nm ob mn cd) (hi2 : i < 2) (hcd : cd < k) {rc rr : Option tRes} (ec : rc = tbI (V_X2_tellFrom (2 * p + i) Gc) (fun r_21 G_20 => tif (vp_nar .boolean r_21 = r_21) (some (some (vI r_21), G_20)) none)) (er : rr = tbV (V_X11_all (10 * (6 - (nI 0).toInt).toNat) (nI 0) (sA Gr 1110 0 (upd (gA Gr 1110 0) (66 + i) (nI cd)))) (fun G_4 => tbV (V_X11_emit (nI 0) (nI 0) G_4) (fun G_5 => some (none, G_5)))) : SUP z N p rc rr Gc Gr k ∨ FAP p rc rr Gc Gr := by
  obtain ⟨v1, v2, v3, v4, v5, v6, v7, v8, v9, v10, v11, v12⟩ := h
  have hN := hT.le
  have hkN := v3.2.1
  rw [ec, er, e_X2_tellFrom]
  dsimp only
  rw [t6 (by omega), t5 (by omega)]
  obtain ⟨Gc1, hGc1⟩ : ∃ g, g = sI Gc 201 (2 * p + i) (nI 0) := ⟨_, rfl⟩
  obtain ⟨Gr1, hGr1⟩ : ∃ g, g = sA Gr 1110 0 (upd (gA Gr 1110 0) (66 + i) (nI cd)) := ⟨_, rfl⟩
  rw [← hGc1, ← hGr1]
  have fc1 : tfr (fun f o => f = 201 ∧ o = 2 * p + i) Gc Gc1 := by rw [hGc1]; exact tfr.sI ⟨rfl, rfl⟩
  have fr1 : tfr (fun f _ => f = 1110) Gr Gr1 := by rw [hGr1]; exact tfr.sA rfl
  have g1 : gA Gr1 1110 0 = upd (gA Gr 1110 0) (66 + i) (nI cd) := by rw [hGr1, gA_eq]
  have hQ : LQ z N (2 * p + i) cd Gc1 Gr1 k [] := by
    refine ⟨v1.kept fc1 (fun f _ _ => by omega), ?_, v3.kept fr1 (fun f _ _ => by omega), ⟨?_, fun t ht => absurd ht (by show ¬ t < 0; omega)⟩, ?_, fun t ht => absurd ht (by show ¬ t < 0; omega)⟩
    · rw [(fc1 808 0 (by omega)).1]; exact v2
    · rw [hGc1, gI_eq]; rfl
    · rw [(fr1 1113 0 (by omega)).1]; exact v9
  have hout := law_all (q := 2 * p + i) (b := cd) hT Gc1 Gr1 k [] hQ (by show cd + 0 ≤ k; omega)
  unfold Kc at hout
  rcases hout with ⟨Gc2, Gr2, k2, e, a1, a2, a3, a4, a5, a6, a7, a8, a9⟩ | ⟨Gc2, Gr2, v, c2, k2, ln, a1, a2, a3, a4, a5, a6, a7, a8, a9, a10, a11, a12⟩
  · refine Or.inl ?_
    have e0 : ([] : List mC) ++ e = e := rfl
    rw [e0] at a3
    have hk2 := a3.2.2.1.2.1
    rw [a1, a2, tbI_v, tz1, tbI_v, tz1, tbV_v, r_emit a3.2.2.2.2.1 (by omega), tbV_v]
    obtain ⟨Gr3, hGr3⟩ : ∃ g, g = emG Gr2 (cd + e.length) 0 0 := ⟨_, rfl⟩
    rw [← hGr3]
    have fr3 : tfr (fun f _ => f = 1111 ∨ f = 1112 ∨ f = 1113) Gr2 Gr3 := by rw [hGr3]; exact em_fr2
    have fc : tfr (zLc (2 * p + i)) Gc Gc2 := (fc1.mono fun f o w => by unfold zLc; omega).tr a9.1
    have fr : tfr (fun f _ => f = 1107 ∨ f = 1108 ∨ f = 1110 ∨ f = 1111 ∨ f = 1112 ∨ f = 1113) Gr Gr3 := ((fr1.mono fun f o w => by omega).tr (a9.2.1.mono fun f o w => by unfold zLr at w; omega)).tr (fr3.mono fun f o w => by omega)
    have g3 : gA Gr3 1110 0 = upd (gA Gr 1110 0) (66 + i) (nI cd) := by rw [(fr3 1110 0 (by omega)).2.2.2.1, (a9.2.1 1110 0 (by unfold zLr; omega)).2.2.2.1]; exact g1
    have gO : ∀ m, m < 1100 + cd → gA Gr3 1111 0 m = gA Gr 1111 0 m ∧ gA Gr3 1112 0 m = gA Gr 1112 0 m := by
      intro m hm
      have w1 := em_at (G := Gr2) (c := cd + e.length) (o := 0) (a := 0) (i := m) (by omega)
      have w2 := a9.2.2 m hm
      rw [hGr3, w1.1, w1.2, w2.1, w2.2, (fr1 1111 0 (by omega)).2.2.2.1, (fr1 1112 0 (by omega)).2.2.2.1]
      exact ⟨rfl, rfl⟩
    have lwo : ∀ t, t < 2 → t ≠ i → LW Gc Gr p cd t → LW Gc2 Gr3 p (cd + e.length + 1) t := fun t ht hti h => h.kept (by rw [(fc 200 _ (by unfold zLc; omega)).2.2.2.1]) (by rw [(fc 201 _ (by unfold zLc; omega)).1]) (by rw [g3, upd_ne (by omega)]) gO (by omega)
    have lwn : LW Gc2 Gr3 p (cd + e.length + 1) i := by
      refine ⟨e, a3.2.2.2.1, by omega, a5, a4 0 (by unfold cb; omega), Or.inr ⟨cd, by rw [g3, upd_eq], ⟨fun t ht => ?_, ?_⟩, by omega⟩⟩
      · have w1 := em_at (G := Gr2) (c := cd + e.length) (o := 0) (a := 0) (i := 1100 + cd + t) (by omega)
        rw [hGr3, w1.1, w1.2]
        exact a3.2.2.2.2.2 t ht
      · rw [hGr3, Nat.add_assoc]
        exact em_new.1
    have lw : ∀ t, t < 2 → LW Gc Gr p cd t → LW Gc2 Gr3 p (cd + e.length + 1) t := fun t ht h => by
      by_cases w : t = i
      · subst w; exact lwn
      · exact lwo t ht w h
    refine ⟨Gc2, Gr3, k2, pr, nm, ob, mn, cd + e.length + 1, rfl, rfl, ⟨a3.1, a3.2.1, a3.2.2.1.kept fr3 (fun f _ _ => by omega), ?_, ?_, v6, v7, v8, ?_, by omega, lw 0 (by omega) v11, lw 1 (by omega) v12⟩, a7, fc.mono fun f o w => by unfold zLc at w; unfold zPc; omega, fr.mono fun f o w => by unfold zPr; omega, fun t ht => by rw [g3, upd_ne (by omega)], fun t ht => gO t (by omega)⟩
    · exact v4.kept fc (fun f _ _ => by unfold zLc; omega) (fun f j _ _ => by unfold zLc; omega)
    · obtain ⟨b1, b2, b3, b4, b5, b6, b7⟩ := v5
      refine ⟨fun j hj => ?_, ?_, ?_, ?_, ?_, ?_, b7⟩
      · have hlb := lb_in hj
        refine ⟨?_, fun t ht => ?_⟩
        · rw [g3, upd_ne (by omega)]; exact (b1 j hj).1
        · rw [g3, upd_ne (by omega), upd_ne (by omega)]; exact (b1 j hj).2 t ht
      · rw [g3, upd_ne (by omega)]; exact b2
      · rw [g3, upd_ne (by omega)]; exact b3
      · rw [(fr 1120 0 (by omega)).1]; exact b4
      · rw [(fr 1119 0 (by omega)).1]; exact b5
      · rw [(fr 1115 0 (by omega)).2.2.2.2, (fr 1117 0 (by omega)).2.2.2.1]; exact b6
    · rw [hGr3]; exact em_n
  · refine Or.inr ⟨Gc2, emG Gr2 c2 0 0, v, ?_, a2, ?_, a4.kept em_fr2 (by omega), ?_⟩
    · rw [a1, tbI_v, tz0, tbI_v, tz0]
    · have a8' : c2 + k ≤ k2 + (cd + 0) := a8
      rw [a3, tbV_v, r_emit a5 (by omega), tbV_v]
    · refine ⟨(fc1.mono fun f o w => by unfold zPc; omega).tr (a12.1.mono fun f o w => by unfold zLc at w; unfold zPc; omega), ((fr1.mono fun f o w => by unfold zPr; omega).tr (a12.2.1.mono fun f o w => by unfold zLr at w; unfold zPr; omega)).tr (em_fr2.mono fun f o w => by unfold zPr; omega), fun t ht => ?_, fun t ht => ?_⟩
      · rw [(em_fr2 1110 0 (by omega)).2.2.2.1, (a12.2.1 1110 0 (by unfold zLr; omega)).2.2.2.1, g1, upd_ne (by omega)]
      · rw [(em_at (by omega)).1, (em_at (by omega)).2, (a12.2.2 t (by omega)).1, (a12.2.2 t (by omega)).2, (fr1 1111 0 (by omega)).2.2.2.1, (fr1 1112 0 (by omega)).2.2.2.1]
        exact ⟨rfl, rfl⟩
