/-! PURE: past -/
theorem fi_2 : ∀ n, n ≤ 38 → fi (sW 2) 0 n = if 14 ≤ n ∧ n < 24 then some (n - 14) else none := by decide +kernel
def PW (z : mZ) (N o p : Nat) (pr : mP) (nm : Nat → Nat → List Nat) (Gc Gr : tH) (k n : Nat) (L : Nat → Nat → Nat) : Prop := CT Gc z k ∧ gI Gc 808 0 = nI 0 ∧ RT Gr z N k ∧ gI Gc 400 o = nI n ∧ n ≤ 40 ∧ (∀ i, i < n → gA Gc 401 o i = nI (L i 0) ∧ gA Gc 402 o i = nI (L i 1) ∧ gA Gc 403 o i = nI (L i 2)) ∧ (∀ i, i < n → gA Gr 1121 0 (125 + 3 * i) = nI (L i 0) ∧ gA Gr 1121 0 (125 + 3 * i + 1) = nI (L i 1) ∧ gA Gr 1121 0 (125 + 3 * i + 2) = nI (L i 2)) ∧ (∀ i, i < n → okL pr (L i)) ∧ (∀ j, j < 4 → NC Gc (4 * p + j) (cntP pr j) (nm j)) ∧ ∃ mn, gI Gr 1118 0 = nI mn ∧ NR (gB Gr 1114 0) (gA Gr 1116 0) mn (cntP pr) nm
def FW (o : Nat) (Gc Gr Gc' Gr' : tH) : Prop := tfr (zWb o) Gc Gc' ∧ tfr (fun f _ => f = 1107 ∨ f = 1108 ∨ f = 1121) Gr Gr' ∧ ∀ i, i < 125 → gA Gr' 1121 0 i = gA Gr 1121 0 i
theorem FW.rf {o : Nat} {Gc Gr : tH} : FW o Gc Gr Gc Gr := ⟨tfr.rf, tfr.rf, fun _ _ => rfl⟩
theorem FW.tr {o : Nat} {Gc Gr Gc1 Gr1 Gc2 Gr2 : tH} (h : FW o Gc Gr Gc1 Gr1) (h' : FW o Gc1 Gr1 Gc2 Gr2) : FW o Gc Gr Gc2 Gr2 := ⟨h.1.tr h'.1, h.2.1.tr h'.2.1, fun i hi => (h'.2.2 i hi).trans (h.2.2 i hi)⟩
theorem NC.kept {G G' : tH} {r c : Nat} {f : Nat → List Nat} {S : Nat → Nat → Prop} (h : NC G r c f) (hf : tfr S G G') (h0 : ¬ S 600 r) (h1 : ¬ S 601 r) : NC G' r c f := by
  unfold NC
  rw [(hf 601 r h1).1, (hf 600 r h0).2.2.2.2]
  exact h
theorem okL_new {pr : mP} {w x y : Nat} (hw : w ≤ 9) (h : WR w x y (cntP pr)) : okL pr (fun t => if t = 0 then w else if t = 1 then x else y) := by
  obtain ⟨h1, h2, h3, h4⟩ := h
  have y9 : y ≤ 9999 := by
    by_cases q : hasA w
    · exact (h3 q).2
    · rw [h4 q]; omega
  refine ⟨hw, y9, fun e => ?_, fun e => ?_, fun e e' => ⟨?_, ?_⟩, fun e => ?_, fun e => ?_⟩
  · have e : w = 0 := e
    subst e
    exact h1 (Or.inl rfl)
  · have e : w = 2 := e
    subst e
    exact h1 (Or.inr ⟨by omega, by omega⟩)
  · have e : 3 ≤ w := e
    have e' : w ≤ 5 := e'
    have := h1 (Or.inr ⟨by omega, by omega⟩)
    have ej : jW w = 0 := by unfold jW; rw [if_neg (by omega), if_neg (by omega), if_neg (by omega)]
    rw [ej] at this
    exact this
  · have e : 3 ≤ w := e
    have e' : w ≤ 5 := e'
    have := (h3 (Or.inr ⟨e, e'⟩)).1
    have el : loW w = 1 := by unfold loW; rw [if_neg (by omega)]
    rw [el] at this
    exact this
  · have e : w = 6 := e
    subst e
    exact h1 (Or.inr ⟨by omega, by omega⟩)
  · have e : w = 7 := e
    subst e
    exact h1 (Or.inr ⟨by omega, by omega⟩)
theorem line_pair {z : mZ} {N o p k n : Nat} {pr : mP} {nm : Nat → Nat → List Nat} {Gc Gr : tH} {L : Nat → Nat → Nat} (hT : TK z N) (hU : NU (cntP pr) nm) (h : PW z N o p pr nm Gc Gr k n L) (hkd : kd z k ≠ 0) : (∃ Gc' Gr' k' L', V_X4_readLine o p Gc = some (some (vI (nI 1)), Gc') ∧ V_X11_past_11 (nI n) Gr = V_X11_past_11 (nI (n + 1)) Gr' ∧ PW z N o p pr nm Gc' Gr' k' (n + 1) L' ∧ k < k' ∧ FW o Gc Gr Gc' Gr') ∨ (∃ v Gc' Gr' m, V_X4_readLine o p Gc = some (some (vI (nI 0)), Gc') ∧ gI Gc' 808 0 = nI v ∧ V_X11_past_11 (nI n) Gr = V_X11_past_110 (nI m) Gr' ∧ RF Gr' v ∧ FW o Gc Gr Gc' Gr') := by
  obtain ⟨v1, v2, v3, v4, v5, v6, v7, v8, v9, v10⟩ := h
  have hN := hT.le
  have h4 := kd_le (z := z) (k := k)
  have hk := v3.2.1
  have hkN := hT.lt hk hkd
  have hw := wN_le (z := z) (k := k)
  have eF : ∀ (G : tH) (v : Nat) (x : Int32), RF G v → V_X11_past_11 x G = V_X11_past_110 x G := fun G v x hF => by rw [e_X11_past_11, hF.1, tz0M hF.2.2 (by have := hF.2.1; omega)]
  have e101F : ∀ (G : tH) (v : Nat) (x : Int32), RF G v → V_X11_past_101 x G = V_X11_past_110 x G := fun G v x hF => by rw [e_X11_past_101, r_signF hF, tbV_v, eF G v x hF]
  rw [e_X4_readLine, c_among v1 (by omega) (by omega), tbI_v, fi_2 _ hw, e_X11_past_11, v3.2.2.2.1, tn0, v3.2.2.1, ttin (by omega) (by omega), nI_clamp (by omega), (v3.1 k hk).1, tz0M (by omega) hkd, r_here hT v3 (by omega), tbI_v]
  by_cases q : 14 ≤ wN z k ∧ wN z k < 24
  · obtain ⟨w, hwd⟩ : ∃ w, w = wN z k - 14 := ⟨_, rfl⟩
    have hw9 : w ≤ 9 := by omega
    rw [if_pos q, wh_1 (by omega), ← hwd, show oI (some w) = nI w from rfl, tif_neg (m1_ne (by omega)), tlt0 (by omega), v4]
    by_cases hn : n < 40
    · obtain ⟨Gc1, ea, hc1, f1⟩ := c_adv hT.1 v1
      have n1 : gI Gc1 400 o = nI n := by rw [(f1 400 o (by unfold zTk; omega)).1]; exact v4
      rw [tltP (by omega) (by omega) hn, ea, tbV_v, n1, ttin hn (by omega), nI_clamp (by omega), teqM (by omega) (by omega) (by omega)]
      simp only [v3.2.2.1, nI_add, pk_mul]
      rw [ttin (by omega) (by omega), nI_clamp (by omega)]
      simp only [tz0, tz1]
      obtain ⟨Gc2, hGc2⟩ : ∃ g, g = sA Gc1 401 o (upd (gA Gc1 401 o) n (nI w)) := ⟨_, rfl⟩
      obtain ⟨Gr2, hGr2⟩ : ∃ g, g = sA (sI Gr 1107 0 (nI (k + 1))) 1121 0 (upd (gA (sI Gr 1107 0 (nI (k + 1))) 1121 0) (125 + 3 * n) (nI w)) := ⟨_, rfl⟩
      rw [← hGc2, ← hGr2]
      have f2 : tfr (fun f o' => f = 401 ∧ o' = o) Gc1 Gc2 := by rw [hGc2]; exact tfr.sA ⟨rfl, rfl⟩
      have f02 : tfr (fun f o' => (802 ≤ f ∧ f ≤ 807) ∨ (f = 401 ∧ o' = o)) Gc Gc2 := (f1.mono fun f o w => by unfold zTk at w; omega).tr (f2.mono fun f o w => Or.inr w)
      have r2 : RT Gr2 z N (k + 1) := by rw [hGr2]; exact (v3.at hkN).kept (tfr.sA (S := fun f _ => f = 1121) rfl) (fun f _ _ => by omega)
      have fr2 : tfr (fun f _ => f = 1107 ∨ f = 1121) Gr Gr2 := by rw [hGr2]; exact tfrA (tfr.sI (Or.inl rfl)) (Or.inr rfl)
      have g21 : gA Gr2 1121 0 = upd (gA Gr 1121 0) (125 + 3 * n) (nI w) := by rw [hGr2, gA_eq, gA_sI]
      have g401 : gA Gc2 401 o = upd (gA Gc 401 o) n (nI w) := by rw [hGc2, gA_eq, (f1 401 o (by unfold zTk; omega)).2.2.2.1]
      have c20 : gI Gc2 808 0 = nI 0 := by rw [(f02 808 0 (by omega)).1]; exact v2
      have n2 : gI Gc2 400 o = nI n := by rw [(f02 400 o (by omega)).1]; exact v4
      have hNC2 : ∀ j, j < 4 → NC Gc2 (4 * p + j) (cntP pr j) (nm j) := fun j hj => (v9 j hj).kept f02 (by omega) (by omega)
      have hNR2 : ∃ mn, gI Gr2 1118 0 = nI mn ∧ NR (gB Gr2 1114 0) (gA Gr2 1116 0) mn (cntP pr) nm := by
        obtain ⟨mn, b1, b2⟩ := v10
        refine ⟨mn, ?_, ?_⟩
        · rw [(fr2 1118 0 (by omega)).1]; exact b1
        · rw [(fr2 1114 0 (by omega)).2.2.2.2, (fr2 1116 0 (by omega)).2.2.2.1]; exact b2
      have key := wa_pair (o := o) (p := p) (w := w) (n := n) (a := 126 + 3 * n) hT hU (hc1.kept f2 (fun f _ _ => by omega)) c20 r2 n2 hn (by omega) hw9 hNC2 hNR2 (fun G_9 => tbI (V_X8_readSign (nI 59) G_9) (fun r_12 G_11 => tif (r_12 = 0) (some (some (vI (nI 0)), G_11)) (some (some (vI (nI 1)), sI G_11 400 o (gI G_11 400 o + nI 1)))))
      have fw2 : FW o Gc Gr Gc2 Gr2 := ⟨f02.mono fun f o w => by unfold zWb; omega, fr2.mono fun f o w => by omega, fun i hi => by rw [g21, upd_ne (by omega)]⟩
      rcases key with ⟨x, y, k', Gc3, Gr3, a1, a2, a3, a4, a5, a6, a7, a8, a9, a10, a11, a12, a13⟩ | ⟨v, Gc3, Gr3, a1, a2, a3, a4, a5, a6, a7⟩
      · unfold cWA at a1
        rw [a1, a2, tbV_v, e_X11_past_101]
        have fw3 : FW o Gc Gr Gc3 Gr3 := fw2.tr ⟨a9.mono fun f o w => by unfold zWa at w; unfold zWb; omega, a13.mono fun f o w => by omega, fun i hi => a12 i (by omega) (by omega)⟩
        have c30 : gI Gc3 808 0 = nI 0 := by rw [(a9 808 0 (by unfold zWa; omega)).1]; exact c20
        have n3 : gI Gc3 400 o = nI n := by rw [(a9 400 o (by unfold zWa; omega)).1]; exact n2
        have hk' := a4.2.1
        by_cases s : sg z k' 59
        · obtain ⟨Gc4, e4, c4, f4⟩ := c_sign1 hT a3 s
          have n4 : gI Gc4 400 o = nI n := by rw [(f4 400 o (by unfold zTk; omega)).1]; exact n3
          have fr34 : tfr (fun f _ => f = 1107) Gr3 (sI Gr3 1107 0 (nI (k' + 1))) := tfr.sI rfl
          have f45 : tfr (fun f o' => f = 400 ∧ o' = o) Gc4 (sI Gc4 400 o (nI (n + 1))) := tfr.sI ⟨rfl, rfl⟩
          have f35 : tfr (fun f o' => (802 ≤ f ∧ f ≤ 807) ∨ (f = 400 ∧ o' = o)) Gc3 (sI Gc4 400 o (nI (n + 1))) := (f4.mono fun f o w => by unfold zTk at w; omega).tr (f45.mono fun f o w => Or.inr w)
          refine Or.inl ⟨sI Gc4 400 o (nI (n + 1)), sI Gr3 1107 0 (nI (k' + 1)), k' + 1, uX L n (fun t => if t = 0 then w else if t = 1 then x else y), ?_, ?_, ⟨c4.kept f45 (fun f _ _ => by omega), ?_, a4.at (hT.lt hk' (by have := s.1; omega)), gI_eq, hn, fun i hi => ?_, fun i hi => ?_, fun i hi => ?_, fun j hj => ?_, ?_⟩, by omega, fw3.tr ⟨f35.mono fun f o w => by unfold zWb; omega, fr34.mono fun f o w => by omega, fun i hi => rfl⟩⟩
          · dsimp only
            rw [e4, tbI_v, tn1, n4, nI_add]
          · rw [r_sign1 hT a4 s, tbV_v]
          · rw [(f35 808 0 (by omega)).1]; exact c30
          · rw [(f35 401 o (by omega)).2.2.2.1, (f35 402 o (by omega)).2.2.2.1, (f35 403 o (by omega)).2.2.2.1, (a9 401 o (by unfold zWa; omega)).2.2.2.1, a7, a8, g401, (f02 402 o (by omega)).2.2.2.1, (f02 403 o (by omega)).2.2.2.1]
            by_cases ei : i = n
            · subst ei
              rw [upd_eq, upd_eq, upd_eq, uX_eq]
              exact ⟨rfl, rfl, rfl⟩
            · rw [upd_ne ei, upd_ne ei, upd_ne ei, uX_ne ei]
              exact v6 i (by omega)
          · rw [gA_sI]
            by_cases ei : i = n
            · subst ei
              rw [uX_eq, a12 _ (by omega) (by omega), g21, upd_eq, show 125 + 3 * i + 1 = 126 + 3 * i by omega, a10, show 125 + 3 * i + 2 = 126 + 3 * i + 1 by omega, a11]
              exact ⟨rfl, rfl, rfl⟩
            · rw [uX_ne ei, a12 _ (by omega) (by omega), a12 _ (by omega) (by omega), a12 _ (by omega) (by omega), g21, upd_ne (by omega), upd_ne (by omega), upd_ne (by omega)]
              exact v7 i (by omega)
          · by_cases ei : i = n
            · subst ei
              rw [uX_eq]
              exact okL_new hw9 a6
            · rw [uX_ne ei]; exact v8 i (by omega)
          · exact ((hNC2 j hj).kept a9 (by unfold zWa; omega) (by unfold zWa; omega)).kept f35 (by omega) (by omega)
          · obtain ⟨mn, b1, b2⟩ := hNR2
            refine ⟨mn, ?_, ?_⟩
            · rw [gI_ne (by omega), (a13 1118 0 (by omega)).1]; exact b1
            · rw [gB_sI, gA_sI, (a13 1114 0 (by omega)).2.2.2.2, (a13 1116 0 (by omega)).2.2.2.1]; exact b2
        · have hb := RT.bad (G := Gr3) (k := k') hT (show 1 ≤ 1 by omega) (by omega)
          refine Or.inr ⟨fv z k' 1, sI Gc3 808 0 (nI (fv z k' 1)), sI Gr3 1108 0 (nI (fv z k' 1)), n + 1, ?_, gI_eq, ?_, hb, fw3.tr ⟨tfr.sI (by unfold zWb; omega), tfr.sI (by omega), fun i _ => rfl⟩⟩
          · dsimp only
            rw [c_sign0 hT a3 c30 s (by omega), tbI_v, tn0]
          · rw [r_sign0 hT a4 s (by omega), tbV_v, eF _ _ _ hb]
      · unfold cWA at a1
        refine Or.inr ⟨v, Gc3, Gr3, n + 1, ?_, a2, ?_, a4, fw2.tr ⟨a5, a7, fun i hi => a6 i (by omega) (by omega)⟩⟩
        · rw [a1]
        · rw [a3, tbV_v, e101F _ v _ a4]
    · have hb := RT.bad (G := Gr) (k := k) hT (show 1 ≤ 5 by omega) (by omega)
      refine Or.inr ⟨fv z k 5, sI Gc 808 0 (nI (fv z k 5)), sI Gr 1108 0 (nI (fv z k 5)), n, ?_, gI_eq, ?_, hb, ⟨tfr.sI (by unfold zWb; omega), tfr.sI (by omega), fun i _ => rfl⟩⟩
      · rw [tltM (by omega) (by omega) (by omega), c_blame v1 v2, tbI_v, tz0]
      · rw [teqP (by omega), r_wrong hT v3, tbV_v, e101F _ _ _ hb]
  · have hb := RT.bad (G := Gr) (k := k) hT (show 1 ≤ 1 by omega) (by omega)
    refine Or.inr ⟨fv z k 1, sI Gc 808 0 (nI (fv z k 1)), sI Gr 1108 0 (nI (fv z k 1)), n, ?_, gI_eq, ?_, hb, ⟨tfr.sI (by unfold zWb; omega), tfr.sI (by omega), fun i _ => rfl⟩⟩
    · rw [if_neg q, show oI none = (-1 : Int32) from rfl, tif_pos rfl, c_blame v1 v2, tbI_v, tz0]
    · rw [wh_0 (by omega), tif_pos m1_lt, r_wrong hT v3, tbV_v, e101F _ _ _ hb]
theorem past_all {z : mZ} {N o p : Nat} {pr : mP} {nm : Nat → Nat → List Nat} {Gc0 Gr0 : tH} (hT : TK z N) (hU : NU (cntP pr) nm) : ∀ m it k n L Gc Gr, N - k ≤ m → PW z N o p pr nm Gc Gr k n L → it ≤ k → FW o Gc0 Gr0 Gc Gr → (∃ Gc' Gr' k' n' L', V_X4_tellFrom_7 o p (nI it) Gc = some (some (vI (nI 1)), Gc') ∧ V_X11_past_11 (nI n) Gr = V_X11_past_110 (nI n') Gr' ∧ PW z N o p pr nm Gc' Gr' k' n' L' ∧ FW o Gc0 Gr0 Gc' Gr') ∨ (∃ v Gc' Gr' n', V_X4_tellFrom_7 o p (nI it) Gc = some (some (vI (nI 0)), Gc') ∧ gI Gc' 808 0 = nI v ∧ V_X11_past_11 (nI n) Gr = V_X11_past_110 (nI n') Gr' ∧ RF Gr' v ∧ FW o Gc0 Gr0 Gc' Gr') := by
  have hN := hT.le
  intro m
  induction m with
  | zero =>
    intro it k n L Gc Gr hm hP hit hf
    have hk := hP.2.2.1.2.1
    have hkd : kd z k = 0 := by rw [show k = N by omega]; exact hT.2.2.1
    refine Or.inl ⟨Gc, Gr, k, n, L, ?_, ?_, hP, hf⟩
    · rw [e_X4_tellFrom_7, c_kd hP.1, hkd, tn0, tz1, tltN (by omega) (by omega)]
      split <;> rfl
    · rw [e_X11_past_11, hP.2.2.1.2.2.2.1, tn0, hP.2.2.1.2.2.1, ttin (by omega) (by omega), nI_clamp (by omega), (hP.2.2.1.1 k hk).1, hkd, tn0]
  | succ m ih =>
    intro it k n L Gc Gr hm hP hit hf
    have hk := hP.2.2.1.2.1
    have h4 := kd_le (z := z) (k := k)
    by_cases hkd : kd z k = 0
    · refine Or.inl ⟨Gc, Gr, k, n, L, ?_, ?_, hP, hf⟩
      · rw [e_X4_tellFrom_7, c_kd hP.1, hkd, tn0, tz1, tltN (by omega) (by omega)]
        split <;> rfl
      · rw [e_X11_past_11, hP.2.2.1.2.2.2.1, tn0, hP.2.2.1.2.2.1, ttin (by omega) (by omega), nI_clamp (by omega), (hP.2.2.1.1 k hk).1, hkd, tn0]
    · have hkN := hT.lt hk hkd
      have ec : V_X4_tellFrom_7 o p (nI it) Gc = tbI (V_X4_readLine o p Gc) (fun r_2 G_1 => tif (r_2 = 0) (some (some (vI (nI 0)), G_1)) (V_X4_tellFrom_7 o p (nI (it + 1)) G_1)) := by
        rw [e_X4_tellFrom_7, tltP (by omega) (by omega) (by omega), c_kd hP.1, tz0M (by omega) hkd, nI_add]
        simp only [tz0]
      rw [ec]
      rcases line_pair hT hU hP hkd with ⟨Gc2, Gr2, k2, L2, a1, a2, a3, a4, a5⟩ | ⟨v, Gc2, Gr2, n2, a1, a2, a3, a4, a5⟩
      · rw [a1, a2, tbI_v, tn1]
        exact ih (it + 1) k2 (n + 1) L2 Gc2 Gr2 (by omega) a3 (by omega) (hf.tr a5)
      · refine Or.inr ⟨v, Gc2, Gr2, n2, ?_, a2, a3, a4, hf.tr a5⟩
        rw [a1, tbI_v, tn0]
