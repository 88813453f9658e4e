/-! PURE: a new name -/
theorem DC.nc {G : tH} {p ob j : Nat} {pr : mP} {nm : Nat → Nat → List Nat} (h : DC G p pr nm ob) (hU : NU (cntP pr) nm) (hj : j < 4) : NC G (4 * p + j) (cntP pr j) (nm j) := by
  obtain ⟨u0, u1, u2, u3, u4, u5⟩ := id hU
  refine ⟨(h.1 j hj).1, ?_, fun i hi => ⟨((h.1 j hj).2 i hi).2.2, u4 j i hj hi⟩⟩
  show cntP pr j ≤ if (4 * p + j) % 4 = 0 then 6 else 5
  rcases (show j = 0 ∨ j = 1 ∨ j = 2 ∨ j = 3 by omega) with e | e | e | e <;> subst e
  · rw [if_pos (by omega)]; exact u0
  · rw [if_neg (by omega)]; exact u1
  · rw [if_neg (by omega)]; exact u2
  · rw [if_neg (by omega)]; exact u3
theorem DC.kept {G G' : tH} {p ob : Nat} {pr : mP} {nm : Nat → Nat → List Nat} {S : Nat → Nat → Prop} (h : DC G p pr nm ob) (hf : tfr S G G') (h1 : ∀ f, 500 ≤ f → f < 600 → ¬ S f p) (h2 : ∀ f j, j < 4 → (f = 600 ∨ f = 601) → ¬ S f (4 * p + j)) : DC G' p pr nm ob := by
  obtain ⟨a1, a2, a3, a4⟩ := h
  refine ⟨fun j hj => ⟨?_, fun i hi => ?_⟩, ?_, ?_, ?_⟩
  · rw [(hf 601 _ (h2 601 j hj (Or.inr rfl))).1]; exact (a1 j hj).1
  · rw [(hf (504 + 2 * j) p (h1 _ (by omega) (by omega))).2.2.2.1, (hf (505 + 2 * j) p (h1 _ (by omega) (by omega))).2.2.2.1, (hf 600 _ (h2 600 j hj (Or.inl rfl))).2.2.2.2]; exact (a1 j hj).2 i hi
  · rw [(hf 512 p (h1 _ (by omega) (by omega))).1]; exact a2
  · rw [(hf 513 p (h1 _ (by omega) (by omega))).1]; exact a3
  · rw [(hf 516 p (h1 _ (by omega) (by omega))).1]; exact a4
theorem c_newF1 {G : tH} {z : mZ} {k p r : Nat} (h : CT G z k) (h0 : gI G 808 0 = nI 0) (hn : ¬ isNa z k) : V_X5_readNew p r G = some (some (vI (-1)), sI G 808 0 (nI (fv z k 1))) := by
  rw [e_X5_readNew, c_name0 h hn, tbI_v, tn0, c_blame h h0, tbI_v]
theorem oI_n {q : Option Nat} {c : Nat} (h : ∀ i, q = some i → i < c) (hc : c < 100) {x y : Option tRes} : tif (oI q = -1) x y = tif (q = none) x y := by
  cases q with
  | none => exact (tif_pos rfl).trans (tif_pos rfl).symm
  | some i =>
    have := h i rfl
    rw [tif_neg (show ¬ (some i = none) from fun w => by cases w)]
    exact tif_neg (m1_ne (by omega))
theorem c_new {G : tH} {z : mZ} {k p r ob : Nat} {pr : mP} {nm : Nat → Nat → List Nat} (h : CT G z k) (h0 : gI G 808 0 = nI 0) (hD : DC G p pr nm ob) (hU : NU (cntP pr) nm) (hn : isNa z k) : ((∃ j i, j < 4 ∧ i < cntP pr j ∧ nm j i = wl z k) → V_X5_readNew p r G = some (some (vI (-1)), sI G 808 0 (nI (fv z k 3)))) ∧ ((∀ j i, j < 4 → i < cntP pr j → nm j i ≠ wl z k) → V_X5_readNew p r G = tbV (V_X8_advance G) (fun G_13 => tbI (V_X6_enter r (lN (wcode 32 (wl z k))) G_13) (fun r_15 G_14 => some (some (vI r_15), G_14)))) := by
  have fd : ∀ j, j < 4 → ∃ q : Option Nat, V_X6_find (4 * p + j) (lN (wcode 32 (wl z k))) G = some (some (vI (oI q)), G) ∧ (∀ i, q = some i → i < cntP pr j ∧ nm j i = wl z k) ∧ (q = none → ∀ i, i < cntP pr j → nm j i ≠ wl z k) := fun j hj => by
    have hN := hD.nc hU hj
    exact c_find (wl_ok hn.1) hN.1 hN.2.1 hN.2.2
  obtain ⟨q0, e0, a0, b0⟩ := fd 0 (by omega)
  obtain ⟨q1, e1, a1, b1⟩ := fd 1 (by omega)
  obtain ⟨q2, e2, a2, b2⟩ := fd 2 (by omega)
  obtain ⟨q3, e3, a3, b3⟩ := fd 3 (by omega)
  have c0 := hU.le (show 0 < 4 by omega)
  have c1 := hU.le (show 1 < 4 by omega)
  have c2 := hU.le (show 2 < 4 by omega)
  have c3 := hU.le (show 3 < 4 by omega)
  have e68 : V_X5_readNew_68 G = some (some (vI (-1)), sI G 808 0 (nI (fv z k 3))) := by rw [e_X5_readNew_68, c_blame h h0, tbI_v]
  have hw : gL G 805 0 = lN (wcode 32 (wl z k)) := h.2.2.2.2.1 hn.1
  have main : V_X5_readNew p r G = tif (q0 = none) (tif (q1 = none) (tif (q2 = none) (tif (q3 = none) (tbV (V_X8_advance G) (fun G_13 => tbI (V_X6_enter r (lN (wcode 32 (wl z k))) G_13) (fun r_15 G_14 => some (some (vI r_15), G_14)))) (some (some (vI (-1)), sI G 808 0 (nI (fv z k 3))))) (some (some (vI (-1)), sI G 808 0 (nI (fv z k 3))))) (some (some (vI (-1)), sI G 808 0 (nI (fv z k 3))))) (some (some (vI (-1)), sI G 808 0 (nI (fv z k 3)))) := by
    rw [e_X5_readNew, c_name1 h hn, tbI_v, tn1, hw, e0, tbI_v, e1, tbI_v, e2, tbI_v, e3, tbI_v, e68, oI_n (fun i w => (a0 i w).1) (by omega), oI_n (fun i w => (a1 i w).1) (by omega), oI_n (fun i w => (a2 i w).1) (by omega), oI_n (fun i w => (a3 i w).1) (by omega)]
  rw [main]
  constructor
  · rintro ⟨j, i, hj, hi, he⟩
    by_cases w0 : q0 = none
    · rw [tif_pos w0]
      by_cases w1 : q1 = none
      · rw [tif_pos w1]
        by_cases w2 : q2 = none
        · rw [tif_pos w2]
          by_cases w3 : q3 = none
          · exfalso
            rcases (show j = 0 ∨ j = 1 ∨ j = 2 ∨ j = 3 by omega) with e | e | e | e <;> subst e
            · exact b0 w0 i hi he
            · exact b1 w1 i hi he
            · exact b2 w2 i hi he
            · exact b3 w3 i hi he
          · rw [tif_neg w3]
        · rw [tif_neg w2]
      · rw [tif_neg w1]
    · rw [tif_neg w0]
  · intro hne
    have w0 : q0 = none := by
      cases q0 with
      | none => rfl
      | some i => exact absurd (a0 i rfl).2 (hne 0 i (by omega) (a0 i rfl).1)
    have w1 : q1 = none := by
      cases q1 with
      | none => rfl
      | some i => exact absurd (a1 i rfl).2 (hne 1 i (by omega) (a1 i rfl).1)
    have w2 : q2 = none := by
      cases q2 with
      | none => rfl
      | some i => exact absurd (a2 i rfl).2 (hne 2 i (by omega) (a2 i rfl).1)
    have w3 : q3 = none := by
      cases q3 with
      | none => rfl
      | some i => exact absurd (a3 i rfl).2 (hne 3 i (by omega) (a3 i rfl).1)
    rw [tif_pos w0, tif_pos w1, tif_pos w2, tif_pos w3]
theorem tal_mx {p j : Nat} (hj : j < 4) : talen 600 (4 * p + j) = mx j := by
  show (if (4 * p + j) % 4 = 0 then 6 else 5) = if j = 0 then 6 else 5
  by_cases e : j = 0
  · rw [if_pos (by omega), if_pos e]
  · rw [if_neg (by omega), if_neg e]
theorem c_full {G : tH} {p j n : Nat} (hj : j < 4) (h : gI G 601 (4 * p + j) = nI n) (hn : n ≤ 6) : V_X6_isFull (4 * p + j) G = some (some (vI (bN (¬ n < mx j))), G) := by
  have := mx_in (j := j)
  rw [e_X6_isFull, h, tal_mx hj, show (Int32.ofNat (mx j) : Int32) = nI (mx j) from rfl, tltN (by omega) (by omega)]
  by_cases q : n < mx j
  · rw [if_pos q, tz0, bN_0 (fun w => w q)]
  · rw [if_neg q, tz1, bN_1 q]
theorem c_enter {G : tH} {p j n : Nat} {y : Int64} (hj : j < 4) (h : gI G 601 (4 * p + j) = nI n) (hn : n < mx j) : V_X6_enter (4 * p + j) y G = some (some (vI (nI n)), sI (sB G 600 (4 * p + j) (vp_updL (gB G 600 (4 * p + j)) n y)) 601 (4 * p + j) (nI (n + 1))) := by
  have := mx_in (j := j)
  rw [e_X6_enter, c_full hj h (by omega), tbI_v, bN_n0 (fun w => w hn), h, tal_mx hj, ttin hn (by omega), nI_clamp (by omega)]
  dsimp only
  rw [gI_eq, gI_sB, h, nI_add, nI_sub (by omega)]
  rfl
/-- both have read a new name, or find the same fault -/
theorem pair_name {z : mZ} {N p k j n mn ob cd : Nat} {pr : mP} {nm : Nat → Nat → List Nat} {Gc0 Gr0 Gc1 : tH} (hT : TK z N) (hPV : PV z N p Gc0 Gr0 k pr nm ob mn cd) (hkd : kd z k ≠ 0) (hj : j < 4) (hn : cntP pr j = n) (hm : n < mx j) (hc1 : CT Gc1 z (k + 1)) (f1 : tfr zTk Gc0 Gc1) :
    (∃ Gc2 Gr2, V_X5_readNew p (4 * p + j) Gc1 = some (some (vI (nI n)), Gc2) ∧ V_X11_readName (nI j) (nI (mx j)) (nI (20 * j)) Gr0 = some (some (vI (nI 1)), Gr2) ∧ MD z N p (k + 2) j n mn (wl z (k + 1)) Gc0 Gr0 Gc2 Gr2 ∧ okW (wl z (k + 1)) ∧ ∀ j' i', j' < 4 → i' < cntP pr j' → nm j' i' ≠ wl z (k + 1)) ∨ (∃ v Gc2 Gr2, V_X5_readNew p (4 * p + j) Gc1 = some (some (vI (-1)), Gc2) ∧ gI Gc2 808 0 = nI v ∧ V_X11_readName (nI j) (nI (mx j)) (nI (20 * j)) Gr0 = some (some (vI (nI 0)), Gr2) ∧ RF Gr2 v ∧ tfr (fun f _ => 802 ≤ f ∧ f ≤ 808) Gc1 Gc2 ∧ tfr (fun f _ => f = 1107 ∨ f = 1108) Gr0 Gr2) := by
  obtain ⟨v1, v2, v3, v4, v5, v6, v7, v8, v9, v10, v11, v12⟩ := hPV
  have hN := hT.le
  have hmx := mx_in (j := j)
  have hk1 := hT.lt v3.2.1 hkd
  have h01 : gI Gc1 808 0 = nI 0 := by rw [(f1 808 0 (by unfold zTk; omega)).1]; exact v2
  have hD1 : DC Gc1 p pr nm ob := v4.kept f1 (fun f _ _ => by unfold zTk; omega) (fun f j _ _ => by unfold zTk; omega)
  have hR1 := v3.at hk1
  have hC0 : gA Gr0 1110 0 (60 + j) = nI n := by rw [(v5.1 j hj).1, hn]
  have er : V_X11_readName (nI j) (nI (mx j)) (nI (20 * j)) Gr0 = tbI (V_X11_isName (sI Gr0 1107 0 (nI (k + 1)))) (fun r_4 G_3 => tif (r_4 = 0) (tbV (V_X11_wrong (nI 1) G_3) (fun G_5 => V_X11_readName_62 (nI (20 * j)) (nI n) G_5)) (tbI (V_X11_find (nI 1) G_3) (fun r_7 G_6 => tif (r_7 < 0) (V_X11_readName_62 (nI (20 * j)) (nI n) G_6) (tbV (V_X11_wrong (nI 3) G_6) (fun G_8 => V_X11_readName_62 (nI (20 * j)) (nI n) G_8))))) := by
    rw [e_X11_readName, nI_add, ttin (by omega) (by omega), nI_clamp (by omega), hC0, teqM (by omega) (by omega) (by omega)]
    dsimp only
    rw [v3.2.2.1, nI_add]
  have e62 : ∀ G v, RF G v → V_X11_readName_62 (nI (20 * j)) (nI n) G = some (some (vI (nI 0)), G) := by
    intro G v h
    rw [e_X11_readName_62, h.1, tl0P h.2.2 h.2.1, tz0]
  rw [er]
  by_cases q : isNa z (k + 1)
  · have hl := wl_ok q.1
    have hM1 : gI (sI Gr0 1107 0 (nI (k + 1))) (fM 1) 0 = nI mn := by
      show gI (sI Gr0 1107 0 (nI (k + 1))) 1119 0 = nI mn
      rw [gI_ne (by omega)]; exact v5.2.2.2.2.1
    obtain ⟨x, ef, hx⟩ := r_find (b := 1) hT hR1 q.1 (by omega) hM1 v5.2.2.2.2.2.1 v7
    obtain ⟨cA, cB⟩ := c_new (r := 4 * p + j) hc1 h01 hD1 v7 q
    rw [r_name1 hT hR1 q, tbI_v, tn1, ef, tbI_v]
    rcases hx with ⟨j', i', a1, a2, a3, a4⟩ | ⟨a1, a2⟩
    · refine Or.inr ⟨fv z (k + 1) 3, _, sI (sI Gr0 1107 0 (nI (k + 1))) 1108 0 (nI (fv z (k + 1) 3)), cA ⟨j', i', a1, a2, a3⟩, gI_eq, ?_, RT.bad hT (by omega) (by omega), tfr.sI (by omega), tfrI (tfr.sI (Or.inl rfl)) (Or.inr rfl)⟩
      have := v7.le a1
      rw [a4, tlt0 (by omega), r_wrong hT hR1, tbV_v, e62 _ _ (RT.bad hT (by omega) (by omega))]
    · refine Or.inl ?_
      have hmn : mn < 21 := by
        obtain ⟨u0, u1, u2, u3, _⟩ := id v7
        have := v5.2.2.2.2.2.2
        rcases (show j = 0 ∨ j = 1 ∨ j = 2 ∨ j = 3 by omega) with e | e | e | e <;> subst e
        · have : mx 0 = 6 := rfl
          omega
        · have : mx 1 = 5 := rfl
          omega
        · have : mx 2 = 5 := rfl
          omega
        · have : mx 3 = 5 := rfl
          omega
      obtain ⟨Gc2, ea, hc2, f2⟩ := c_adv hT.1 hc1
      have h601 : gI Gc2 601 (4 * p + j) = nI n := by rw [(f2 601 _ (by unfold zTk; omega)).1, (hD1.1 j hj).1, hn]
      have hk2 := hT.lt (k := k + 1) hk1 (by have := q.1; omega)
      have hv1 := (hR1.1 (k + 1) hk1).2.2.1 q.1
      obtain ⟨Gr2, hGr2⟩ : ∃ g, g = sI (sI (sA (sB (sI Gr0 1107 0 (nI (k + 1))) 1115 0 (vp_updL (gB Gr0 1115 0) mn (lN (wcode 37 (wl z (k + 1)))))) 1117 0 (upd (gA Gr0 1117 0) mn (nI (20 * j + n)))) 1119 0 (nI (mn + 1))) 1107 0 (nI (k + 2)) := ⟨_, rfl⟩
      have eb : V_X11_readName_62 (nI (20 * j)) (nI n) (sI Gr0 1107 0 (nI (k + 1))) = some (some (vI (nI 1)), Gr2) := by
        rw [e_X11_readName_62, hR1.2.2.2.1, tl0M rfl, hR1.2.2.1, ttin (by omega) (by omega), show gI (sI Gr0 1107 0 (nI (k + 1))) 1119 0 = nI mn from hM1, ttin hmn (by omega), nI_clamp (by omega), nI_clamp (by omega), hv1]
        dsimp only
        simp (disch := omega) only [gI_sB, gI_sA, gI_ne, gI_eq, v5.2.2.2.2.1, nI_add]
        rw [ttin hmn (by omega), nI_clamp (by omega), tz1, hGr2]
        rfl
      refine ⟨sI (sB Gc2 600 (4 * p + j) (vp_updL (gB Gc2 600 (4 * p + j)) n (lN (wcode 32 (wl z (k + 1)))))) 601 (4 * p + j) (nI (n + 1)), Gr2, ?_, ?_, ⟨?_, ?_, ?_, ?_, gI_eq, fun i hi => ?_, ?_, ⟨?_, ?_⟩, ?_, ?_, fun i hi => ?_, ?_, ?_, ?_⟩, hl, a2⟩
      · rw [cB a2, ea, tbV_v, c_enter hj h601 hm, tbI_v]
      · rw [a1, tif_pos m1_lt, eb]
      · exact hc2.kept (tfrI (tfr.sB (S := fun f _ => f = 600 ∨ f = 601) (Or.inl rfl)) (Or.inr rfl)) (fun f _ _ => by omega)
      · rw [gI_ne (by omega), gI_sB, (f2 808 0 (by unfold zTk; omega)).1]; exact h01
      · rw [hGr2]
        refine RT.at (k := k + 1) ?_ hk2
        exact hR1.kept (tfrI (tfrA (tfr.sB (S := fun f _ => f = 1115 ∨ f = 1117 ∨ f = 1119) (by omega)) (by omega)) (by omega)) (fun f _ _ => by omega)
      · refine tfrI (tfrB ?_ (by unfold zSc; omega)) (by unfold zSc; omega)
        exact (f1.tr f2).mono fun f o w => by unfold zTk at w; unfold zSc; omega
      · rw [gB_sI, gB_eq, pk_uLn hi, (f2 600 _ (by unfold zTk; omega)).2.2.2.2, (f1 600 _ (by unfold zTk; omega)).2.2.2.2]
      · rw [gB_sI, gB_eq, pk_uLs]
      · rw [gA_sI, gA_sB, (f2 _ _ (by unfold zTk; omega)).2.2.2.1, (f1 _ _ (by unfold zTk; omega)).2.2.2.1]
      · rw [gA_sI, gA_sB, (f2 _ _ (by unfold zTk; omega)).2.2.2.1, (f1 _ _ (by unfold zTk; omega)).2.2.2.1]
      · rw [hGr2]
        exact tfrI (tfrI (tfrA (tfrB (tfr.sI (by unfold zSr; omega)) (by unfold zSr; omega)) (by unfold zSr; omega)) (by unfold zSr; omega)) (by unfold zSr; omega)
      · rw [hGr2, gI_ne (by omega), gI_eq]
      · rw [hGr2]
        constructor
        · rw [gB_sI, gB_sI, gB_sA, gB_eq, pk_uLn hi]
        · rw [gA_sI, gA_sI, gA_eq, upd_ne hi]
      · rw [hGr2, gB_sI, gB_sI, gB_sA, gB_eq, pk_uLs]
      · rw [hGr2, gA_sI, gA_sI, gA_eq, upd_eq]
      · rw [hGr2, gA_sI, gA_sI, gA_ne (by omega), gA_sB]; rfl
  · refine Or.inr ⟨fv z (k + 1) 1, _, sI (sI Gr0 1107 0 (nI (k + 1))) 1108 0 (nI (fv z (k + 1) 1)), c_newF1 hc1 h01 q, gI_eq, ?_, RT.bad hT (by omega) (by omega), tfr.sI (by omega), tfrI (tfr.sI (Or.inl rfl)) (Or.inr rfl)⟩
    rw [r_name0 hT hR1 q, tbI_v, tn0, r_wrong hT hR1, tbV_v, e62 _ _ (RT.bad hT (by omega) (by omega))]
