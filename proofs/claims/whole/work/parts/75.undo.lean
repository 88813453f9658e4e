/-! PURE: scratch; count, undo, marks -/
def zV : Nat → Nat → Prop := fun f o => f < 200 ∨ f = 202 ∨ (300 ≤ f ∧ f < 400) ∨ (700 ≤ f ∧ f < 800 ∧ o = 1) ∨ 1100 ≤ f
def zX : Nat → Nat → Prop := fun f _ => f < 1100 ∨ f = 1100 ∨ f = 1122 ∨ f = 1123 ∨ f = 1124 ∨ 1127 ≤ f
section SC
variable {G G' : tH} {p fr q : Nat} {pr : mP} {lw : mL} {σ : Nat → mS} {τ : Nat → Nat → Int32} {ν : Nat → Nat} {L : Nat → Nat → Nat} {tx : Nat → Nat} {nm : Nat → Nat → List Nat}
theorem cP.scr (h : cP G p pr) (hf : tfr zV G G') : cP G' p pr := h.kept hf fun f o z => by unfold zV at z; omega
theorem cS.scr {o : Nat} {s : mS} (h : cS G o p pr s) (ho : o ≠ 1) (hf : tfr zV G G') : cS G' o p pr s := h.kept hf fun f _ _ => by unfold zV; omega
theorem cL.scr {i : Nat} {f : Int32 → Int32 → Int32 → Int32} (h : cL G i f) (hf : tfr zV G G') : cL G' i f := h.kept hf (by unfold zV; omega) (by unfold zV; omega)
theorem IC.scr (h : IC G p fr q pr lw σ τ ν L tx nm) (hf : tfr zV G G') : IC G' p fr q pr lw σ τ ν L tx nm := by
  obtain ⟨⟨h1, h2, h3, h4, h5, h6, h7, h8, h9, h10, h11, h12⟩, d2, d3, d4, d5⟩ := h
  refine ⟨⟨h1, ?_, ?_, h4.scr hf, h5.scr hf, h6.scr hf, h7.scr (by omega) hf, h8, ?_, ?_, fun k hk => (h11 k hk).scr (by omega) hf, fun m hm => (h12 m hm).scr (by omega) hf⟩, d2.kept hf fun f o z => by unfold zV at z; omega, d3.kept hf fun f o z => by unfold zV at z; omega, d4.kept hf fun f o z => by unfold zV at z; omega, d5.kept hf fun f o z => by unfold zV at z; omega⟩
  · rw [(hf 1001 0 (by unfold zV; omega)).2.2.1]; exact h2
  · rw [(hf 1002 0 (by unfold zV; omega)).2.2.1]; exact h3
  · rw [(hf 901 0 (by unfold zV; omega)).1]; exact h9
  · rw [(hf 902 0 (by unfold zV; omega)).1]; exact h10
theorem IR.scr (h : IR G pr lw σ τ ν L tx nm) (hM : okM pr σ τ ν L tx) (hf : tfr zX G G') (ha : ∀ k, k < 1281 → gA G' 1124 0 k = gA G 1124 0 k) : IR G' pr lw σ τ ν L tx nm := by
  obtain ⟨⟨h1, h2, h3, h4, h5, h6, h7⟩, d2, d3, d4, d5, d6⟩ := h
  have n : ∀ f o, ¬ (f < 1100 ∨ f = 1100 ∨ f = 1122 ∨ f = 1123 ∨ f = 1124 ∨ 1127 ≤ f) → ¬ zX f o := fun f o z z2 => z z2
  have ho := hM.1
  have hu := hM.2.2.1
  refine ⟨⟨h1.kept hf (n _ _ (by omega)), h2.kept hf (n _ _ (by omega)) (n _ _ (by omega)) (n _ _ (by omega)), h3.kept hf (n _ _ (by omega)) (n _ _ (by omega)) (n _ _ (by omega)), h4.ext ho fun i _ hi => ha i (by omega), ?_, fun k hk => (h6 k hk).ext ho fun i _ hi => ha i (by omega), fun m hm => (h7 m hm).ext ho fun i _ hi => ha i (by have := hm.1; omega)⟩, d2.ext rfl (hf 1126 0 (n _ _ (by omega))).2.2.2.1 fun k _ hk => ha k (by omega), d3.kept hf (n _ _ (by omega)), d4.kept hf (n _ _ (by omega)) (n _ _ (by omega)), d5.kept hf (n _ _ (by omega)) (n _ _ (by omega)) (n _ _ (by omega)), d6.kept hf (n _ _ (by omega))⟩
  rw [(hf 1125 0 (n _ _ (by omega))).1]
  exact h5
/-- an answer that changes nothing but what is scratched -/
theorem PAIR.scr {f g : tH → Option tRes} {r : Int32} {G1 : tH} (hM : okM pr σ τ ν L tx) (hN : okN pr nm) (hC : IC G p fr q pr lw σ τ ν L tx nm) (hR : IR G pr lw σ τ ν L tx nm) (e1 : f G = some (some (vI r), G1)) (f1 : tfr (fun f o => zV f o ∧ f < 1100) G G1)
    (e2 : IR G1 pr lw σ τ ν L tx nm → ∃ G2, g G1 = some (some (vI r), G2) ∧ tfr (fun f o => zX f o ∧ 1100 ≤ f) G1 G2 ∧ ∀ k, k < 1281 → gA G2 1124 0 k = gA G1 1124 0 k) : PAIR f g G := by
  have hR1 := hR.kept (f1.mono fun f o z => z.2)
  obtain ⟨G2, e3, f2, a2⟩ := e2 hR1
  exact ⟨r, G1, G2, e1, e3, p, fr, q, pr, lw, σ, τ, ν, L, tx, nm, hM, hN, (hC.scr (f1.mono fun f o z => z.1)).kept (f2.mono fun f o z => z.2), hR1.scr hM (f2.mono fun f o z => z.1) a2⟩
end SC
/-! count -/
noncomputable def tlN (t : Nat → Int32) : Nat → Nat
  | 0 => 0
  | n + 1 => tlN t n + if t n = -1 then 0 else 1
theorem tlN_le (t : Nat → Int32) : ∀ n, tlN t n ≤ n
  | 0 => Nat.le_refl _
  | n + 1 => by
    have := tlN_le t n
    unfold tlN
    split <;> omega
theorem tlN_end {t : Nat → Int32} {pr : mP} (h : okT pr t) : ∀ n, nC pr + n ≤ 5 → tlN t (nC pr + n) = tlN t (nC pr)
  | 0, _ => rfl
  | n + 1, hn => by
    have h1 := tlN_end h n (by omega)
    show tlN t (nC pr + n) + (if t (nC pr + n) = -1 then 0 else 1) = _
    rcases h (nC pr + n) (by omega) with q | q
    · rw [if_pos q, h1, Nat.add_zero]
    · omega
theorem v_talesTold {G : tH} {τ : Nat → Nat → Int32} {ν : Nat → Nat} (h : C2 G τ ν) : V_X10_talesTold G = some (some (vI (nI (tlN (τ 0) 5))), G) := by
  rw [e_X10_talesTold]
  have key : ∀ n i, i + n = 5 → V_X10_talesTold_4 (nI (tlN (τ 0) i)) (nI i) G = some (some (vI (nI (tlN (τ 0) 5))), G) := by
    intro n
    induction n with
    | zero =>
      intro i hi
      rw [e_X10_talesTold_4, tltM (by omega) (by omega) (by omega), show i = 5 by omega]
    | succ n ih =>
      intro i hi
      have h2 := ih (i + 1) (by omega)
      rw [e_X10_talesTold_4, tltP (by omega) (by omega) (by omega), ttin (by omega) (by omega), nI_clamp (by omega), h.1 i (by omega), nI_add, nI_add]
      by_cases hq : τ 0 i = -1
      · rw [tif_pos hq, ← h2, tlN, if_pos hq]; rfl
      · rw [tif_neg hq, ← h2, tlN, if_neg hq]
  exact key 5 0 (by omega)
theorem r_talesMany {G : tH} {pr : mP} {τ : Nat → Nat → Int32} {ν : Nat → Nat} (hP : rP G pr) (ho : okP pr) (hT : okT pr (τ 0)) (h : R2 G τ ν) : V_X11_talesMany G = some (some (vI (nI (tlN (τ 0) 5))), G) := by
  have hC := ho.2.1
  have h5 := tlN_end hT (5 - nC pr) (by omega)
  rw [show nC pr + (5 - nC pr) = 5 by omega] at h5
  rw [e_X11_talesMany, h5]
  have key : ∀ n i, i + n = nC pr → V_X11_talesMany_4 (nI (tlN (τ 0) i)) (nI i) G = some (some (vI (nI (tlN (τ 0) (nC pr)))), G) := by
    intro n
    induction n with
    | zero =>
      intro i hi
      rw [e_X11_talesMany_4, r_companies hP, tbI_v, tltM (by omega) (by omega) (by omega), show i = nC pr by omega]
    | succ n ih =>
      intro i hi
      have h2 := ih (i + 1) (by omega)
      rw [e_X11_talesMany_4, r_companies hP, tbI_v, tltP (by omega) (by omega) (by omega)]
      simp (disch := omega) only [nI_add, ttin, nI_clamp, h.1]
      rcases hT i (by omega) with hq | ⟨_, k, hk, hq⟩
      · rw [hq, tif_pos m1_lt, ← h2, tlN, if_pos hq]
      · rw [hq, tlt0 (by omega), ← h2, tlN, hq, if_neg (m1_ne (by omega))]
  exact key (nC pr) 0 (by omega)
theorem p_count (x1 : Int32) {G : tH} (h : INV G) : PAIR (V_X10_count x1) (V_X11_count x1) G := by
  obtain ⟨p, fr, q, pr, lw, σ, τ, ν, L, tx, nm, hM, hN, hC, hR⟩ := id h
  obtain ⟨ho, hs, hu, hM4, hM5, hM6, hM7, hM8, hM9⟩ := id hM
  obtain ⟨c1, c2, c3, hP, c5, c6, hS, c8, c9, c10, _⟩ := hC.1
  have hR0 := hR.1.thr (nI 0)
  obtain ⟨r1, r2, r3, r4, r5, r6, r7⟩ := id hR.1
  obtain ⟨s1, s2, s3, s4, s5, s6⟩ := id r4
  simp only [Nat.zero_add] at s1 s2 s3 s4 s5
  rcases within_c (a := 0) (b := 12) x1 (by omega) (by omega) with ⟨k, _, hk, rfl, hw⟩ | ⟨hno, hw⟩
  · have key : ∀ r, (V_X10_count (nI k) G = some (some (vI r), G)) → (V_X11_count (nI k) G = some (some (vI r), sI G 1100 0 (nI 0))) → PAIR (V_X10_count (nI k)) (V_X11_count (nI k)) G := fun r e1 e2 => PAIR.read h e1 e2
    rcases (show k = 0 ∨ k = 1 ∨ k = 2 ∨ k = 3 ∨ k = 4 ∨ k = 5 ∨ k = 6 ∨ k = 7 ∨ k = 8 ∨ k = 9 ∨ k = 10 ∨ k = 11 ∨ k = 12 by omega) with rfl | rfl | rfl | rfl | rfl | rfl | rfl | rfl | rfl | rfl | rfl | rfl | rfl
    · refine key (nI (nT pr)) ?_ ?_
      · rw [e_X10_count]
        simp (disch := omega) only [tif_tr, teqP, teqM, c2, tbI_v, hP.1]
      · rw [e_X11_count]
        simp (disch := omega) only [tif_tr, teqP, teqM, ttin, nI_clamp, gA_sI, gI_ne, tbI_v, r1.1]
    · refine key (nI (nC pr)) ?_ ?_
      · rw [e_X10_count]
        simp (disch := omega) only [tif_tr, teqP, teqM, c2, tbI_v, hP.2.1]
      · rw [e_X11_count]
        simp (disch := omega) only [tif_tr, teqP, teqM, ttin, nI_clamp, gA_sI, gI_ne, tbI_v, r1.2.1]
    · refine key (nI (nH pr)) ?_ ?_
      · rw [e_X10_count]
        simp (disch := omega) only [tif_tr, teqP, teqM, c2, tbI_v, hP.2.2.1]
      · rw [e_X11_count]
        simp (disch := omega) only [tif_tr, teqP, teqM, ttin, nI_clamp, gA_sI, gI_ne, tbI_v, r1.2.2.1]
    · refine key (nI (nJ pr)) ?_ ?_
      · rw [e_X10_count]
        simp (disch := omega) only [tif_tr, teqP, teqM, c2, tbI_v, hP.2.2.2.1]
      · rw [e_X11_count]
        simp (disch := omega) only [tif_tr, teqP, teqM, ttin, nI_clamp, gA_sI, gI_ne, tbI_v, r1.2.2.2.1]
    · refine key (nI ((σ 0).1 10 2)) ?_ ?_
      · rw [e_X10_count]
        simp (disch := omega) only [tif_tr, teqP, teqM, c2, tbI_v, hS.2.2.2.2.2.2.2.1]
      · rw [e_X11_count]
        simp (disch := omega) only [tif_tr, teqP, teqM, ttin, nI_clamp, gA_sI, gI_ne, tbI_v, s5]
    · refine key (nI ((σ 0).1 10 1)) ?_ ?_
      · rw [e_X10_count]
        simp (disch := omega) only [tif_tr, teqP, teqM, c2, tbI_v, hS.2.2.2.2.2.2.1]
      · rw [e_X11_count]
        simp (disch := omega) only [tif_tr, teqP, teqM, ttin, nI_clamp, gA_sI, gI_ne, tbI_v, s2]
    · refine key ((σ 0).2 10) ?_ ?_
      · rw [e_X10_count]
        simp (disch := omega) only [tif_tr, teqP, teqM, c2, tbI_v, hS.2.2.2.2.2.2.2.2.1]
      · rw [e_X11_count]
        simp (disch := omega) only [tif_tr, teqP, teqM, ttin, nI_clamp, gA_sI, gI_ne, tbI_v, s3]
    · refine key ((σ 0).2 11) ?_ ?_
      · rw [e_X10_count]
        simp (disch := omega) only [tif_tr, teqP, teqM, c2, tbI_v, hS.2.2.2.2.2.2.2.2.2]
      · rw [e_X11_count]
        simp (disch := omega) only [tif_tr, teqP, teqM, ttin, nI_clamp, gA_sI, gI_ne, tbI_v, s4]
    · refine key (nI (sumN ((σ 0).1 1) (nT pr))) ?_ ?_
      · rw [e_X10_count]
        simp (disch := omega) only [tif_tr, teqP, teqM, c2, tbI_v, v_meansOfAll hP ho hS]
      · rw [e_X11_count]
        simp (disch := omega) only [tif_tr, teqP, teqM, ttin, nI_clamp, gA_sI, gI_ne, tbI_v, r_meansOf hR0.1 ho hR0.2.2.2.1 hs (show 0 + 61 ≤ 1403 by omega)]
    · refine key (nI (ν 2)) ?_ ?_
      · rw [e_X10_count]
        simp (disch := omega) only [tif_tr, teqP, teqM, c2, tbI_v, hC.2.2.1.2.1, hC.2.2.1.2.2.2.1]
      · rw [e_X11_count]
        simp (disch := omega) only [tif_tr, teqP, teqM, ttin, nI_clamp, gA_sI, gI_ne, tbI_v, hR.2.2.1.1]
    · refine key (nI (tlN (τ 0) 5)) ?_ ?_
      · rw [e_X10_count]
        simp (disch := omega) only [tif_tr, teqP, teqM, c2, tbI_v, v_talesTold hC.2.1]
      · rw [e_X11_count]
        simp (disch := omega) only [tif_tr, teqP, teqM, ttin, nI_clamp, gA_sI, gI_ne, tbI_v, r_talesMany (G := sI G 1100 0 (nI 0)) (ν := ν) hR0.1 ho hM7 (hR.2.1.ext rfl rfl fun _ _ _ => rfl)]
    · refine key (nI (ν 0)) ?_ ?_
      · rw [e_X10_count]
        simp (disch := omega) only [tif_tr, teqP, teqM, c2, tbI_v, c10]
      · rw [e_X11_count]
        simp (disch := omega) only [tif_tr, teqP, teqM, ttin, nI_clamp, gA_sI, gI_ne, tbI_v, r5]
    · refine key (nI (ν 3)) ?_ ?_
      · rw [e_X10_count]
        simp (disch := omega) only [tif_tr, teqP, teqM, c2, tbI_v, hC.2.2.2.1.1]
      · rw [e_X11_count]
        simp (disch := omega) only [tif_tr, teqP, teqM, ttin, nI_clamp, gA_sI, gI_ne, tbI_v, hR.2.2.2.1.1]
  · refine PAIR.read h (r := -1) ?_ ?_
    · rw [e_X10_count]
      rw [tif_neg fun e => hno ⟨0, by omega, by omega, e⟩, tif_neg fun e => hno ⟨1, by omega, by omega, e⟩, tif_neg fun e => hno ⟨2, by omega, by omega, e⟩, tif_neg fun e => hno ⟨3, by omega, by omega, e⟩, tif_neg fun e => hno ⟨4, by omega, by omega, e⟩, tif_neg fun e => hno ⟨5, by omega, by omega, e⟩, tif_neg fun e => hno ⟨6, by omega, by omega, e⟩, tif_neg fun e => hno ⟨7, by omega, by omega, e⟩, tif_neg fun e => hno ⟨8, by omega, by omega, e⟩, tif_neg fun e => hno ⟨9, by omega, by omega, e⟩, tif_neg fun e => hno ⟨10, by omega, by omega, e⟩, tif_neg fun e => hno ⟨11, by omega, by omega, e⟩, tif_neg fun e => hno ⟨12, by omega, by omega, e⟩]
    · rw [e_X11_count]
      dsimp only
      rw [tif_neg fun e => hno ⟨0, by omega, by omega, e⟩, tif_neg fun e => hno ⟨1, by omega, by omega, e⟩, tif_neg fun e => hno ⟨2, by omega, by omega, e⟩, tif_neg fun e => hno ⟨3, by omega, by omega, e⟩, tif_neg fun e => hno ⟨4, by omega, by omega, e⟩, tif_neg fun e => hno ⟨5, by omega, by omega, e⟩, tif_neg fun e => hno ⟨6, by omega, by omega, e⟩, tif_neg fun e => hno ⟨7, by omega, by omega, e⟩, tif_neg fun e => hno ⟨8, by omega, by omega, e⟩, tif_neg fun e => hno ⟨9, by omega, by omega, e⟩, tif_neg fun e => hno ⟨10, by omega, by omega, e⟩, tif_neg fun e => hno ⟨11, by omega, by omega, e⟩, tif_neg fun e => hno ⟨12, by omega, by omega, e⟩]
/-! undo -/
theorem p_undo {G : tH} (h : INV G) : PAIR (V_X10_undo) (V_X11_undo) G := by
  obtain ⟨p, fr, q, pr, lw, σ, τ, ν, L, tx, nm, hM, hN, hC, hR⟩ := id h
  obtain ⟨ho, hs, hu, hM4, hM5, hM6, hM7, hM8, hM9⟩ := id hM
  obtain ⟨c1, c2, c3, hP, c5, c6, hS, c8, c9, c10, c11, c12⟩ := id hC.1
  by_cases h0 : ν 0 = 0
  · refine PAIR.read h (r := nI 0) ?_ ?_
    · rw [e_X10_undo, e_X9_goBack, c10, tz0P h0, tz0, tbI_v, tz0]
    · rw [e_X11_undo]
      dsimp only
      rw [gI_ne (by omega), hR.1.2.2.2.2.1, tz0P h0, tz0]
  · have hslot := c11 (ν 0 - 1) (by omega)
    have hok := hM4 (ν 0 - 1) (by omega)
    obtain ⟨Ga, hGa⟩ : ∃ g, g = sI (sI G 901 0 (nI ((fr + 16) % 17))) 902 0 (nI (ν 0 - 1)) := ⟨_, rfl⟩
    have fa : tfr (fun f _ => f = 901 ∨ f = 902) G Ga := by rw [hGa]; exact tfrI (tfrI tfr.rf (Or.inl rfl)) (Or.inr rfl)
    have ka : ∀ o s, cS G o p pr s → cS Ga o p pr s := fun o s hc => hc.kept fa fun f _ _ => by omega
    rw [show (fr + 17 - ν 0 + (ν 0 - 1)) % 17 = (fr + 16) % 17 by omega] at hslot
    obtain ⟨Gb, e1, e2, e3⟩ := c_copy (o := 0) (o1 := 2 + (fr + 16) % 17) ho (ka _ _ hslot) (by omega)
    have e4 : V_X10_undo G = some (some (vI (nI 1)), Gb) := by
      rw [e_X10_undo, e_X9_goBack, c10, tz0M (by omega) h0, tn17]
      simp (disch := omega) only [c9, nI_add, nI_sub, nI_rem, gI_ne, c10]
      rw [show fr + 17 - 1 = fr + 16 by omega, ← hGa, gI_eq, ttin (by omega) (by omega), nI_clamp (by omega), e1, tbV_v, tz1, tbI_v, tz1]
    have f1 : tfr zC G Gb := (fa.mono fun f o z => by unfold zC; omega).tr (e3.mono zT_C)
    have kb : ∀ o s, o ≠ 0 → cS G o p pr s → cS Gb o p pr s := fun o s hn hc => (ka o s hc).kept e3 fun f _ _ => by unfold zT; omega
    refine PAIR.act (fr' := (fr + 16) % 17) (σ' := uX σ 0 (σ (5 + (ν 0 - 1)))) (ν' := uX ν 0 (ν 0 - 1)) hM hN hC hR ?_ (fun i hi => uX_ne hi) e4 ?_ f1 fun hR1 => ?_
    · refine ⟨ho, by rw [uX_eq]; exact hok, by rw [uX_eq]; omega, fun k hk => ?_, ?_, fun m hm => ?_, hM7, fun m hm => hM8 m ?_, ?_⟩
      · rw [uX_eq] at hk; rw [uX_ne (by omega)]; exact hM4 k (by omega)
      · rw [uX_ne (by omega)]; exact hM5
      · rw [uX_ne (by omega)]; refine hM6 m ?_; unfold mkB at hm ⊢; rw [uX_ne (by omega)] at hm; exact hm
      · unfold mkB at hm ⊢; rw [uX_ne (by omega)] at hm; exact hm
      · rw [uX_ne (by omega), uX_ne (by omega)]; exact hM9
    · refine ⟨c1, ?_, ?_, hP.kept f1 fun f o z => by unfold zC at z; omega, c5.kept f1 (by unfold zC; omega) (by unfold zC; omega), c6.kept f1 (by unfold zC; omega) (by unfold zC; omega), ?_, by omega, ?_, ?_, fun k hk => ?_, fun m hm => ?_⟩
      · rw [(f1 1001 0 (by unfold zC; omega)).2.2.1]; exact c2
      · rw [(f1 1002 0 (by unfold zC; omega)).2.2.1]; exact c3
      · rw [uX_eq]; exact e2
      · rw [(e3 901 0 (by unfold zT; omega)).1, hGa, gI_ne (by omega), gI_eq]
      · rw [(e3 902 0 (by unfold zT; omega)).1, hGa, gI_eq, uX_eq]
      · rw [uX_eq] at hk ⊢
        rw [uX_ne (by omega)]
        have := kb _ _ (by omega) (c11 k (by omega))
        rw [show 2 + (fr + 17 - ν 0 + k) % 17 = 2 + ((fr + 16) % 17 + 17 - (ν 0 - 1) + k) % 17 by omega] at this
        exact this
      · rw [uX_ne (by omega)]
        refine kb _ _ (by omega) (c12 m ?_)
        unfold mkB at hm ⊢; rw [uX_ne (by omega)] at hm; exact hm
    · obtain ⟨r1, r2, r3, r4, r5, r6, r7⟩ := id hR1
      obtain ⟨a', e5, x1, x2⟩ := r_copies (61 * (5 + (ν 0 - 1))) 0 56 (by omega) (by omega) (by omega) (sI (sI Gb 1100 0 (nI 0)) 1125 0 (nI (ν 0 - 1)))
      simp only [gA_sI] at x1 x2
      obtain ⟨Gc, hGc⟩ : ∃ g, g = sA (sI (sI Gb 1100 0 (nI 0)) 1125 0 (nI (ν 0 - 1))) 1124 0 a' := ⟨_, rfl⟩
      have fc : tfr zQ Gb Gc := by rw [hGc]; exact tfrA (tfrI (tfrI tfr.rf (by unfold zQ; omega)) (by unfold zQ; omega)) (by unfold zQ; omega)
      have ac : gA Gc 1124 0 = a' := by rw [hGc, gA_eq]
      refine ⟨Gc, ?_, ⟨r1.kept fc (by unfold zQ; omega), r2.kept fc (by unfold zQ; omega) (by unfold zQ; omega) (by unfold zQ; omega), r3.kept fc (by unfold zQ; omega) (by unfold zQ; omega) (by unfold zQ; omega), ?_, ?_, fun k hk => ?_, fun m hm => ?_⟩, fc, fun k k1 k2 => ?_⟩
      · rw [e_X11_undo]
        dsimp only
        rw [gI_ne (by omega), r5, tz0M (by omega) h0, nI_sub (by omega), gI_eq, nI_add, pk_mul, e5, tbV_v, tz1, hGc]
      · rw [ac, uX_eq]; exact (r6 (ν 0 - 1) (by omega)).move ho fun k hk => x1 k hk
      · rw [hGc, gI_sA, gI_eq, uX_eq]
      · rw [uX_eq] at hk
        rw [ac, uX_ne (by omega)]
        exact (r6 k (by omega)).ext ho fun i i1 i2 => x2 i (by omega)
      · rw [ac, uX_ne (by omega)]
        refine (r7 m ?_).ext ho fun i i1 i2 => x2 i (by omega)
        unfold mkB at hm ⊢; rw [uX_ne (by omega)] at hm; exact hm
      · rw [ac]; exact x2 k (by omega)

