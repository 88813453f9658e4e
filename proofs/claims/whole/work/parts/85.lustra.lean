/-! PURE: lustra by draws -/
theorem hidV {α : Type} (x : α) : ∃ y : α, y = x := ⟨x, rfl⟩
noncomputable def drG : Nat → Nat := Classical.choose (hidV fun g : Nat => (g * 1103515245 + 12345) % 2147483648)
noncomputable def drV : Nat → Nat → Nat := Classical.choose (hidV fun g m : Nat => drG g / 65536 % m)
theorem drG_e (g : Nat) : drG g = (g * 1103515245 + 12345) % 2147483648 := congrFun (Classical.choose_spec (hidV fun g : Nat => (g * 1103515245 + 12345) % 2147483648)) g
theorem drV_e (g m : Nat) : drV g m = drG g / 65536 % m := congrFun (congrFun (Classical.choose_spec (hidV fun g m : Nat => drG g / 65536 % m)) g) m
theorem drG_lt (g : Nat) : drG g < 2 ^ 31 := by rw [drG_e]; exact Nat.mod_lt _ (by omega)
theorem drV_lt {g m : Nat} (h : 0 < m) : drV g m < m := by rw [drV_e]; exact Nat.mod_lt _ h
theorem dr_step {g : Nat} (hg : g < 2 ^ 31) : lN g * lN 1103515245 + lN 12345 - (lN g * lN 1103515245 + lN 12345) / lN 2147483648 * lN 2147483648 = lN (drG g) := by
  rw [lN_mul, lN_add, pk_lRem (by omega) (by omega) (by omega), drG_e]
theorem dr_val {g m : Nat} (hm : 0 < m) (hm2 : m < 2 ^ 31) : (lN (drG g) / lN 65536 - lN (drG g) / lN 65536 / lN m * lN m).toInt32 = nI (drV g m) := by
  have := drG_lt g
  rw [pk_lDiv (by omega) (by omega) (by omega), pk_lRem (by omega) (by omega) (by omega), lN_i, drV_e]
theorem v_draw {G : tH} {g m : Nat} (h : gL G 0 0 = lN g) (hg : g < 2 ^ 31) (hm : 0 < m) (hm2 : m < 2 ^ 31) : V_X0_drawBelow (nI m) G = some (some (vI (nI (drV g m))), sL G 0 0 (lN (drG g))) := by
  rw [e_X0_drawBelow, tif_neg (show ¬ lN 2147483648 = 0 by decide +kernel)]
  dsimp only
  rw [h, dr_step hg, tl0P hm2 hm, tif_neg (show ¬ lN 65536 = 0 by decide +kernel), gL_eq, nI_l hm2, tif_neg (show ¬ lN m = 0 from fun e => by have := (pk_lEQ (a := m) (b := 0) (by omega) (by omega)).mp e; omega), dr_val hm hm2]
theorem r_draw {G : tH} {g m : Nat} (h : gL G 1137 0 = lN g) (hg : g < 2 ^ 31) (hm : 0 < m) (hm2 : m < 2 ^ 31) : V_X11_draw (nI m) G = some (some (vI (nI (drV g m))), sL G 1137 0 (lN (drG g))) := by
  rw [e_X11_draw, tif_neg (show ¬ lN 2147483648 = 0 by decide +kernel)]
  dsimp only
  rw [h, dr_step hg, tif_neg (show ¬ lN 65536 = 0 by decide +kernel), gL_eq, nI_l hm2, tif_neg (show ¬ lN m = 0 from fun e => by have := (pk_lEQ (a := m) (b := 0) (by omega) (by omega)).mp e; omega), dr_val hm hm2]
/-! what is done, if it can be -/
noncomputable def dIf (c : Prop) (a b : mS) : mS := @ite mS c (Classical.propDecidable _) a b
theorem dIf_1 {c : Prop} {a b : mS} (h : c) : dIf c a b = a := if_pos h
theorem dIf_0 {c : Prop} {a b : mS} (h : ¬ c) : dIf c a b = b := if_neg h
noncomputable def auN (pr : mP) (s : mS) (g : Nat) : Nat → mS × Nat
  | 0 => (s, g)
  | n + 1 => (dIf (mayBid pr (auN pr s g n).1 n (drV (auN pr s g n).2 100)) (fBid (auN pr s g n).1 n (drV (auN pr s g n).2 100)) (auN pr s g n).1, drG (auN pr s g n).2)
theorem auN_s {pr : mP} {s : mS} {g n : Nat} : auN pr s g (n + 1) = (dIf (mayBid pr (auN pr s g n).1 n (drV (auN pr s g n).2 100)) (fBid (auN pr s g n).1 n (drV (auN pr s g n).2 100)) (auN pr s g n).1, drG (auN pr s g n).2) := rfl
theorem au_ok {pr : mP} {s : mS} {g : Nat} (hs : okS pr s) (h0 : s.1 10 0 = 0) (hg : g < 2 ^ 31) : ∀ n, okS pr (auN pr s g n).1 ∧ (auN pr s g n).1.1 10 0 = 0 ∧ (auN pr s g n).2 < 2 ^ 31
  | 0 => ⟨hs, h0, hg⟩
  | n + 1 => by
    obtain ⟨h1, h2, h3⟩ := au_ok hs h0 hg n
    refine ⟨?_, ?_, drG_lt _⟩
    · show okS pr (dIf _ _ _)
      by_cases hm : mayBid pr (auN pr s g n).1 n (drV (auN pr s g n).2 100)
      · rw [dIf_1 hm]; exact ok_bid h1 hm.2.2.1
      · rw [dIf_0 hm]; exact h1
    · show (dIf _ _ _).1 10 0 = 0
      by_cases hm : mayBid pr (auN pr s g n).1 n (drV (auN pr s g n).2 100)
      · rw [dIf_1 hm]
        unfold fBid
        dsimp only
        rw [u1_nk (by omega)]; exact h2
      · rw [dIf_0 hm]; exact h2
noncomputable def dAuc (pr : mP) (s : mS) (g : Nat) : mS × Nat := if s.1 10 0 = 0 then (dIf (mayAward pr (auN pr s g (nC pr)).1) (fAward pr (auN pr s g (nC pr)).1) (auN pr s g (nC pr)).1, (auN pr s g (nC pr)).2) else (s, g)
theorem dAuc_ok {pr : mP} {s : mS} {g : Nat} (hs : okS pr s) (hg : g < 2 ^ 31) : okS pr (dAuc pr s g).1 ∧ (dAuc pr s g).2 < 2 ^ 31 := by
  unfold dAuc
  by_cases h0 : s.1 10 0 = 0
  · rw [if_pos h0]
    obtain ⟨h1, h2, h3⟩ := au_ok hs h0 hg (nC pr)
    refine ⟨?_, h3⟩
    show okS pr (dIf _ _ _)
    by_cases hm : mayAward pr (auN pr s g (nC pr)).1
    · rw [dIf_1 hm]; exact ok_award h1 hm
    · rw [dIf_0 hm]; exact h1
  · rw [if_neg h0]; exact ⟨hs, hg⟩
def hvN (f : Nat → Nat) : Nat → Nat → Nat → Nat
  | 0, h, _ => h
  | n + 1, h, r => if r < f h then h else hvN f n (h + 1) (r - f h)
theorem hvN_lt (f : Nat → Nat) : ∀ n h r, hvN f n h r ≤ h + n
  | 0, h, r => Nat.le_refl _
  | n + 1, h, r => by
    unfold hvN
    have := hvN_lt f n (h + 1) (r - f h)
    split <;> omega
def tkX (pr : mP) (s : mS) (t c : Nat) : Nat := if c = 0 then tthN pr (s.1 3 t) else s.1 2 t / 2
noncomputable def vsE (pr : mP) (lw : mL) (s : mS) (g t : Nat) : mS × Nat := if drV g 3 = 2 then (dIf (maySpare pr s t) (fSpare pr lw s t) s, 0) else (dIf (mayTake pr s t (tkX pr s t (drV g 3))) (fTake pr s t (tkX pr s t (drV g 3))) s, @ite Nat (mayTake pr s t (tkX pr s t (drV g 3))) (Classical.propDecidable _) (aTake pr s t (tkX pr s t (drV g 3))) 0)
noncomputable def vsN (pr : mP) (lw : mL) (s : mS) (g : Nat) : Nat → mS × Nat × Nat
  | 0 => (s, g, 0)
  | n + 1 => ((vsE pr lw (vsN pr lw s g n).1 (vsN pr lw s g n).2.1 n).1, drG (vsN pr lw s g n).2.1, (vsN pr lw s g n).2.2 + (vsE pr lw (vsN pr lw s g n).1 (vsN pr lw s g n).2.1 n).2)
theorem vsN_s {pr : mP} {lw : mL} {s : mS} {g n : Nat} : vsN pr lw s g (n + 1) = ((vsE pr lw (vsN pr lw s g n).1 (vsN pr lw s g n).2.1 n).1, drG (vsN pr lw s g n).2.1, (vsN pr lw s g n).2.2 + (vsE pr lw (vsN pr lw s g n).1 (vsN pr lw s g n).2.1 n).2) := rfl
theorem fTake_h {pr : mP} {s : mS} {t x : Nat} : (fTake pr s t x).1 10 0 = s.1 10 0 := by
  unfold fTake
  dsimp only
  rw [u1_nk (by omega), u1_nk (by omega), u1_nk (by omega)]
theorem fSpare_h {pr : mP} {lw : mL} {s : mS} {t : Nat} : (fSpare pr lw s t).1 10 0 = s.1 10 0 := by
  unfold fSpare
  dsimp only
  rw [u1_nk (by omega), u1_nk (by omega)]
theorem vsE_ok {pr : mP} {lw : mL} {s : mS} {g n : Nat} (ho : okP pr) (h1 : okS pr s) (h2 : s.1 10 0 ≠ 0) : okS pr (vsE pr lw s g n).1 ∧ (vsE pr lw s g n).1.1 10 0 ≠ 0 := by
  unfold vsE
  by_cases hc : drV g 3 = 2
  · rw [if_pos hc]
    dsimp only
    by_cases hm : maySpare pr s n
    · rw [dIf_1 hm, fSpare_h]
      exact ⟨ok_spare h1, h2⟩
    · rw [dIf_0 hm]; exact ⟨h1, h2⟩
  · rw [if_neg hc]
    dsimp only
    by_cases hm : mayTake pr s n (tkX pr s n (drV g 3))
    · rw [dIf_1 hm, fTake_h]
      exact ⟨ok_take ho h1 hm, h2⟩
    · rw [dIf_0 hm]; exact ⟨h1, h2⟩
theorem vs_ok {pr : mP} {lw : mL} {s : mS} {g : Nat} (ho : okP pr) (hs : okS pr s) (h0 : s.1 10 0 ≠ 0) (hg : g < 2 ^ 31) : ∀ n, okS pr (vsN pr lw s g n).1 ∧ (vsN pr lw s g n).1.1 10 0 ≠ 0 ∧ (vsN pr lw s g n).2.1 < 2 ^ 31 := by
  intro n
  induction n with
  | zero => exact ⟨hs, h0, hg⟩
  | succ n ih =>
    rw [vsN_s]
    have h := vsE_ok (lw := lw) (g := (vsN pr lw s g n).2.1) (n := n) ho ih.1 ih.2.1
    exact ⟨h.1, h.2, drG_lt _⟩
noncomputable def dEnd (pr : mP) (s : mS) : mS := dIf (mayClose s) (dIf (mayClose (fSue pr s)) (fClose (fSue pr s)) (fSue pr s)) s
theorem dEnd_ok {pr : mP} {s : mS} (hs : okS pr s) : okS pr (dEnd pr s) := by
  unfold dEnd
  by_cases h1 : mayClose s
  · rw [dIf_1 h1]
    by_cases h2 : mayClose (fSue pr s)
    · rw [dIf_1 h2]; exact ok_close (ok_sue hs)
    · rw [dIf_0 h2]; exact ok_sue hs
  · rw [dIf_0 h1]; exact hs
def odN (pr : mP) : Nat := sumN (pr 5) (nH pr)
noncomputable def dHv (pr : mP) (g : Nat) : Nat := hvN (pr 5) (nH pr - 1) 0 (drV g (odN pr))
noncomputable def dY1 (pr : mP) (lw : mL) (s : mS) (g : Nat) : mS := dIf (mayYear pr s (dHv pr g)) (fYear pr lw s (dHv pr g)) s
noncomputable def dLive (pr : mP) (lw : mL) (s : mS) (g : Nat) : mS × Nat × Nat := (dEnd pr (vsN pr lw (dY1 pr lw s g) (drG g) (nT pr)).1, (vsN pr lw (dY1 pr lw s g) (drG g) (nT pr)).2.1, (vsN pr lw (dY1 pr lw s g) (drG g) (nT pr)).2.2)
theorem dY1_ok {pr : mP} {lw : mL} {s : mS} {g : Nat} (hs : okS pr s) (h0 : s.1 10 0 ≠ 0) : okS pr (dY1 pr lw s g) ∧ (dY1 pr lw s g).1 10 0 ≠ 0 := by
  unfold dY1
  by_cases h1 : mayYear pr s (dHv pr g)
  · rw [dIf_1 h1]; exact ⟨ok_year hs h1, h0⟩
  · rw [dIf_0 h1]; exact ⟨hs, h0⟩
noncomputable def lvN (pr : mP) (lw : mL) (s : mS) (g : Nat) : Nat → mS × Nat × Nat
  | 0 => (s, g, 0)
  | n + 1 => let z := lvN pr lw s g n
    let a := dAuc pr z.1 z.2.1
    if a.1.1 10 0 = 0 then (a.1, a.2, z.2.2) else if nH pr = 0 then (a.1, a.2, z.2.2) else ((dLive pr lw a.1 a.2).1, (dLive pr lw a.1 a.2).2.1, z.2.2 + (dLive pr lw a.1 a.2).2.2)
theorem lv_ok {pr : mP} {lw : mL} {s : mS} {g : Nat} (ho : okP pr) (hs : okS pr s) (hg : g < 2 ^ 31) : ∀ n, okS pr (lvN pr lw s g n).1 ∧ (lvN pr lw s g n).2.1 < 2 ^ 31
  | 0 => ⟨hs, hg⟩
  | n + 1 => by
    obtain ⟨h1, h2⟩ := lv_ok (lw := lw) ho hs hg n
    obtain ⟨a1, a2⟩ := dAuc_ok h1 h2
    unfold lvN
    dsimp only
    by_cases hc : (dAuc pr (lvN pr lw s g n).1 (lvN pr lw s g n).2.1).1.1 10 0 = 0
    · rw [if_pos hc]; exact ⟨a1, a2⟩
    · rw [if_neg hc]
      by_cases hz : nH pr = 0
      · rw [if_pos hz]; exact ⟨a1, a2⟩
      · rw [if_neg hz]
        obtain ⟨y1, y2⟩ := dY1_ok (lw := lw) (g := (dAuc pr (lvN pr lw s g n).1 (lvN pr lw s g n).2.1).2) a1 hc
        obtain ⟨v1, v2, v3⟩ := vs_ok (lw := lw) ho y1 y2 (drG_lt (dAuc pr (lvN pr lw s g n).1 (lvN pr lw s g n).2.1).2) (nT pr)
        exact ⟨dEnd_ok v1, v3⟩
/-! the class -/
def cC (G : tH) (p : Nat) (pr : mP) (lw : mL) (s : mS) (g : Nat) : Prop := cP G p pr ∧ cL G (2 * p + 0) (lw 0) ∧ cL G (2 * p + 1) (lw 1) ∧ cS G 1 p pr s ∧ gL G 0 0 = lN g
def zA : Nat → Nat → Prop := fun f o => f = 0 ∨ f = 1 ∨ (700 ≤ f ∧ f < 800 ∧ o = 1) ∨ f = 202
theorem zS_A : ∀ f o, zS 1 f o → zA f o := fun f o z => by unfold zS at z; unfold zA; omega
theorem cC.set {G G' : tH} {p : Nat} {pr : mP} {lw : mL} {s s' : mS} {g g' : Nat} (h : cC G p pr lw s g) (hf : tfr zA G G') (h1 : cS G' 1 p pr s') (h2 : gL G' 0 0 = lN g') : cC G' p pr lw s' g' := by
  obtain ⟨a1, a2, a3, a4, a5⟩ := h
  exact ⟨a1.kept hf fun f o z => by unfold zA at z; omega, a2.kept hf (by unfold zA; omega) (by unfold zA; omega), a3.kept hf (by unfold zA; omega) (by unfold zA; omega), h1, h2⟩
theorem cC.act {G G' : tH} {p : Nat} {pr : mP} {lw : mL} {s s' : mS} {g : Nat} (h : cC G p pr lw s g) (hf : tfr (zS 1) G G') (h1 : cS G' 1 p pr s') : cC G' p pr lw s' g :=
  h.set (hf.mono zS_A) h1 (by rw [(hf 0 0 (by unfold zS; omega)).2.1]; exact h.2.2.2.2)
theorem cC.dr {G : tH} {p : Nat} {pr : mP} {lw : mL} {s : mS} {g : Nat} (h : cC G p pr lw s g) (g' : Nat) : cC (sL G 0 0 (lN g')) p pr lw s g' := by
  have hf : tfr (fun f _ => f = 0) G (sL G 0 0 (lN g')) := tfr.sL rfl
  exact h.set (hf.mono fun f o z => by unfold zA; omega) (h.2.2.2.1.kept hf fun f _ _ => by omega) gL_eq
theorem tfrS {S : Nat → Nat → Prop} {G G1 G2 : tH} (h : tfr S G G1) (h2 : tfr (zS 1) G1 G2) (hS : ∀ f o, zS 1 f o → S f o) : tfr S G G2 := h.tr (h2.mono hS)
/-- class: bids by draws, and the award -/
theorem c_auction {G : tH} {p : Nat} {pr : mP} {lw : mL} {s : mS} {g : Nat} (ho : okP pr) (hs : okS pr s) (h0 : s.1 10 0 = 0) (hg : g < 2 ^ 31) (h : cC G p pr lw s g) : ∃ G', V_X0_auction 1 G = some (none, G') ∧ cC G' p pr lw (dAuc pr s g).1 (dAuc pr s g).2 ∧ tfr zA G G' ∧ gI G' 1 0 = gI G 1 0 := by
  have hC := ho.2.1
  rw [e_X0_auction]
  unfold dAuc
  rw [if_pos h0]
  have key : ∀ n i G1, i + n = nC pr → tfr zA G G1 → gI G1 1 0 = gI G 1 0 → cC G1 p pr lw (auN pr s g i).1 (auN pr s g i).2 → ∃ G', V_X0_auction_2 1 (nI i) G1 = some (none, G') ∧ cC G' p pr lw (dIf (mayAward pr (auN pr s g (nC pr)).1) (fAward pr (auN pr s g (nC pr)).1) (auN pr s g (nC pr)).1) (auN pr s g (nC pr)).2 ∧ tfr zA G G' ∧ gI G' 1 0 = gI G 1 0 := by
    intro n
    induction n with
    | zero =>
      intro i G1 hi f1 q1 h1
      have : i = nC pr := by omega
      subst this
      obtain ⟨o1, o2, o3⟩ := au_ok hs h0 hg (nC pr)
      obtain ⟨b1, b2, b3, b4, b5⟩ := id h1
      rw [e_X0_auction_2, b4.1, b1.2.1, tltM (by omega) (by omega) (by omega)]
      by_cases hm : mayAward pr (auN pr s g (nC pr)).1
      · obtain ⟨G2, e2, s2, f2⟩ := c_award b1 ho b4 o1 hm
        refine ⟨G2, by rw [e2, tbI_v], ?_, tfrS f1 f2 zS_A, ?_⟩
        · rw [dIf_1 hm]; exact h1.act f2 s2
        · rw [(f2 1 0 (by unfold zS; omega)).1]; exact q1
      · refine ⟨G1, by rw [n_award b1 ho b4 o1 hm, tbI_v], ?_, f1, q1⟩
        rw [dIf_0 hm]; exact h1
    | succ n ih =>
      intro i G1 hi f1 q1 h1
      obtain ⟨o1, o2, o3⟩ := au_ok hs h0 hg i
      have hv := drV_lt (g := (auN pr s g i).2) (m := 100) (by omega)
      have h1d := h1.dr (drG (auN pr s g i).2)
      have f1d : tfr zA G (sL G1 0 0 (lN (drG (auN pr s g i).2))) := tfrL f1 (Or.inl rfl)
      obtain ⟨b1, b2, b3, b4, b5⟩ := id h1d
      rw [e_X0_auction_2, h1.2.2.2.1.1, h1.1.2.1, tltP (by omega) (by omega) (by omega), v_draw h1.2.2.2.2 o3 (by omega) (by omega), tbI_v, nI_add]
      by_cases hm : mayBid pr (auN pr s g i).1 i (drV (auN pr s g i).2 100)
      · obtain ⟨G2, e2, s2, f2⟩ := c_bid b1 ho b4 o1 hm
        rw [e2, tbI_v]
        refine ih (i + 1) G2 (by omega) (tfrS f1d f2 zS_A) ?_ ?_
        · rw [(f2 1 0 (by unfold zS; omega)).1]; exact q1
        · have := h1d.act f2 s2
          rw [auN_s, dIf_1 hm]
          exact this
      · rw [n_bid b1 ho b4 o1 (fun c x e e2 hq => hm (by have hb := hq.2.1; have hx := hq.2.2.1; have ec := nI_inj (a := i) (b := c) (by omega) (by omega) e; have ex := nI_inj (b := x) (by omega) (by omega) e2; subst ec; rw [ex]; exact hq)), tbI_v]
        refine ih (i + 1) _ (by omega) f1d q1 ?_
        rw [auN_s, dIf_0 hm]
        exact h1d
  exact key (nC pr) 0 G (by omega) tfr.rf rfl h
/-- class: which harvest is drawn -/
theorem sumN_pos {f : Nat → Nat} : ∀ n, 0 < n → (∀ i, i < n → 1 ≤ f i) → n ≤ sumN f n
  | 0, h, _ => by omega
  | n + 1, _, h => by
    have h2 := h n (by omega)
    rw [sumN]
    by_cases h0 : n = 0
    · subst h0; show 0 + 1 ≤ sumN f 0 + f 0; omega
    · have h1 := sumN_pos n (by omega) fun i hi => h i (by omega)
      omega
theorem odN_b {pr : mP} (ho : okP pr) (h0 : nH pr ≠ 0) : 0 < odN pr ∧ odN pr ≤ 45 := by
  have h1 := sumN_pos (f := pr 5) (nH pr) (by omega) fun i hi => (ho.2.2.2.2.2.2.2.2.1 i hi).2.1
  have h2 := sumN_le (f := pr 5) (M := 9) (nH pr) fun i hi => (ho.2.2.2.2.2.2.2.2.1 i hi).2.2
  have h3 := ho.2.2.1
  unfold odN
  omega
theorem c_drawH {G : tH} {p : Nat} {pr : mP} {g : Nat} (ho : okP pr) (hP : cP G p pr) (h0 : nH pr ≠ 0) (hg : g < 2 ^ 31) (h : gL G 0 0 = lN g) : V_X0_drawHarvest p G = some (some (vI (nI (dHv pr g))), sL G 0 0 (lN (drG g))) := by
  have hH := ho.2.2.1
  obtain ⟨o1, o2⟩ := odN_b ho h0
  have hf : tfr (fun f _ => f = 0) G (sL G 0 0 (lN (drG g))) := tfr.sL rfl
  have hP2 : cP (sL G 0 0 (lN (drG g))) p pr := hP.kept hf fun f o z => by omega
  have e39 : ∀ n k r, k + n + 1 = nH pr → r < 2 ^ 30 → V_X0_drawHarvest_39 p (nI r) (nI k) (sL G 0 0 (lN (drG g))) = some (some (vI (nI (hvN (pr 5) n k r))), sL G 0 0 (lN (drG g))) := by
    intro n
    induction n with
    | zero =>
      intro k r hk hr
      rw [e_X0_drawHarvest_39, hP2.2.2.1, nI_sub (by omega), tltM (by omega) (by omega) (by omega)]
      rfl
    | succ n ih =>
      intro k r hk hr
      have h9 := (ho.2.2.2.2.2.2.2.2.1 k (by omega)).2.2
      rw [e_X0_drawHarvest_39, hP2.2.2.1, nI_sub (by omega), tltP (by omega) (by omega) (by omega), ttin (by omega) (by omega), ttin (by omega) (by omega), nI_clamp (by omega), (hP2.2.2.2.2.2.2.2.2.1 k (by omega)).2, tltN (by omega) (by omega)]
      unfold hvN
      by_cases hq : r < pr 5 k
      · rw [if_pos hq, if_pos hq]
      · rw [if_neg hq, if_neg hq, nI_sub (by omega), nI_add]
        exact ih (k + 1) (r - pr 5 k) (by omega) (by omega)
  have e4 : ∀ n i, i + n = nH pr → V_X0_drawHarvest_4 p (nI (sumN (pr 5) i)) (nI i) G = some (some (vI (nI (dHv pr g))), sL G 0 0 (lN (drG g))) := by
    intro n
    induction n with
    | zero =>
      intro i hi
      have : i = nH pr := by omega
      subst this
      have := drV_lt (g := g) o1
      rw [e_X0_drawHarvest_4, hP.2.2.1, tltM (by omega) (by omega) (by omega), show sumN (pr 5) (nH pr) = odN pr from rfl, v_draw h hg o1 (by omega), tbI_v]
      exact e39 (nH pr - 1) 0 _ (by omega) (by omega)
    | succ n ih =>
      intro i hi
      rw [e_X0_drawHarvest_4, hP.2.2.1, tltP (by omega) (by omega) (by omega), ttin (by omega) (by omega), nI_clamp (by omega), (hP.2.2.2.2.2.2.2.2.1 i (by omega)).2, nI_add, nI_add]
      exact ih (i + 1) (by omega)
  rw [e_X0_drawHarvest]
  exact e4 (nH pr) 0 (by omega)
/-- class: a town visited -/
theorem tkX_le {pr : mP} {s : mS} {t c : Nat} (ho : okP pr) (hs : okS pr s) (ht : t < nT pr) : tkX pr s t c ≤ 9999 := by
  obtain ⟨b1, b2, b3, b4⟩ := hs.1 t ht
  unfold tkX
  split
  · exact tthN_le ho b3
  · omega
theorem aTake_lt {pr : mP} {s : mS} {t x : Nat} (hs : okS pr s) (hm : mayTake pr s t x) : aTake pr s t x < 2 ^ 30 := by
  have q := hs.1 _ hm.2.1
  have := hm.2.2.2.2.1
  unfold aTake
  omega
theorem c_visit {G : tH} {p : Nat} {pr : mP} {lw : mL} {s : mS} {g t e : Nat} (ho : okP pr) (hs : okS pr s) (ht : t < nT pr) (hg : g < 2 ^ 31) (h : cC G p pr lw s g) (he : gI G 1 0 = nI e) : ∃ G', V_X0_visit 1 (nI t) G = some (none, G') ∧ cC G' p pr lw (vsE pr lw s g t).1 (drG g) ∧ tfr zA G G' ∧ gI G' 1 0 = nI (e + (vsE pr lw s g t).2) := by
  have hT := ho.1
  have hv := drV_lt (g := g) (m := 3) (by omega)
  have h1 := h.dr (drG g)
  have f1 : tfr zA G (sL G 0 0 (lN (drG g))) := tfr.sL (Or.inl rfl)
  obtain ⟨b1, b2, b3, b4, b5⟩ := id h1
  obtain ⟨k1, k2, k3, k4, k5⟩ := b4.2.1 t ht
  obtain ⟨q1, q2, q3, q4⟩ := hs.1 t ht
  have he1 : gI (sL G 0 0 (lN (drG g))) 1 0 = nI e := he
  have e46 : ∀ x, x ≤ 9999 → ∃ G', V_X0_visit_46 1 (nI t) (nI x) (sL G 0 0 (lN (drG g))) = some (none, G') ∧ cC G' p pr lw (dIf (mayTake pr s t x) (fTake pr s t x) s) (drG g) ∧ tfr zA G G' ∧ gI G' 1 0 = nI (e + @ite Nat (mayTake pr s t x) (Classical.propDecidable _) (aTake pr s t x) 0) := by
    intro x hx
    by_cases hm : mayTake pr s t x
    · obtain ⟨G2, e2, s2, f2⟩ := c_take b1 ho b4 hs hm
      have hb := aTake_lt hs hm
      have hg2 : gI G2 1 0 = nI e := by rw [(f2 1 0 (by unfold zS; omega)).1]; exact he1
      have h2 := h1.act f2 s2
      have f3 : tfr (fun f _ => f = 1) G2 (sI G2 1 0 (gI G2 1 0 + nI (aTake pr s t x))) := tfr.sI rfl
      refine ⟨sI G2 1 0 (gI G2 1 0 + nI (aTake pr s t x)), ?_, ?_, tfrI (tfrS f1 f2 zS_A) (Or.inr (Or.inl rfl)), ?_⟩
      · rw [e_X0_visit_46, e2, tbI_v, teqm1 (by omega)]
      · rw [dIf_1 hm]
        exact h2.set (f3.mono fun f o z => Or.inr (Or.inl z)) (h2.2.2.2.1.kept f3 fun f _ _ => by omega) h2.2.2.2.2
      · rw [gI_eq, hg2, nI_add, if_pos hm]
    · refine ⟨_, ?_, ?_, f1, ?_⟩
      · rw [e_X0_visit_46, n_take b1 ho b4 hs (fun t' x' a1 a2 hq => hm (by have hb := hq.2.1; have hx2 := hq.2.2.2.2.1; rw [nI_inj (a := t) (b := t') (by omega) (by omega) a1, nI_inj (a := x) (b := x') (by omega) (by omega) a2]; exact hq)), tbI_v, tif_pos rfl]
      · rw [dIf_0 hm]; exact h1
      · rw [if_neg hm]; exact he1
  rw [e_X0_visit, v_draw h.2.2.2.2 hg (by omega) (by omega), tbI_v]
  unfold vsE
  by_cases hc : drV g 3 = 2
  · rw [if_pos hc, teqP hc]
    by_cases hm : maySpare pr s t
    · obtain ⟨G2, e2, s2, f2⟩ := c_spare b1 ho b4 hs b2 hm
      refine ⟨G2, by rw [e2, tbI_v], ?_, tfrS f1 f2 zS_A, ?_⟩
      · rw [dIf_1 hm]; exact h1.act f2 s2
      · rw [(f2 1 0 (by unfold zS; omega)).1]; exact he1
    · refine ⟨_, ?_, ?_, f1, he1⟩
      · rw [n_spare b1 ho b4 hs (fun t' a1 hq => hm (by have hb := hq.2.1; rw [nI_inj (a := t) (b := t') (by omega) (by omega) a1]; exact hq)), tbI_v]
      · rw [dIf_0 hm]; exact h1
  · rw [if_neg hc, teqM (by omega) (by omega) hc]
    have h46 := e46 (tkX pr s t (drV g 3)) (tkX_le ho hs ht)
    by_cases h0 : drV g 3 = 0
    · rw [tz0P h0, ttin (by omega) (by omega), nI_clamp (by omega), k3, b4.1, v_titheOf b1 ho q3, tbI_v]
      rw [show tkX pr s t (drV g 3) = tthN pr (s.1 3 t) from if_pos h0] at h46 ⊢
      exact h46
    · rw [tz0M (by omega) h0, ttin (by omega) (by omega), nI_clamp (by omega), k2, tn2, pk_div (by omega) (by omega) (by omega)]
      rw [show tkX pr s t (drV g 3) = s.1 2 t / 2 from if_neg h0] at h46 ⊢
      exact h46
theorem c_liveYear {G : tH} {p : Nat} {pr : mP} {lw : mL} {s : mS} {g e : Nat} (ho : okP pr) (hs : okS pr s) (h0 : s.1 10 0 ≠ 0) (hH : nH pr ≠ 0) (hg : g < 2 ^ 31) (h : cC G p pr lw s g) (he : gI G 1 0 = nI e) : ∃ G', V_X0_liveYear 1 G = some (none, G') ∧ cC G' p pr lw (dLive pr lw s g).1 (dLive pr lw s g).2.1 ∧ tfr zA G G' ∧ gI G' 1 0 = nI (e + (dLive pr lw s g).2.2) := by
  have hT := ho.1
  obtain ⟨y1, y2⟩ := dY1_ok (lw := lw) (g := g) hs h0
  have key : ∀ n i G1, i + n = nT pr → tfr zA G G1 → cC G1 p pr lw (vsN pr lw (dY1 pr lw s g) (drG g) i).1 (vsN pr lw (dY1 pr lw s g) (drG g) i).2.1 → gI G1 1 0 = nI (e + (vsN pr lw (dY1 pr lw s g) (drG g) i).2.2) → ∃ G', V_X0_liveYear_15 1 (nI i) G1 = some (none, G') ∧ cC G' p pr lw (dLive pr lw s g).1 (dLive pr lw s g).2.1 ∧ tfr zA G G' ∧ gI G' 1 0 = nI (e + (dLive pr lw s g).2.2) := by
    intro n
    induction n with
    | zero =>
      intro i G1 hi f1 h1 q1
      have : i = nT pr := by omega
      subst this
      obtain ⟨o1, o2, o3⟩ := vs_ok (lw := lw) ho y1 y2 (drG_lt g) (nT pr)
      obtain ⟨b1, b2, b3, b4, b5⟩ := id h1
      have h5 := o1.2.2.2.2.2
      show ∃ G', _ ∧ cC G' p pr lw (dEnd pr (vsN pr lw (dY1 pr lw s g) (drG g) (nT pr)).1) (vsN pr lw (dY1 pr lw s g) (drG g) (nT pr)).2.1 ∧ _ ∧ gI G' 1 0 = nI (e + (vsN pr lw (dY1 pr lw s g) (drG g) (nT pr)).2.2)
      rw [e_X0_liveYear_15, b4.1, b1.1, tltM (by omega) (by omega) (by omega), b4.2.2.2.2.2.2.1, tltN (by omega) (by omega)]
      unfold dEnd
      by_cases hm : (vsN pr lw (dY1 pr lw s g) (drG g) (nT pr)).1.1 10 1 < 5
      · rw [if_pos hm]
        refine ⟨G1, rfl, ?_, f1, q1⟩
        rw [dIf_0 fun z => by have := z.2; omega]
        exact h1
      · rw [if_neg hm]
        have hmc : mayClose (vsN pr lw (dY1 pr lw s g) (drG g) (nT pr)).1 := ⟨o2, by omega⟩
        obtain ⟨G2, e2, s2, f2⟩ := c_sue b1 ho b4 o1 o2
        have h2 := h1.act f2 s2
        have q2 : gI G2 1 0 = nI (e + (vsN pr lw (dY1 pr lw s g) (drG g) (nT pr)).2.2) := by rw [(f2 1 0 (by unfold zS; omega)).1]; exact q1
        rw [e2, tbI_v, dIf_1 hmc]
        by_cases hm2 : mayClose (fSue pr (vsN pr lw (dY1 pr lw s g) (drG g) (nT pr)).1)
        · obtain ⟨G3, e3, s3, f3⟩ := c_close h2.1 ho h2.2.2.2.1 (ok_sue o1) hm2
          refine ⟨G3, by rw [e3, tbI_v], ?_, tfrS (tfrS f1 f2 zS_A) f3 zS_A, ?_⟩
          · rw [dIf_1 hm2]; exact h2.act f3 s3
          · rw [(f3 1 0 (by unfold zS; omega)).1]; exact q2
        · refine ⟨G2, by rw [n_close h2.1 ho h2.2.2.2.1 (ok_sue o1) hm2, tbI_v], ?_, tfrS f1 f2 zS_A, q2⟩
          rw [dIf_0 hm2]; exact h2
    | succ n ih =>
      intro i G1 hi f1 h1 q1
      obtain ⟨o1, o2, o3⟩ := vs_ok (lw := lw) ho y1 y2 (drG_lt g) i
      obtain ⟨G2, e2, h2, f2, q2⟩ := c_visit ho o1 (show i < nT pr by omega) o3 h1 q1
      rw [e_X0_liveYear_15, h1.2.2.2.1.1, h1.1.1, tltP (by omega) (by omega) (by omega), e2, tbV_v, nI_add]
      refine ih (i + 1) G2 (by omega) (f1.tr f2) ?_ ?_
      · rw [vsN_s]; exact h2
      · rw [vsN_s, q2, Nat.add_assoc]
  rw [e_X0_liveYear, h.2.2.2.1.1, c_drawH ho h.1 hH hg h.2.2.2.2, tbI_v]
  have h1 := h.dr (drG g)
  have f1 : tfr zA G (sL G 0 0 (lN (drG g))) := tfr.sL (Or.inl rfl)
  obtain ⟨b1, b2, b3, b4, b5⟩ := id h1
  have hh : dHv pr g < nH pr := by have := hvN_lt (pr 5) (nH pr - 1) 0 (drV g (odN pr)); unfold dHv; omega
  have hH5 := ho.2.2.1
  have step : ∃ r G2, V_X7_bringYear 1 (nI (dHv pr g)) (sL G 0 0 (lN (drG g))) = some (some (vI r), G2) ∧ cC G2 p pr lw (dY1 pr lw s g) (drG g) ∧ tfr zA G G2 ∧ gI G2 1 0 = nI e := by
    unfold dY1
    by_cases hm : mayYear pr s (dHv pr g)
    · obtain ⟨G2, e2, s2, f2⟩ := c_year b1 ho b4 hs b3 hm
      refine ⟨_, G2, e2, ?_, tfrS f1 f2 zS_A, ?_⟩
      · rw [dIf_1 hm]; exact h1.act f2 s2
      · rw [(f2 1 0 (by unfold zS; omega)).1]; exact he
    · refine ⟨_, _, n_year b1 ho b4 hs (fun t' a1 hq => hm (by have hb := hq.2.2; rw [nI_inj (a := dHv pr g) (b := t') (by omega) (by omega) a1]; exact hq)), ?_, f1, he⟩
      rw [dIf_0 hm]; exact h1
  obtain ⟨r, G2, e2, h2, f2, q2⟩ := step
  rw [e2, tbI_v]
  exact key (nT pr) 0 G2 (by omega) f2 h2 q2
theorem c_live {G : tH} {p : Nat} {pr : mP} {lw : mL} {s : mS} {g yrs : Nat} (ho : okP pr) (hs : okS pr s) (hg : g < 2 ^ 31) (hy : yrs ≤ 50) (h : cC G p pr lw s g) (he : gI G 1 0 = nI 0) : ∃ G', V_X0_live_14 1 (nI yrs) (nI 0) G = some (none, G') ∧ cC G' p pr lw (lvN pr lw s g yrs).1 (lvN pr lw s g yrs).2.1 ∧ tfr zA G G' ∧ gI G' 1 0 = nI (lvN pr lw s g yrs).2.2 := by
  have hH5 := ho.2.2.1
  have key : ∀ n i G1, i + n = yrs → tfr zA G G1 → cC G1 p pr lw (lvN pr lw s g i).1 (lvN pr lw s g i).2.1 → gI G1 1 0 = nI (lvN pr lw s g i).2.2 → ∃ G', V_X0_live_14 1 (nI yrs) (nI i) G1 = some (none, G') ∧ cC G' p pr lw (lvN pr lw s g yrs).1 (lvN pr lw s g yrs).2.1 ∧ tfr zA G G' ∧ gI G' 1 0 = nI (lvN pr lw s g yrs).2.2 := by
    intro n
    induction n with
    | zero =>
      intro i G1 hi f1 h1 q1
      have : i = yrs := by omega
      subst this
      refine ⟨G1, ?_, h1, f1, q1⟩
      rw [e_X0_live_14, tltM (by omega) (by omega) (by omega)]
    | succ n ih =>
      intro i G1 hi f1 h1 q1
      obtain ⟨o1, o2⟩ := lv_ok (lw := lw) ho hs hg i
      have e32 : ∀ G2, tfr zA G G2 → cC G2 p pr lw (dAuc pr (lvN pr lw s g i).1 (lvN pr lw s g i).2.1).1 (dAuc pr (lvN pr lw s g i).1 (lvN pr lw s g i).2.1).2 → gI G2 1 0 = nI (lvN pr lw s g i).2.2 → ∃ G', V_X0_live_32 1 (nI yrs) (nI i) G2 = some (none, G') ∧ cC G' p pr lw (lvN pr lw s g yrs).1 (lvN pr lw s g yrs).2.1 ∧ tfr zA G G' ∧ gI G' 1 0 = nI (lvN pr lw s g yrs).2.2 := by
        intro G2 f2 h2 q2
        obtain ⟨a1, a2⟩ := dAuc_ok o1 o2
        have hl : lvN pr lw s g (i + 1) = if (dAuc pr (lvN pr lw s g i).1 (lvN pr lw s g i).2.1).1.1 10 0 = 0 then ((dAuc pr (lvN pr lw s g i).1 (lvN pr lw s g i).2.1).1, (dAuc pr (lvN pr lw s g i).1 (lvN pr lw s g i).2.1).2, (lvN pr lw s g i).2.2) else if nH pr = 0 then ((dAuc pr (lvN pr lw s g i).1 (lvN pr lw s g i).2.1).1, (dAuc pr (lvN pr lw s g i).1 (lvN pr lw s g i).2.1).2, (lvN pr lw s g i).2.2) else ((dLive pr lw (dAuc pr (lvN pr lw s g i).1 (lvN pr lw s g i).2.1).1 (dAuc pr (lvN pr lw s g i).1 (lvN pr lw s g i).2.1).2).1, (dLive pr lw (dAuc pr (lvN pr lw s g i).1 (lvN pr lw s g i).2.1).1 (dAuc pr (lvN pr lw s g i).1 (lvN pr lw s g i).2.1).2).2.1, (lvN pr lw s g i).2.2 + (dLive pr lw (dAuc pr (lvN pr lw s g i).1 (lvN pr lw s g i).2.1).1 (dAuc pr (lvN pr lw s g i).1 (lvN pr lw s g i).2.1).2).2.2) := rfl
        have h3 := ih (i + 1)
        rw [hl] at h3
        rw [e_X0_live_32, v_isHeld h2.1 h2.2.2.2.1 ho a1, tbI_v, nI_add, h2.2.2.2.1.1, h2.1.2.2.1]
        by_cases hc : (dAuc pr (lvN pr lw s g i).1 (lvN pr lw s g i).2.1).1.1 10 0 = 0
        · rw [if_pos hc] at h3 ⊢
          rw [tn0]
          exact h3 G2 (by omega) f2 h2 q2
        · rw [if_neg hc] at h3 ⊢
          rw [tn1]
          by_cases hz : nH pr = 0
          · rw [if_pos hz] at h3
            rw [tl0M hz]
            exact h3 G2 (by omega) f2 h2 q2
          · rw [if_neg hz] at h3
            obtain ⟨G3, e4, h4, f4, q4⟩ := c_liveYear ho a1 hc hz a2 h2 q2
            rw [tl0P (by omega) (by omega), e4, tbV_v]
            exact h3 G3 (by omega) (f2.tr f4) h4 q4
      rw [e_X0_live_14, tltP (by omega) (by omega) (by omega), v_isHeld h1.1 h1.2.2.2.1 ho o1, tbI_v]
      by_cases hc : (lvN pr lw s g i).1.1 10 0 = 0
      · rw [if_pos hc, tn0]
        obtain ⟨G2, e2, h2, f2, q2⟩ := c_auction ho o1 hc o2 h1
        rw [e2, tbV_v]
        exact e32 G2 (f1.tr f2) h2 (by rw [q2]; exact q1)
      · rw [if_neg hc, tn1]
        have ha : dAuc pr (lvN pr lw s g i).1 (lvN pr lw s g i).2.1 = ((lvN pr lw s g i).1, (lvN pr lw s g i).2.1) := if_neg hc
        refine e32 G1 f1 ?_ q1
        rw [ha]
        exact h1
  exact key yrs 0 G (by omega) tfr.rf h he
