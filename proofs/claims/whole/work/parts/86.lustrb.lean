/-! PURE: lustra, the reference -/
def rC (G : tH) (pr : mP) (lw : mL) (s : mS) (g : Nat) : Prop := rP G pr ∧ rL G 0 (lw 0) ∧ rL G 1 (lw 1) ∧ rS (gA G 1124 0) 1342 pr s ∧ gL G 1137 0 = lN g
def zE : Nat → Nat → Prop := fun f _ => f = 1122 ∨ f = 1123 ∨ f = 1124 ∨ f = 1137
def rF (G G' : tH) : Prop := tfr zE G G' ∧ ∀ i, i < 1342 → gA G' 1124 0 i = gA G 1124 0 i
theorem rF.rf {G : tH} : rF G G := ⟨tfr.rf, fun _ _ => rfl⟩
theorem rF.tr {G1 G2 G3 : tH} (h : rF G1 G2) (h' : rF G2 G3) : rF G1 G3 := ⟨h.1.tr h'.1, fun i hi => by rw [h'.2 i hi, h.2 i hi]⟩
theorem rF.D {G G' : tH} {pr : mP} {s : mS} (h : rD G G' 1342 pr s) : rF G G' := ⟨h.2.2.mono fun f o z => by unfold zR at z; unfold zE; omega, fun i hi => h.2.1 i (by omega)⟩
theorem rF.dr {G : tH} {v : Int64} : rF G (sL G 1137 0 v) := ⟨tfr.sL (by unfold zE; omega), fun _ _ => rfl⟩
theorem rC.set {G G' : tH} {pr : mP} {lw : mL} {s s' : mS} {g g' : Nat} (h : rC G pr lw s g) (hf : tfr zE G G') (h1 : rS (gA G' 1124 0) 1342 pr s') (h2 : gL G' 1137 0 = lN g') : rC G' pr lw s' g' := by
  obtain ⟨a1, a2, a3, a4, a5⟩ := h
  exact ⟨a1.kept hf (by unfold zE; omega), a2.kept hf (by unfold zE; omega) (by unfold zE; omega) (by unfold zE; omega), a3.kept hf (by unfold zE; omega) (by unfold zE; omega) (by unfold zE; omega), h1, h2⟩
theorem rC.act {G G' : tH} {pr : mP} {lw : mL} {s s' : mS} {g : Nat} (h : rC G pr lw s g) (hd : rD G G' 1342 pr s') : rC G' pr lw s' g :=
  h.set (rF.D hd).1 hd.1 (by rw [(hd.2.2 1137 0 (by unfold zR; omega)).2.1]; exact h.2.2.2.2)
theorem rC.dr {G : tH} {pr : mP} {lw : mL} {s : mS} {g : Nat} (h : rC G pr lw s g) (g' : Nat) : rC (sL G 1137 0 (lN g')) pr lw s g' := h.set rF.dr.1 h.2.2.2.1 gL_eq
theorem r_award56 {G : tH} {pr : mP} {lw : mL} {s : mS} {g : Nat} (ho : okP pr) (hs : okS pr s) (h : rC G pr lw s g) : ∃ G', V_X11_drawsBids_56 G = some (none, G') ∧ rC G' pr lw (dIf (mayAward pr s) (fAward pr s) s) g ∧ rF G G' := by
  obtain ⟨b1, b2, b3, b4, b5⟩ := id h
  rw [e_X11_drawsBids_56, r_mayAward b1 ho b4 hs (by omega), tbI_v]
  by_cases hm : mayAward pr s
  · obtain ⟨G2, e2, d2⟩ := r_awards b1 ho b4 hs (by omega) hm
    refine ⟨G2, by rw [bN_1 hm, tn1, e2, tbI_v], ?_, rF.D d2⟩
    rw [dIf_1 hm]; exact h.act d2
  · refine ⟨G, by rw [bN_0 hm, tn0], ?_, rF.rf⟩
    rw [dIf_0 hm]; exact h
theorem r_bidsD {G : tH} {pr : mP} {lw : mL} {s : mS} {g : Nat} (ho : okP pr) (hs : okS pr s) (hg : g < 2 ^ 31) (h : rC G pr lw s g) : ∃ G', V_X11_drawsBids G = some (none, G') ∧ rC G' pr lw (dAuc pr s g).1 (dAuc pr s g).2 ∧ rF G G' := by
  have hC := ho.2.1
  rw [e_X11_drawsBids]
  unfold dAuc
  by_cases h0 : s.1 10 0 = 0
  · rw [if_pos h0]
    have key : ∀ n i G1, i + n = nC pr → rF G G1 → rC G1 pr lw (auN pr s g i).1 (auN pr s g i).2 → ∃ G', V_X11_drawsBids_2 (nI i) G1 = some (none, G') ∧ rC G' pr lw (dIf (mayAward pr (auN pr s g (nC pr)).1) (fAward pr (auN pr s g (nC pr)).1) (auN pr s g (nC pr)).1) (auN pr s g (nC pr)).2 ∧ rF G G' := by
      intro n
      induction n with
      | zero =>
        intro i G1 hi f1 h1
        have : i = nC pr := by omega
        subst this
        obtain ⟨o1, o2, o3⟩ := au_ok hs h0 hg (nC pr)
        obtain ⟨G2, e2, h2, f2⟩ := r_award56 ho o1 h1
        refine ⟨G2, ?_, h2, f1.tr f2⟩
        rw [e_X11_drawsBids_2, r_companies h1.1, tbI_v, tltM (by omega) (by omega) (by omega), e2]
      | succ n ih =>
        intro i G1 hi f1 h1
        obtain ⟨o1, o2, o3⟩ := au_ok hs h0 hg i
        have hv := drV_lt (g := (auN pr s g i).2) (m := 100) (by omega)
        have h1d := h1.dr (drG (auN pr s g i).2)
        obtain ⟨b1, b2, b3, b4, b5⟩ := id h1d
        rw [e_X11_drawsBids_2, r_companies h1.1, tbI_v, tltP (by omega) (by omega) (by omega), r_isHeld h1.2.2.2.1 (by omega) ho o1, if_pos o2, tbI_v, tn0, r_draw h1.2.2.2.2 o3 (by omega) (by omega), tbI_v, r_mayBid b1 ho b4 o1 (by omega) (show i < nC pr by omega) (by omega), tbI_v, nI_add]
        by_cases hm : mayBid pr (auN pr s g i).1 i (drV (auN pr s g i).2 100)
        · have d2 := r_bids b1 ho b4 o1 (by omega) (c0 := i) (x := drV (auN pr s g i).2 100) (by omega)
          rw [bN_1 hm, tn1]
          simp (disch := omega) only [nI_add, ttin, nI_clamp]
          refine ih (i + 1) _ (by omega) ((f1.tr rF.dr).tr (rF.D d2)) ?_
          have := h1d.act d2
          rw [auN_s, dIf_1 hm]
          exact this
        · rw [bN_0 hm, tn0]
          refine ih (i + 1) _ (by omega) (f1.tr rF.dr) ?_
          rw [auN_s, dIf_0 hm]
          exact h1d
    exact key (nC pr) 0 G (by omega) rF.rf h
  · rw [if_neg h0]
    obtain ⟨G2, e2, h2, f2⟩ := r_award56 ho hs h
    rw [dIf_0 fun z => h0 z.1] at h2
    refine ⟨G2, ?_, h2, f2⟩
    rw [e_X11_drawsBids_2, r_companies h.1, tbI_v, r_isHeld h.2.2.2.1 (by omega) ho hs, if_neg h0, tbI_v, tn1, e2]
    rw [tif_ite]
    split <;> rfl
/-- reference: a town visited -/
theorem r_visit {G : tH} {pr : mP} {lw : mL} {s : mS} {g t e : Nat} (ho : okP pr) (hs : okS pr s) (ht : t < nT pr) (hg : g < 2 ^ 31) (h : rC G pr lw s g) : ∃ G', V_X11_drawsYear_85 (nI e) (nI t) G = V_X11_drawsYear_85 (nI (e + (vsE pr lw s g t).2)) (nI (t + 1)) G' ∧ rC G' pr lw (vsE pr lw s g t).1 (drG g) ∧ rF G G' := by
  have hT := ho.1
  have hv := drV_lt (g := g) (m := 3) (by omega)
  have h1 := h.dr (drG g)
  obtain ⟨b1, b2, b3, b4, b5⟩ := id h1
  obtain ⟨k1, k2, k3, k4, k5, k6⟩ := b4.2.2.2.2.2.1 t ht
  obtain ⟨q1, q2, q3, q4⟩ := hs.1 t ht
  have e178 : ∀ c, c < 2 → V_X11_drawsYear_178 (nI e) (nI t) (nI c) (sL G 1137 0 (lN (drG g))) = V_X11_drawsYear_85 (nI e) (nI (t + 1)) (sL G 1137 0 (lN (drG g))) := by
    intro c hc
    rw [e_X11_drawsYear_178, teqM (by omega) (by omega) (by omega), nI_add]
  have e137 : ∀ c x, c < 2 → x ≤ 9999 → ∃ G', V_X11_drawsYear_137 (nI e) (nI t) (nI c) (nI x) (sL G 1137 0 (lN (drG g))) = V_X11_drawsYear_85 (nI (e + @ite Nat (mayTake pr s t x) (Classical.propDecidable _) (aTake pr s t x) 0)) (nI (t + 1)) G' ∧ rC G' pr lw (dIf (mayTake pr s t x) (fTake pr s t x) s) (drG g) ∧ rF G G' := by
    intro c x hc hx
    rw [e_X11_drawsYear_137, tltP (by omega) (by omega) (by omega), r_mayTake b1 ho b4 hs (by omega) ht hx, tbI_v]
    by_cases hm : mayTake pr s t x
    · obtain ⟨G2, e2, d2⟩ := r_takes b1 ho b4 hs (by omega) hm
      refine ⟨G2, ?_, ?_, rF.dr.tr (rF.D d2)⟩
      · rw [bN_1 hm, tn1, e2, tbI_v, nI_add, nI_add, if_pos hm]
      · rw [dIf_1 hm]; exact h1.act d2
    · refine ⟨sL G 1137 0 (lN (drG g)), ?_, ?_, rF.dr⟩
      · rw [bN_0 hm, tn0, e178 c hc, if_neg hm]; rfl
      · rw [dIf_0 hm]; exact h1
  rw [e_X11_drawsYear_85, r_towns h.1, tbI_v, tltP (by omega) (by omega) ht, r_draw h.2.2.2.2 hg (by omega) (by omega), tbI_v]
  unfold vsE
  by_cases hc : drV g 3 = 2
  · rw [if_pos hc, tz0M (by omega) (by omega)]
    simp (disch := omega) only [nI_add, ttin, nI_clamp]
    rw [tn2, hc, e_X11_drawsYear_137, tltM (by omega) (by omega) (by omega), e_X11_drawsYear_178, tif_pos rfl, r_maySpare b1 ho b4 hs (by omega) ht, tbI_v, nI_add]
    by_cases hm : maySpare pr s t
    · obtain ⟨G2, e2, d2⟩ := r_spares b1 ho b4 hs (by omega) b2 hm
      refine ⟨G2, ?_, ?_, rF.dr.tr (rF.D d2)⟩
      · rw [bN_1 hm, tn1, e2, tbI_v]; rfl
      · rw [dIf_1 hm]; exact h1.act d2
    · refine ⟨sL G 1137 0 (lN (drG g)), ?_, ?_, rF.dr⟩
      · rw [bN_0 hm, tn0]; rfl
      · rw [dIf_0 hm]; exact h1
  · rw [if_neg hc]
    have h137 := e137 (drV g 3) (tkX pr s t (drV g 3)) (by omega) (tkX_le ho hs ht)
    by_cases h0 : drV g 3 = 0
    · rw [tz0P h0]
      simp (disch := omega) only [nI_add, ttin, nI_clamp]
      rw [show 1359 + t = 1342 + 17 + t by omega, k3, r_titheOf b1 ho q3, tbI_v]
      rw [show tkX pr s t (drV g 3) = tthN pr (s.1 3 t) from if_pos h0] at h137 ⊢
      exact h137
    · rw [tz0M (by omega) h0]
      simp (disch := omega) only [nI_add, ttin, nI_clamp]
      rw [tn2, show 1353 + t = 1342 + 11 + t by omega, k2, pk_div (by omega) (by omega) (by omega)]
      rw [show tkX pr s t (drV g 3) = s.1 2 t / 2 from if_neg h0] at h137 ⊢
      exact h137
theorem r_yearD {G : tH} {pr : mP} {lw : mL} {s : mS} {g : Nat} (ho : okP pr) (hs : okS pr s) (h0 : s.1 10 0 ≠ 0) (hH : nH pr ≠ 0) (hg : g < 2 ^ 31) (h : rC G pr lw s g) : ∃ G', V_X11_drawsYear G = some (some (vI (nI (dLive pr lw s g).2.2)), G') ∧ rC G' pr lw (dLive pr lw s g).1 (dLive pr lw s g).2.1 ∧ rF G G' := by
  have hT := ho.1
  have hH5 := ho.2.2.1
  obtain ⟨w1, w2⟩ := odN_b ho hH
  obtain ⟨y1, y2⟩ := dY1_ok (lw := lw) (g := g) hs h0
  have hh : dHv pr g < nH pr := by have := hvN_lt (pr 5) (nH pr - 1) 0 (drV g (odN pr)); unfold dHv; omega
  have key : ∀ n i G1, i + n = nT pr → rF G G1 → rC G1 pr lw (vsN pr lw (dY1 pr lw s g) (drG g) i).1 (vsN pr lw (dY1 pr lw s g) (drG g) i).2.1 → ∃ G', V_X11_drawsYear_85 (nI (vsN pr lw (dY1 pr lw s g) (drG g) i).2.2) (nI i) G1 = some (some (vI (nI (dLive pr lw s g).2.2)), G') ∧ rC G' pr lw (dLive pr lw s g).1 (dLive pr lw s g).2.1 ∧ rF G G' := by
    intro n
    induction n with
    | zero =>
      intro i G1 hi f1 h1
      have : i = nT pr := by omega
      subst this
      obtain ⟨o1, o2, o3⟩ := vs_ok (lw := lw) ho y1 y2 (drG_lt g) (nT pr)
      obtain ⟨b1, b2, b3, b4, b5⟩ := id h1
      show ∃ G', _ = some (some (vI (nI (vsN pr lw (dY1 pr lw s g) (drG g) (nT pr)).2.2)), G') ∧ rC G' pr lw (dEnd pr (vsN pr lw (dY1 pr lw s g) (drG g) (nT pr)).1) (vsN pr lw (dY1 pr lw s g) (drG g) (nT pr)).2.1 ∧ _
      rw [e_X11_drawsYear_85, r_towns b1, tbI_v, tltM (by omega) (by omega) (by omega), r_mayClose b1 ho b4 o1 (by omega), tbI_v]
      unfold dEnd
      by_cases hm : mayClose (vsN pr lw (dY1 pr lw s g) (drG g) (nT pr)).1
      · rw [bN_1 hm, tn1, dIf_1 hm]
        obtain ⟨G2, e2, d2⟩ := r_sues b1 ho b4 o1 (by omega) o2
        have h2 := h1.act d2
        rw [e2, tbI_v, r_mayClose h2.1 ho h2.2.2.2.1 (ok_sue o1) (by omega), tbI_v]
        by_cases hm2 : mayClose (fSue pr (vsN pr lw (dY1 pr lw s g) (drG g) (nT pr)).1)
        · have d3 := r_closes h2.1 ho h2.2.2.2.1 (ok_sue o1) (by omega)
          refine ⟨_, ?_, ?_, (f1.tr (rF.D d2)).tr (rF.D d3)⟩
          · rw [bN_1 hm2, tn1, ttin (by omega) (by omega), nI_clamp (by omega)]
          · rw [dIf_1 hm2]; exact h2.act d3
        · refine ⟨G2, ?_, ?_, f1.tr (rF.D d2)⟩
          · rw [bN_0 hm2, tn0]
          · rw [dIf_0 hm2]; exact h2
      · rw [bN_0 hm, tn0, dIf_0 hm]
        exact ⟨G1, rfl, h1, f1⟩
    | succ n ih =>
      intro i G1 hi f1 h1
      obtain ⟨o1, o2, o3⟩ := vs_ok (lw := lw) ho y1 y2 (drG_lt g) i
      obtain ⟨G2, e2, h2, f2⟩ := r_visit (e := (vsN pr lw (dY1 pr lw s g) (drG g) i).2.2) ho o1 (show i < nT pr by omega) o3 h1
      rw [e2]
      have h3 := ih (i + 1) G2 (by omega) (f1.tr f2)
      rw [vsN_s] at h3
      exact h3 h2
  have h1 := h.dr (drG g)
  obtain ⟨b1, b2, b3, b4, b5⟩ := id h1
  have yr : ∃ G', (tbI (V_X11_mayYear (nI 1342) (sL G 1137 0 (lN (drG g)))) (fun r_4 G_3 => tif (r_4 = 0) (V_X11_drawsYear_85 (nI 0) (nI 0) G_3) (tbI (V_X11_yearBy (nI 1342) (nI (dHv pr g)) G_3) (fun r_6 G_5 => V_X11_drawsYear_85 (nI 0) (nI 0) G_5)))) = some (some (vI (nI (dLive pr lw s g).2.2)), G') ∧ rC G' pr lw (dLive pr lw s g).1 (dLive pr lw s g).2.1 ∧ rF G G' := by
    rw [r_mayYear b1 ho b4 hs (by omega) hh, tbI_v]
    have h3 := fun G2 => key (nT pr) 0 G2 (by omega)
    by_cases hm : mayYear pr s (dHv pr g)
    · obtain ⟨G2, e2, d2⟩ := r_yearBy b1 ho b4 hs (by omega) b3 hm
      rw [bN_1 hm, tn1, e2, tbI_v]
      refine h3 G2 (rF.dr.tr (rF.D d2)) ?_
      show rC G2 pr lw (dY1 pr lw s g) (drG g)
      unfold dY1
      rw [dIf_1 hm]; exact h1.act d2
    · rw [bN_0 hm, tn0]
      refine h3 _ rF.dr ?_
      show rC _ pr lw (dY1 pr lw s g) (drG g)
      unfold dY1
      rw [dIf_0 hm]; exact h1
  have sum_s : ∀ k, sumN (pr 5) (k + 1) = sumN (pr 5) k + pr 5 k := fun k => rfl
  have e35 : ∀ n k r, k + n + 1 = nH pr → r + sumN (pr 5) k < odN pr → hvN (pr 5) n k r = dHv pr g → ∃ G', V_X11_drawsYear_35 (nI r) (nI k) (sL G 1137 0 (lN (drG g))) = some (some (vI (nI (dLive pr lw s g).2.2)), G') ∧ rC G' pr lw (dLive pr lw s g).1 (dLive pr lw s g).2.1 ∧ rF G G' := by
    intro n
    induction n with
    | zero =>
      intro k r hk hr hq
      have h9 := (ho.2.2.2.2.2.2.2.2.1 k (by omega)).2.2
      have hs2 := sum_s k
      rw [show k + 1 = nH pr by omega] at hs2
      have hlt : r < pr 5 k := by unfold odN at hr; omega
      have hqk : k = dHv pr g := hq
      rw [e_X11_drawsYear_35, r_harvestOf1 b1 ho (by omega), tbI_v, tltP (by omega) (by omega) hlt, hqk]
      exact yr
    | succ n ih =>
      intro k r hk hr hq
      have h9 := (ho.2.2.2.2.2.2.2.2.1 k (by omega)).2.2
      rw [hvN] at hq
      rw [e_X11_drawsYear_35, r_harvestOf1 b1 ho (by omega), tbI_v, tltN (by omega) (by omega)]
      by_cases hlt : r < pr 5 k
      · rw [if_pos hlt] at hq ⊢
        rw [hq]
        exact yr
      · rw [if_neg hlt] at hq ⊢
        rw [r_harvestOf1 b1 ho (by omega), tbI_v, nI_sub (by omega), nI_add]
        exact ih (k + 1) (r - pr 5 k) (by omega) (by rw [sum_s]; omega) hq
  have e4 : ∀ n i, i + n = nH pr → ∃ G', V_X11_drawsYear_4 (nI (sumN (pr 5) i)) (nI i) G = some (some (vI (nI (dLive pr lw s g).2.2)), G') ∧ rC G' pr lw (dLive pr lw s g).1 (dLive pr lw s g).2.1 ∧ rF G G' := by
    intro n
    induction n with
    | zero =>
      intro i hi
      have : i = nH pr := by omega
      subst this
      have hv := drV_lt (g := g) w1
      rw [e_X11_drawsYear_4, r_harvests h.1, tbI_v, tltM (by omega) (by omega) (by omega), show sumN (pr 5) (nH pr) = odN pr from rfl, r_draw h.2.2.2.2 hg w1 (by omega), tbI_v]
      exact e35 (nH pr - 1) 0 _ (by omega) (by show _ + 0 < _; omega) rfl
    | succ n ih =>
      intro i hi
      rw [e_X11_drawsYear_4, r_harvests h.1, tbI_v, tltP (by omega) (by omega) (by omega), r_harvestOf1 h.1 ho (by omega), tbI_v, nI_add, nI_add]
      exact ih (i + 1) (by omega)
  rw [e_X11_drawsYear]
  exact e4 (nH pr) 0 (by omega)
theorem r_lustra {G : tH} {pr : mP} {lw : mL} {s : mS} {g yrs : Nat} (ho : okP pr) (hs : okS pr s) (hg : g < 2 ^ 31) (hy : yrs ≤ 50) (h : rC G pr lw s g) {k : Nat} (hk : k ≤ 2) : ∃ G', V_X11_lustra_59 (nI yrs) (nI k) (nI 0) (nI 0) G = some (some (vI (if k = 0 then (lvN pr lw s g yrs).1.2 11 - gA G 1124 0 3 else if k = 1 then nI (lvN pr lw s g yrs).2.2 else nI (sumN ((lvN pr lw s g yrs).1.1 1) (nT pr)))), G') ∧ rF G G' := by
  have hH5 := ho.2.2.1
  have key : ∀ n i G1, i + n = yrs → rF G G1 → rC G1 pr lw (lvN pr lw s g i).1 (lvN pr lw s g i).2.1 → ∃ G', V_X11_lustra_59 (nI yrs) (nI k) (nI (lvN pr lw s g i).2.2) (nI i) G1 = some (some (vI (if k = 0 then (lvN pr lw s g yrs).1.2 11 - gA G 1124 0 3 else if k = 1 then nI (lvN pr lw s g yrs).2.2 else nI (sumN ((lvN pr lw s g yrs).1.1 1) (nT pr)))), G') ∧ rF G G' := by
    intro n
    induction n with
    | zero =>
      intro i G1 hi f1 h1
      have : i = yrs := by omega
      subst this
      obtain ⟨o1, o2⟩ := lv_ok (lw := lw) ho hs hg i
      obtain ⟨b1, b2, b3, b4, b5⟩ := id h1
      refine ⟨G1, ?_, f1⟩
      rw [e_X11_lustra_59, tltM (by omega) (by omega) (by omega)]
      rcases (show k = 0 ∨ k = 1 ∨ k = 2 by omega) with rfl | rfl | rfl
      · have := b4.2.2.2.1
        rw [tn0, if_pos rfl, ttin (by omega) (by omega), ttin (by omega) (by omega), nI_clamp (by omega), nI_clamp (by omega), show 1345 = 1342 + 3 from rfl, this, f1.2 3 (by omega)]
      · rw [tn1, tif_pos rfl, if_neg (by omega), if_pos rfl]
      · rw [tn2, teqM (by omega) (by omega) (by omega), if_neg (by omega), if_neg (by omega), r_meansOf b1 ho b4 o1 (by omega), tbI_v]
    | succ n ih =>
      intro i G1 hi f1 h1
      obtain ⟨o1, o2⟩ := lv_ok (lw := lw) ho hs hg i
      obtain ⟨a1, a2⟩ := dAuc_ok o1 o2
      obtain ⟨G2, e2, h2, f2⟩ := r_bidsD ho o1 o2 h1
      have hl : lvN pr lw s g (i + 1) = if (dAuc pr (lvN pr lw s g i).1 (lvN pr lw s g i).2.1).1.1 10 0 = 0 then ((dAuc pr (lvN pr lw s g i).1 (lvN pr lw s g i).2.1).1, (dAuc pr (lvN pr lw s g i).1 (lvN pr lw s g i).2.1).2, (lvN pr lw s g i).2.2) else if nH pr = 0 then ((dAuc pr (lvN pr lw s g i).1 (lvN pr lw s g i).2.1).1, (dAuc pr (lvN pr lw s g i).1 (lvN pr lw s g i).2.1).2, (lvN pr lw s g i).2.2) else ((dLive pr lw (dAuc pr (lvN pr lw s g i).1 (lvN pr lw s g i).2.1).1 (dAuc pr (lvN pr lw s g i).1 (lvN pr lw s g i).2.1).2).1, (dLive pr lw (dAuc pr (lvN pr lw s g i).1 (lvN pr lw s g i).2.1).1 (dAuc pr (lvN pr lw s g i).1 (lvN pr lw s g i).2.1).2).2.1, (lvN pr lw s g i).2.2 + (dLive pr lw (dAuc pr (lvN pr lw s g i).1 (lvN pr lw s g i).2.1).1 (dAuc pr (lvN pr lw s g i).1 (lvN pr lw s g i).2.1).2).2.2) := rfl
      have h3 := ih (i + 1)
      rw [hl] at h3
      rw [e_X11_lustra_59, tltP (by omega) (by omega) (by omega), e2, tbV_v, r_isHeld h2.2.2.2.1 (by omega) ho a1, tbI_v]
      by_cases hc : (dAuc pr (lvN pr lw s g i).1 (lvN pr lw s g i).2.1).1.1 10 0 = 0
      · rw [if_pos hc] at h3 ⊢
        rw [tn0, nI_add, nI_add, Nat.add_zero]
        exact h3 G2 (by omega) (f1.tr f2) h2
      · rw [if_neg hc] at h3 ⊢
        rw [tn1, r_harvests h2.1, tbI_v]
        by_cases hz : nH pr = 0
        · rw [if_pos hz] at h3
          rw [tl0M hz, nI_add, nI_add, Nat.add_zero]
          exact h3 G2 (by omega) (f1.tr f2) h2
        · rw [if_neg hz] at h3
          obtain ⟨G3, e4, h4, f4⟩ := r_yearD ho a1 hc hz a2 h2
          rw [tl0P (by omega) (by omega), e4, tbI_v, nI_add, nI_add]
          exact h3 G3 (by omega) ((f1.tr f2).tr f4) h4
  exact key yrs 0 G (by omega) rF.rf h
theorem p_lustra (x1 x2 x3 : Int32) {G : tH} (h : INV G) : PAIR (V_X10_lustra x1 x2 x3) (V_X11_lustra x1 x2 x3) G := by
  obtain ⟨p, fr, q, pr, lw, σ, τ, ν, L, tx, nm, hM, hN, hC, hR⟩ := id h
  obtain ⟨ho, hs, hu, _⟩ := id hM
  obtain ⟨c1, c2, c3, hP, c5, c6, hS, c8, c9, c10, c11, c12⟩ := id hC.1
  rcases within_c (a := 0) (b := 9999) x1 (by omega) (by omega) with ⟨g, _, hg, rfl, hw1⟩ | ⟨hno, hw1⟩
  · rcases within_c (a := 1) (b := 50) x2 (by omega) (by omega) with ⟨y, hy1, hy, rfl, hw2⟩ | ⟨hno, hw2⟩
    · rcases within_c (a := 0) (b := 2) x3 (by omega) (by omega) with ⟨k, _, hk, rfl, hw3⟩ | ⟨hno, hw3⟩
      · obtain ⟨Ga, e1, s1, f1⟩ := c_copy (o := 1) (o1 := 0) ho hS (by omega)
        have hf2 : tfr (fun f _ => f = 0 ∨ f = 1) Ga (sI (sL Ga 0 0 (lN g)) 1 0 (nI 0)) := tfrI (tfr.sL (Or.inl rfl)) (Or.inr rfl)
        have f1a : tfr zA G (sI (sL Ga 0 0 (lN g)) 1 0 (nI 0)) := (f1.mono fun f o z => by unfold zT at z; unfold zA; omega).tr (hf2.mono fun f o z => by unfold zA; omega)
        have hcc : cC (sI (sL Ga 0 0 (lN g)) 1 0 (nI 0)) p pr lw (σ 0) g := ⟨hP.kept f1a fun f o z => by unfold zA at z; omega, c5.kept f1a (by unfold zA; omega) (by unfold zA; omega), c6.kept f1a (by unfold zA; omega) (by unfold zA; omega), s1.kept hf2 (fun f _ _ => by omega), gL_eq⟩
        obtain ⟨Gb, e2, h2, f2, q2⟩ := c_live (yrs := y) ho hs (by omega) hy hcc gI_eq
        have fb := f1a.tr f2
        have g2 : tfr (fun f o => zV f o ∧ f < 1100) G Gb := fb.mono fun f o z => by unfold zA at z; unfold zV; omega
        have hS0 : cS Gb 0 p pr (σ 0) := hS.kept fb fun f _ _ => by unfold zA; omega
        refine PAIR.scr (r := if k = 0 then (lvN pr lw (σ 0) g y).1.2 11 - (σ 0).2 11 else if k = 1 then nI (lvN pr lw (σ 0) g y).2.2 else nI (sumN ((lvN pr lw (σ 0) g y).1.1 1) (nT pr))) hM hN hC hR ?_ g2 fun hR1 => ?_
        · rw [e_X10_lustra, tlt0 (by omega), tltM (by omega) (by omega) hg, tltM (by omega) (by omega) hy1, tltM (by omega) (by omega) hy, tlt0 (by omega), tltM (by omega) (by omega) hk, e1, tbV_v, e_X0_live]
          dsimp only
          rw [nI_l (by omega), e2, tbV_v]
          rcases (show k = 0 ∨ k = 1 ∨ k = 2 by omega) with rfl | rfl | rfl
          · rw [tif_pos rfl, if_pos rfl, h2.2.2.2.1.2.2.2.2.2.2.2.2.2, hS0.2.2.2.2.2.2.2.2.2]
          · rw [teqM (by omega) (by omega) (by omega), tif_pos rfl, if_neg (by omega), if_pos rfl, q2]
          · rw [teqM (by omega) (by omega) (by omega), teqM (by omega) (by omega) (by omega), if_neg (by omega), if_neg (by omega), v_meansOfAll h2.1 ho h2.2.2.2.1, tbI_v]
        · have hR0 := hR1.1.thr (nI 0)
          obtain ⟨r1, r2, r3, r4, r5, r6, r7⟩ := id hR0
          obtain ⟨a', e3, x1, x2⟩ := r_copies 0 1342 56 (by omega) (by omega) (by omega) (sI Gb 1100 0 (nI 0))
          have f3 : tfr (fun f _ => f = 1124 ∨ f = 1137) (sI Gb 1100 0 (nI 0)) (sL (sA (sI Gb 1100 0 (nI 0)) 1124 0 a') 1137 0 (lN g)) := tfrL (tfr.sA (Or.inl rfl)) (Or.inr rfl)
          have hrc : rC (sL (sA (sI Gb 1100 0 (nI 0)) 1124 0 a') 1137 0 (lN g)) pr lw (σ 0) g := by
            refine ⟨r1.kept f3 (by omega), r2.kept f3 (by omega) (by omega) (by omega), r3.kept f3 (by omega) (by omega) (by omega), ?_, gL_eq⟩
            rw [gA_sL, gA_eq]
            exact rS.move ho r4 fun k hk => x1 k hk
          obtain ⟨G2, e4, f4⟩ := r_lustra (yrs := y) (k := k) ho hs (by omega) hy hrc hk
          have h3 : gA (sL (sA (sI Gb 1100 0 (nI 0)) 1124 0 a') 1137 0 (lN g)) 1124 0 3 = (σ 0).2 11 := by
            rw [gA_sL, gA_eq, x2 3 (by omega)]
            exact r4.2.2.2.1
          rw [h3] at e4
          refine ⟨G2, ?_, ?_, fun i hi => ?_⟩
          · rw [e_X11_lustra]
            dsimp only
            rw [r_win (by omega) (by omega) hg, tbI_v, tn1, r_win (by omega) hy1 hy, tbI_v, tn1, r_win (by omega) (by omega) hk, tbI_v, tn1, e3, tbV_v, nI_l (by omega), e4]
          · exact (tfrL (tfrA (tfrI tfr.rf (by unfold zX; omega)) (by unfold zX; omega)) (by unfold zX; omega)).tr (f4.1.mono fun f o z => by unfold zE at z; unfold zX; omega)
          · rw [f4.2 i (by omega), gA_sL, gA_eq, x2 i (by omega), gA_sI]
      · refine PAIR.read h (r := -1) ?_ ?_
        · rw [e_X10_lustra, tlt0 (by omega), tltM (by omega) (by omega) hg, tltM (by omega) (by omega) hy1, tltM (by omega) (by omega) hy]
          by_cases h1 : x3 < 0
          · rw [tif_pos h1]
          · obtain ⟨k, hk, rfl⟩ := nI_of h1
            rw [tif_neg h1, tltP (by omega) hk (Nat.lt_of_not_le fun q => hno ⟨k, by omega, q, rfl⟩)]
        · rw [e_X11_lustra]
          dsimp only
          rw [r_win (by omega) (by omega) hg, tbI_v, tn1, r_win (by omega) hy1 hy, tbI_v, tn1, r_within, hw3, tbI_v, tn0]
    · refine PAIR.read h (r := -1) ?_ ?_
      · rw [e_X10_lustra, tlt0 (by omega), tltM (by omega) (by omega) hg]
        by_cases h1 : x2 < nI 1
        · rw [tif_pos h1]
        · rw [tif_neg h1]
          have h0 : ¬ x2 < 0 := fun z => h1 (Int32.lt_of_lt_of_le z (by decide +kernel))
          obtain ⟨k, hk, rfl⟩ := nI_of h0
          rw [tltP (by omega) hk (Nat.lt_of_not_le fun q => hno ⟨k, by rw [nI_ltI hk (by omega)] at h1; omega, q, rfl⟩)]
      · rw [e_X11_lustra]
        dsimp only
        rw [r_win (by omega) (by omega) hg, tbI_v, tn1, r_within, hw2, tbI_v, tn0]
  · refine PAIR.read h (r := -1) ?_ ?_
    · rw [e_X10_lustra]
      by_cases h1 : x1 < 0
      · rw [tif_pos h1]
      · obtain ⟨k, hk, rfl⟩ := nI_of h1
        rw [tif_neg h1, tltP (by omega) hk (Nat.lt_of_not_le fun q => hno ⟨k, by omega, q, rfl⟩)]
    · rw [e_X11_lustra]
      dsimp only
      rw [r_within, hw1, tbI_v, tn0]
