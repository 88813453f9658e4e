/-! PURE: told lines judged -/
noncomputable def lnM (pr : mP) (s : mS) (l : Nat → Nat) : Prop := if l 0 = 0 then mayBid pr s (l 1) (l 2) else if l 0 = 1 then mayAward pr s else if l 0 = 2 then mayYear pr s (l 1) else if l 0 = 3 then mayTake pr s (l 1) (l 2) else if l 0 = 4 then mayLend pr s (l 1) (l 2) else if l 0 = 5 then mayCall pr s (l 1) (l 2) else if l 0 = 6 then maySpare pr s (l 1) else if l 0 = 7 then mayBribe pr s (l 1) else if l 0 = 8 then s.1 10 0 ≠ 0 else mayClose s
noncomputable def lnF (pr : mP) (lw : mL) (s : mS) (l : Nat → Nat) : mS := if l 0 = 0 then fBid s (l 1) (l 2) else if l 0 = 1 then fAward pr s else if l 0 = 2 then fYear pr lw s (l 1) else if l 0 = 3 then fTake pr s (l 1) (l 2) else if l 0 = 4 then fLend s (l 1) (l 2) else if l 0 = 5 then fCall s (l 1) (l 2) else if l 0 = 6 then fSpare pr lw s (l 1) else if l 0 = 7 then fBribe pr s (l 1) else if l 0 = 8 then fSue pr s else fClose s
noncomputable def lnD (pr : mP) (lw : mL) (s : mS) (l : Nat → Nat) : mS := @ite mS (lnM pr s l) (Classical.propDecidable _) (lnF pr lw s l) s
theorem lnD_1 {pr : mP} {lw : mL} {s : mS} {l : Nat → Nat} (h : lnM pr s l) : lnD pr lw s l = lnF pr lw s l := if_pos h
theorem lnD_0 {pr : mP} {lw : mL} {s : mS} {l : Nat → Nat} (h : ¬ lnM pr s l) : lnD pr lw s l = s := if_neg h
theorem lnM_0 {pr : mP} {s : mS} {l : Nat → Nat} (h : l 0 = 0) : lnM pr s l = (mayBid pr s (l 1) (l 2)) := by unfold lnM; rw [if_pos h]
theorem lnF_0 {pr : mP} {lw : mL} {s : mS} {l : Nat → Nat} (h : l 0 = 0) : lnF pr lw s l = fBid s (l 1) (l 2) := by unfold lnF; rw [if_pos h]
theorem lnM_1 {pr : mP} {s : mS} {l : Nat → Nat} (h : l 0 = 1) : lnM pr s l = (mayAward pr s) := by unfold lnM; rw [if_neg (show ¬ l 0 = 0 by omega), if_pos h]
theorem lnF_1 {pr : mP} {lw : mL} {s : mS} {l : Nat → Nat} (h : l 0 = 1) : lnF pr lw s l = fAward pr s := by unfold lnF; rw [if_neg (show ¬ l 0 = 0 by omega), if_pos h]
theorem lnM_2 {pr : mP} {s : mS} {l : Nat → Nat} (h : l 0 = 2) : lnM pr s l = (mayYear pr s (l 1)) := by unfold lnM; rw [if_neg (show ¬ l 0 = 0 by omega), if_neg (show ¬ l 0 = 1 by omega), if_pos h]
theorem lnF_2 {pr : mP} {lw : mL} {s : mS} {l : Nat → Nat} (h : l 0 = 2) : lnF pr lw s l = fYear pr lw s (l 1) := by unfold lnF; rw [if_neg (show ¬ l 0 = 0 by omega), if_neg (show ¬ l 0 = 1 by omega), if_pos h]
theorem lnM_3 {pr : mP} {s : mS} {l : Nat → Nat} (h : l 0 = 3) : lnM pr s l = (mayTake pr s (l 1) (l 2)) := by unfold lnM; rw [if_neg (show ¬ l 0 = 0 by omega), if_neg (show ¬ l 0 = 1 by omega), if_neg (show ¬ l 0 = 2 by omega), if_pos h]
theorem lnF_3 {pr : mP} {lw : mL} {s : mS} {l : Nat → Nat} (h : l 0 = 3) : lnF pr lw s l = fTake pr s (l 1) (l 2) := by unfold lnF; rw [if_neg (show ¬ l 0 = 0 by omega), if_neg (show ¬ l 0 = 1 by omega), if_neg (show ¬ l 0 = 2 by omega), if_pos h]
theorem lnM_4 {pr : mP} {s : mS} {l : Nat → Nat} (h : l 0 = 4) : lnM pr s l = (mayLend pr s (l 1) (l 2)) := by unfold lnM; rw [if_neg (show ¬ l 0 = 0 by omega), if_neg (show ¬ l 0 = 1 by omega), if_neg (show ¬ l 0 = 2 by omega), if_neg (show ¬ l 0 = 3 by omega), if_pos h]
theorem lnF_4 {pr : mP} {lw : mL} {s : mS} {l : Nat → Nat} (h : l 0 = 4) : lnF pr lw s l = fLend s (l 1) (l 2) := by unfold lnF; rw [if_neg (show ¬ l 0 = 0 by omega), if_neg (show ¬ l 0 = 1 by omega), if_neg (show ¬ l 0 = 2 by omega), if_neg (show ¬ l 0 = 3 by omega), if_pos h]
theorem lnM_5 {pr : mP} {s : mS} {l : Nat → Nat} (h : l 0 = 5) : lnM pr s l = (mayCall pr s (l 1) (l 2)) := by unfold lnM; rw [if_neg (show ¬ l 0 = 0 by omega), if_neg (show ¬ l 0 = 1 by omega), if_neg (show ¬ l 0 = 2 by omega), if_neg (show ¬ l 0 = 3 by omega), if_neg (show ¬ l 0 = 4 by omega), if_pos h]
theorem lnF_5 {pr : mP} {lw : mL} {s : mS} {l : Nat → Nat} (h : l 0 = 5) : lnF pr lw s l = fCall s (l 1) (l 2) := by unfold lnF; rw [if_neg (show ¬ l 0 = 0 by omega), if_neg (show ¬ l 0 = 1 by omega), if_neg (show ¬ l 0 = 2 by omega), if_neg (show ¬ l 0 = 3 by omega), if_neg (show ¬ l 0 = 4 by omega), if_pos h]
theorem lnM_6 {pr : mP} {s : mS} {l : Nat → Nat} (h : l 0 = 6) : lnM pr s l = (maySpare pr s (l 1)) := by unfold lnM; rw [if_neg (show ¬ l 0 = 0 by omega), if_neg (show ¬ l 0 = 1 by omega), if_neg (show ¬ l 0 = 2 by omega), if_neg (show ¬ l 0 = 3 by omega), if_neg (show ¬ l 0 = 4 by omega), if_neg (show ¬ l 0 = 5 by omega), if_pos h]
theorem lnF_6 {pr : mP} {lw : mL} {s : mS} {l : Nat → Nat} (h : l 0 = 6) : lnF pr lw s l = fSpare pr lw s (l 1) := by unfold lnF; rw [if_neg (show ¬ l 0 = 0 by omega), if_neg (show ¬ l 0 = 1 by omega), if_neg (show ¬ l 0 = 2 by omega), if_neg (show ¬ l 0 = 3 by omega), if_neg (show ¬ l 0 = 4 by omega), if_neg (show ¬ l 0 = 5 by omega), if_pos h]
theorem lnM_7 {pr : mP} {s : mS} {l : Nat → Nat} (h : l 0 = 7) : lnM pr s l = (mayBribe pr s (l 1)) := by unfold lnM; rw [if_neg (show ¬ l 0 = 0 by omega), if_neg (show ¬ l 0 = 1 by omega), if_neg (show ¬ l 0 = 2 by omega), if_neg (show ¬ l 0 = 3 by omega), if_neg (show ¬ l 0 = 4 by omega), if_neg (show ¬ l 0 = 5 by omega), if_neg (show ¬ l 0 = 6 by omega), if_pos h]
theorem lnF_7 {pr : mP} {lw : mL} {s : mS} {l : Nat → Nat} (h : l 0 = 7) : lnF pr lw s l = fBribe pr s (l 1) := by unfold lnF; rw [if_neg (show ¬ l 0 = 0 by omega), if_neg (show ¬ l 0 = 1 by omega), if_neg (show ¬ l 0 = 2 by omega), if_neg (show ¬ l 0 = 3 by omega), if_neg (show ¬ l 0 = 4 by omega), if_neg (show ¬ l 0 = 5 by omega), if_neg (show ¬ l 0 = 6 by omega), if_pos h]
theorem lnM_8 {pr : mP} {s : mS} {l : Nat → Nat} (h : l 0 = 8) : lnM pr s l = (s.1 10 0 ≠ 0) := by unfold lnM; rw [if_neg (show ¬ l 0 = 0 by omega), if_neg (show ¬ l 0 = 1 by omega), if_neg (show ¬ l 0 = 2 by omega), if_neg (show ¬ l 0 = 3 by omega), if_neg (show ¬ l 0 = 4 by omega), if_neg (show ¬ l 0 = 5 by omega), if_neg (show ¬ l 0 = 6 by omega), if_neg (show ¬ l 0 = 7 by omega), if_pos h]
theorem lnF_8 {pr : mP} {lw : mL} {s : mS} {l : Nat → Nat} (h : l 0 = 8) : lnF pr lw s l = fSue pr s := by unfold lnF; rw [if_neg (show ¬ l 0 = 0 by omega), if_neg (show ¬ l 0 = 1 by omega), if_neg (show ¬ l 0 = 2 by omega), if_neg (show ¬ l 0 = 3 by omega), if_neg (show ¬ l 0 = 4 by omega), if_neg (show ¬ l 0 = 5 by omega), if_neg (show ¬ l 0 = 6 by omega), if_neg (show ¬ l 0 = 7 by omega), if_pos h]
theorem lnM_9 {pr : mP} {s : mS} {l : Nat → Nat} (h : l 0 = 9) : lnM pr s l = (mayClose s) := by unfold lnM; rw [if_neg (show ¬ l 0 = 0 by omega), if_neg (show ¬ l 0 = 1 by omega), if_neg (show ¬ l 0 = 2 by omega), if_neg (show ¬ l 0 = 3 by omega), if_neg (show ¬ l 0 = 4 by omega), if_neg (show ¬ l 0 = 5 by omega), if_neg (show ¬ l 0 = 6 by omega), if_neg (show ¬ l 0 = 7 by omega), if_neg (show ¬ l 0 = 8 by omega)]
theorem lnF_9 {pr : mP} {lw : mL} {s : mS} {l : Nat → Nat} (h : l 0 = 9) : lnF pr lw s l = fClose s := by unfold lnF; rw [if_neg (show ¬ l 0 = 0 by omega), if_neg (show ¬ l 0 = 1 by omega), if_neg (show ¬ l 0 = 2 by omega), if_neg (show ¬ l 0 = 3 by omega), if_neg (show ¬ l 0 = 4 by omega), if_neg (show ¬ l 0 = 5 by omega), if_neg (show ¬ l 0 = 6 by omega), if_neg (show ¬ l 0 = 7 by omega), if_neg (show ¬ l 0 = 8 by omega)]
theorem ok_ln {pr : mP} {lw : mL} {s : mS} {l : Nat → Nat} (ho : okP pr) (hs : okS pr s) (hl : okL pr l) : okS pr (lnD pr lw s l) := by
  by_cases hm : lnM pr s l
  · rw [lnD_1 hm]
    have h9 := hl.1
    rcases (show l 0 = 0 ∨ l 0 = 1 ∨ l 0 = 2 ∨ l 0 = 3 ∨ l 0 = 4 ∨ l 0 = 5 ∨ l 0 = 6 ∨ l 0 = 7 ∨ l 0 = 8 ∨ l 0 = 9 by omega) with h | h | h | h | h | h | h | h | h | h
    · rw [lnM_0 h] at hm; rw [lnF_0 h]; exact ok_bid hs hm.2.2.1
    · rw [lnM_1 h] at hm; rw [lnF_1 h]; exact ok_award hs hm
    · rw [lnM_2 h] at hm; rw [lnF_2 h]; exact ok_year hs hm
    · rw [lnM_3 h] at hm; rw [lnF_3 h]; exact ok_take ho hs hm
    · rw [lnM_4 h] at hm; rw [lnF_4 h]; exact ok_lend hs
    · rw [lnM_5 h] at hm; rw [lnF_5 h]; exact ok_call hs
    · rw [lnM_6 h] at hm; rw [lnF_6 h]; exact ok_spare hs
    · rw [lnM_7 h] at hm; rw [lnF_7 h]; exact ok_bribe hs
    · rw [lnM_8 h] at hm; rw [lnF_8 h]; exact ok_sue hs
    · rw [lnM_9 h] at hm; rw [lnF_9 h]; exact ok_close hs
  · rw [lnD_0 hm]; exact hs
theorem c_play {G : tH} {o p : Nat} {pr : mP} {lw : mL} {s : mS} {l : Nat → Nat} (hP : cP G p pr) (ho : okP pr) (hS : cS G o p pr s) (hs : okS pr s) (hL0 : cL G (2 * p + 0) (lw 0)) (hL1 : cL G (2 * p + 1) (lw 1)) (hl : okL pr l) :
    ∃ G', V_X4_play o (nI (l 0)) (nI (l 1)) (nI (l 2)) G = some (some (vI (bN (lnM pr s l))), G') ∧ cS G' o p pr (lnD pr lw s l) ∧ tfr (zS o) G G' := by
  have h9 := hl.1
  have hv := hl.2.1
  have hT6 := ho.1
  have hC5 := ho.2.1
  have hH5 := ho.2.2.1
  have hJ5 := ho.2.2.2.1
  rw [e_X4_play]
  rcases (show l 0 = 0 ∨ l 0 = 1 ∨ l 0 = 2 ∨ l 0 = 3 ∨ l 0 = 4 ∨ l 0 = 5 ∨ l 0 = 6 ∨ l 0 = 7 ∨ l 0 = 8 ∨ l 0 = 9 by omega) with h | h | h | h | h | h | h | h | h | h
  · rw [h, tif_pos rfl]
    by_cases hm : lnM pr s l
    · rw [lnD_1 hm, bN_1 hm, lnF_0 h]
      rw [lnM_0 h] at hm
      obtain ⟨G2, e2, s2, f2⟩ := c_bid hP ho hS hs hm
      refine ⟨G2, ?_, s2, f2⟩
      rw [e2, tbI_v, tz1]
    · rw [lnD_0 hm, bN_0 hm]
      rw [lnM_0 h] at hm
      refine ⟨G, ?_, hS, tfr.rf⟩
      rw [n_bid hP ho hS hs (fun t x e e2 hq => hm (by have hb := hl.2.2.1 h; have ht := hq.2.1; have hx := hq.2.2.1; rw [nI_inj (a := l 1) (b := t) (by omega) (by omega) e, nI_inj (a := l 2) (b := x) (by omega) (by omega) e2]; exact hq)), tbI_v, tz0]
  · rw [h, teqM (a := 1) (b := 0) (by omega) (by omega) (by omega), tif_pos rfl]
    by_cases hm : lnM pr s l
    · rw [lnD_1 hm, bN_1 hm, lnF_1 h]
      rw [lnM_1 h] at hm
      obtain ⟨G2, e2, s2, f2⟩ := c_award hP ho hS hs hm
      refine ⟨G2, ?_, s2, f2⟩
      have q : (fAward pr s).1 10 0 < 2 ^ 30 := by
        have := (ok_award hs hm).2.2.2.2.1
        omega
      rw [e2, tbI_v, tif_neg (hI_m2 q), tz1]
    · rw [lnD_0 hm, bN_0 hm]
      rw [lnM_1 h] at hm
      refine ⟨G, ?_, hS, tfr.rf⟩
      rw [n_award hP ho hS hs hm, tbI_v, tif_pos rfl, tz0]
  · rw [h, teqM (a := 2) (b := 0) (by omega) (by omega) (by omega), teqM (a := 2) (b := 1) (by omega) (by omega) (by omega), tif_pos rfl]
    by_cases hm : lnM pr s l
    · rw [lnD_1 hm, bN_1 hm, lnF_2 h]
      rw [lnM_2 h] at hm
      obtain ⟨G2, e2, s2, f2⟩ := c_year hP ho hS hs hL1 hm
      refine ⟨G2, ?_, s2, f2⟩
      have hbd : sumN (yC pr s (l 1)) (nT pr) < 2 ^ 31 := by
        have q1 := sumN_le (f := yC pr s (l 1)) (M := 9999) (nT pr) fun i _ => yC_le pr s (l 1) i
        have q2 := Nat.mul_le_mul_right 9999 ho.1
        omega
      rw [e2, tbI_v, teqm1 hbd, tz1]
    · rw [lnD_0 hm, bN_0 hm]
      rw [lnM_2 h] at hm
      refine ⟨G, ?_, hS, tfr.rf⟩
      rw [n_year hP ho hS hs (fun t e hq => hm (by have hb := hl.2.2.2.1 h; have ht := hq.2.2; rw [nI_inj (a := l 1) (b := t) (by omega) (by omega) e]; exact hq)), tbI_v, tif_pos rfl, tz0]
  · rw [h, teqM (a := 3) (b := 0) (by omega) (by omega) (by omega), teqM (a := 3) (b := 1) (by omega) (by omega) (by omega), teqM (a := 3) (b := 2) (by omega) (by omega) (by omega), tif_pos rfl]
    by_cases hm : lnM pr s l
    · rw [lnD_1 hm, bN_1 hm, lnF_3 h]
      rw [lnM_3 h] at hm
      obtain ⟨G2, e2, s2, f2⟩ := c_take hP ho hS hs hm
      refine ⟨G2, ?_, s2, f2⟩
      have hbd : aTake pr s (l 1) (l 2) < 2 ^ 31 := by
        have q := hs.1 _ hm.2.1
        have := hm.2.2.2.2.1
        unfold aTake
        omega
      rw [e2, tbI_v, teqm1 hbd, tz1]
    · rw [lnD_0 hm, bN_0 hm]
      rw [lnM_3 h] at hm
      refine ⟨G, ?_, hS, tfr.rf⟩
      rw [n_take hP ho hS hs (fun t x e e2 hq => hm (by have hb := (hl.2.2.2.2.1 (by omega) (by omega)).1; have ht := hq.2.1; have hx := hq.2.2.2.2.1; rw [nI_inj (a := l 1) (b := t) (by omega) (by omega) e, nI_inj (a := l 2) (b := x) (by omega) (by omega) e2]; exact hq)), tbI_v, tif_pos rfl, tz0]
  · rw [h, teqM (a := 4) (b := 0) (by omega) (by omega) (by omega), teqM (a := 4) (b := 1) (by omega) (by omega) (by omega), teqM (a := 4) (b := 2) (by omega) (by omega) (by omega), teqM (a := 4) (b := 3) (by omega) (by omega) (by omega), tif_pos rfl]
    by_cases hm : lnM pr s l
    · rw [lnD_1 hm, bN_1 hm, lnF_4 h]
      rw [lnM_4 h] at hm
      obtain ⟨G2, e2, s2, f2⟩ := c_lend hP ho hS hs hm
      refine ⟨G2, ?_, s2, f2⟩
      have hbd : min 9999 (s.1 5 (l 1) + l 2) < 2 ^ 31 := by omega
      rw [e2, tbI_v, teqm1 hbd, tz1]
    · rw [lnD_0 hm, bN_0 hm]
      rw [lnM_4 h] at hm
      refine ⟨G, ?_, hS, tfr.rf⟩
      rw [n_lend hP ho hS hs (fun t x e e2 hq => hm (by have hb := (hl.2.2.2.2.1 (by omega) (by omega)).1; have ht := hq.2.1; have hx := hq.2.2.2.1; rw [nI_inj (a := l 1) (b := t) (by omega) (by omega) e, nI_inj (a := l 2) (b := x) (by omega) (by omega) e2]; exact hq)), tbI_v, tif_pos rfl, tz0]
  · rw [h, teqM (a := 5) (b := 0) (by omega) (by omega) (by omega), teqM (a := 5) (b := 1) (by omega) (by omega) (by omega), teqM (a := 5) (b := 2) (by omega) (by omega) (by omega), teqM (a := 5) (b := 3) (by omega) (by omega) (by omega), teqM (a := 5) (b := 4) (by omega) (by omega) (by omega), tif_pos rfl]
    by_cases hm : lnM pr s l
    · rw [lnD_1 hm, bN_1 hm, lnF_5 h]
      rw [lnM_5 h] at hm
      obtain ⟨G2, e2, s2, f2⟩ := c_call hP ho hS hs hm
      refine ⟨G2, ?_, s2, f2⟩
      have hbd : s.1 5 (l 1) - l 2 < 2 ^ 31 := by
        have q := hs.1 _ hm.2.1
        omega
      rw [e2, tbI_v, teqm1 hbd, tz1]
    · rw [lnD_0 hm, bN_0 hm]
      rw [lnM_5 h] at hm
      refine ⟨G, ?_, hS, tfr.rf⟩
      rw [n_call hP ho hS hs (fun t x e e2 hq => hm (by have hb := (hl.2.2.2.2.1 (by omega) (by omega)).1; have ht := hq.2.1; have hx := (show x ≤ 9999 by have h1 := hq.2.2.2.1; have h2 := (hs.1 t hq.2.1).2.2.2; omega); rw [nI_inj (a := l 1) (b := t) (by omega) (by omega) e, nI_inj (a := l 2) (b := x) (by omega) (by omega) e2]; exact hq)), tbI_v, tif_pos rfl, tz0]
  · rw [h, teqM (a := 6) (b := 0) (by omega) (by omega) (by omega), teqM (a := 6) (b := 1) (by omega) (by omega) (by omega), teqM (a := 6) (b := 2) (by omega) (by omega) (by omega), teqM (a := 6) (b := 3) (by omega) (by omega) (by omega), teqM (a := 6) (b := 4) (by omega) (by omega) (by omega), teqM (a := 6) (b := 5) (by omega) (by omega) (by omega), tif_pos rfl]
    by_cases hm : lnM pr s l
    · rw [lnD_1 hm, bN_1 hm, lnF_6 h]
      rw [lnM_6 h] at hm
      obtain ⟨G2, e2, s2, f2⟩ := c_spare hP ho hS hs hL0 hm
      refine ⟨G2, ?_, s2, f2⟩
      have hbd : gftN pr lw s (l 1) < 2 ^ 31 := by
        have q := hs.1 _ hm.2.1
        have := gftN_le (pr := pr) (lw := lw) (sg := s) (t := l 1)
        omega
      rw [e2, tbI_v, teqm1 hbd, tz1]
    · rw [lnD_0 hm, bN_0 hm]
      rw [lnM_6 h] at hm
      refine ⟨G, ?_, hS, tfr.rf⟩
      rw [n_spare hP ho hS hs (fun t e hq => hm (by have hb := hl.2.2.2.2.2.1 h; have ht := hq.2.1; rw [nI_inj (a := l 1) (b := t) (by omega) (by omega) e]; exact hq)), tbI_v, tif_pos rfl, tz0]
  · rw [h, teqM (a := 7) (b := 0) (by omega) (by omega) (by omega), teqM (a := 7) (b := 1) (by omega) (by omega) (by omega), teqM (a := 7) (b := 2) (by omega) (by omega) (by omega), teqM (a := 7) (b := 3) (by omega) (by omega) (by omega), teqM (a := 7) (b := 4) (by omega) (by omega) (by omega), teqM (a := 7) (b := 5) (by omega) (by omega) (by omega), teqM (a := 7) (b := 6) (by omega) (by omega) (by omega), tif_pos rfl]
    by_cases hm : lnM pr s l
    · rw [lnD_1 hm, bN_1 hm, lnF_7 h]
      rw [lnM_7 h] at hm
      obtain ⟨G2, e2, s2, f2⟩ := c_bribe hP ho hS hs hm
      refine ⟨G2, ?_, s2, f2⟩
      rw [e2, tbI_v, tz1]
    · rw [lnD_0 hm, bN_0 hm]
      rw [lnM_7 h] at hm
      refine ⟨G, ?_, hS, tfr.rf⟩
      rw [n_bribe hP ho hS hs (fun t e hq => hm (by have hb := hl.2.2.2.2.2.2 h; have ht := hq.2.1; rw [nI_inj (a := l 1) (b := t) (by omega) (by omega) e]; exact hq)), tbI_v, tz0]
  · rw [h, teqM (a := 8) (b := 0) (by omega) (by omega) (by omega), teqM (a := 8) (b := 1) (by omega) (by omega) (by omega), teqM (a := 8) (b := 2) (by omega) (by omega) (by omega), teqM (a := 8) (b := 3) (by omega) (by omega) (by omega), teqM (a := 8) (b := 4) (by omega) (by omega) (by omega), teqM (a := 8) (b := 5) (by omega) (by omega) (by omega), teqM (a := 8) (b := 6) (by omega) (by omega) (by omega), teqM (a := 8) (b := 7) (by omega) (by omega) (by omega), tif_pos rfl]
    by_cases hm : lnM pr s l
    · rw [lnD_1 hm, bN_1 hm, lnF_8 h]
      rw [lnM_8 h] at hm
      obtain ⟨G2, e2, s2, f2⟩ := c_sue hP ho hS hs hm
      refine ⟨G2, ?_, s2, f2⟩
      have hbd : (if 2 * cntN pr s < nJ pr then 0 else 1) < 2 ^ 31 := by split <;> omega
      rw [e2, tbI_v, teqm1 hbd, tz1]
    · rw [lnD_0 hm, bN_0 hm]
      rw [lnM_8 h] at hm
      refine ⟨G, ?_, hS, tfr.rf⟩
      rw [n_sue hP ho hS hs (Classical.byContradiction hm), tbI_v, tif_pos rfl, tz0]
  · rw [h, teqM (a := 9) (b := 0) (by omega) (by omega) (by omega), teqM (a := 9) (b := 1) (by omega) (by omega) (by omega), teqM (a := 9) (b := 2) (by omega) (by omega) (by omega), teqM (a := 9) (b := 3) (by omega) (by omega) (by omega), teqM (a := 9) (b := 4) (by omega) (by omega) (by omega), teqM (a := 9) (b := 5) (by omega) (by omega) (by omega), teqM (a := 9) (b := 6) (by omega) (by omega) (by omega), teqM (a := 9) (b := 7) (by omega) (by omega) (by omega), teqM (a := 9) (b := 8) (by omega) (by omega) (by omega)]
    by_cases hm : lnM pr s l
    · rw [lnD_1 hm, bN_1 hm, lnF_9 h]
      rw [lnM_9 h] at hm
      obtain ⟨G2, e2, s2, f2⟩ := c_close hP ho hS hs hm
      refine ⟨G2, ?_, s2, f2⟩
      rw [e2, tbI_v, tz1]
    · rw [lnD_0 hm, bN_0 hm]
      rw [lnM_9 h] at hm
      refine ⟨G, ?_, hS, tfr.rf⟩
      rw [n_close hP ho hS hs hm, tbI_v, tz0]
noncomputable def lnS (pr : mP) (lw : mL) (L : Nat → Nat → Nat) : Nat → mS
  | 0 => fBegin pr
  | n + 1 => lnD pr lw (lnS pr lw L n) (L n)
noncomputable def lnW (pr : mP) (lw : mL) (L : Nat → Nat → Nat) : Nat → Nat
  | 0 => 0
  | n + 1 => @ite Nat (lnM pr (lnS pr lw L n) (L n)) (Classical.propDecidable _) (lnW pr lw L n) (if lnW pr lw L n = 0 then n + 1 else lnW pr lw L n)
theorem lnW_1 {pr : mP} {lw : mL} {L : Nat → Nat → Nat} {n : Nat} (h : lnM pr (lnS pr lw L n) (L n)) : lnW pr lw L (n + 1) = lnW pr lw L n := if_pos h
theorem lnW_0 {pr : mP} {lw : mL} {L : Nat → Nat → Nat} {n : Nat} (h : ¬ lnM pr (lnS pr lw L n) (L n)) : lnW pr lw L (n + 1) = if lnW pr lw L n = 0 then n + 1 else lnW pr lw L n := if_neg h
theorem lnW_le (pr : mP) (lw : mL) (L : Nat → Nat → Nat) : ∀ n, lnW pr lw L n ≤ n
  | 0 => Nat.le_refl _
  | n + 1 => by
    have := lnW_le pr lw L n
    by_cases h : lnM pr (lnS pr lw L n) (L n)
    · rw [lnW_1 h]; omega
    · rw [lnW_0 h]; split <;> omega
theorem ok_lnS {pr : mP} {lw : mL} {L : Nat → Nat → Nat} (ho : okP pr) : ∀ n, (∀ i, i < n → okL pr (L i)) → okS pr (lnS pr lw L n)
  | 0, _ => ok_begin ho
  | n + 1, h => ok_ln ho (ok_lnS ho n fun i hi => h i (by omega)) (h n (by omega))
theorem hI_sel {w n : Nat} (hw : w ≤ n) (hn : n < 2 ^ 30) : (if hI w = -1 then nI n else hI w) = hI (if w = 0 then n + 1 else w) := by
  by_cases h : w = 0
  · rw [h, if_pos hI_0, if_pos rfl, hI_pos (by omega)]; rfl
  · rw [if_neg (by rw [hI_pos h]; exact m1_ne (by omega)), if_neg h]
theorem c_playAll {G : tH} {o p q : Nat} {pr : mP} {lw : mL} {ν : Nat → Nat} {L : Nat → Nat → Nat} (ho : okP pr) (hP : cP G p pr) (hS : cS G o p pr (fBegin pr)) (hL0 : cL G (2 * p + 0) (lw 0)) (hL1 : cL G (2 * p + 1) (lw 1)) (h3 : C3 G q ν L) (h40 : ν 2 ≤ 40) (hl : ∀ i, i < ν 2 → okL pr (L i)) :
    ∃ G', V_X4_playAll q o G = some (some (vI (hI (lnW pr lw L (ν 2)))), G') ∧ cS G' o p pr (lnS pr lw L (ν 2)) ∧ tfr (zS o) G G' := by
  rw [e_X4_playAll]
  have key : ∀ n i G1, i + n = ν 2 → tfr (zS o) G G1 → cS G1 o p pr (lnS pr lw L i) → ∃ G', V_X4_playAll_4 q o (hI (lnW pr lw L i)) (nI i) G1 = some (some (vI (hI (lnW pr lw L (ν 2)))), G') ∧ cS G' o p pr (lnS pr lw L (ν 2)) ∧ tfr (zS o) G G' := by
    intro n
    induction n with
    | zero =>
      intro i G1 hi f1 s1
      have : i = ν 2 := by omega
      subst this
      have h3' := h3.kept f1 fun f o z => by unfold zS at z; omega
      refine ⟨G1, ?_, s1, f1⟩
      rw [e_X4_playAll_4, h3'.2.2.2.1, tltM (by omega) (by omega) (by omega)]
    | succ n ih =>
      intro i G1 hi f1 s1
      have h3' := h3.kept f1 fun f o z => by unfold zS at z; omega
      obtain ⟨k1, k2, k3⟩ := h3'.2.2.2.2 i (by omega)
      have hlw := lnW_le pr lw L i
      obtain ⟨G2, e2, s2, f2⟩ := c_play (l := L i) (hP.kept f1 zS_p) ho s1 (ok_lnS ho i fun j hj => hl j (by omega)) (hL0.kept f1 (by unfold zS; omega) (by unfold zS; omega)) (hL1.kept f1 (by unfold zS; omega) (by unfold zS; omega)) (hl i (by omega))
      have h2 := ih (i + 1) G2 (by omega) (f1.tr f2) s2
      rw [e_X4_playAll_4, h3'.2.2.2.1, tltP (by omega) (by omega) (by omega), ttin (by omega) (by omega), ttin (by omega) (by omega), ttin (by omega) (by omega), nI_clamp (by omega), k1, k2, k3, e2, tbI_v, nI_add]
      by_cases hm : lnM pr (lnS pr lw L i) (L i)
      · rw [bN_1 hm, tn1]
        rw [lnW_1 hm] at h2
        exact h2
      · rw [bN_0 hm, tn0]
        rw [lnW_0 hm, ← hI_sel hlw (by omega)] at h2
        by_cases hq : hI (lnW pr lw L i) = -1
        · rw [tif_pos hq]; rw [if_pos hq] at h2; exact h2
        · rw [tif_neg hq]; rw [if_neg hq] at h2; exact h2
  exact key (ν 2) 0 G (by omega) tfr.rf hS

theorem bN_nar (c : Prop) {a b : Option tRes} : tif (vp_nar .boolean (bN c) = bN c) a b = a := by
  by_cases h : c
  · rw [bN_1 h]; exact tz1
  · rw [bN_0 h]; exact tz0
theorem r_mayDo {G : tH} {pr : mP} {s : mS} {l : Nat → Nat} (hP : rP G pr) (ho : okP pr) (hS : rS (gA G 1124 0) 1281 pr s) (hs : okS pr s) (hl : okL pr l) : V_X11_mayDo (nI (l 0)) (nI (l 1)) (nI (l 2)) G = some (some (vI (bN (lnM pr s l))), G) := by
  have h9 := hl.1
  have hb : 1281 + 61 ≤ 1403 := by omega
  rw [e_X11_mayDo]
  rcases (show l 0 = 0 ∨ l 0 = 1 ∨ l 0 = 2 ∨ l 0 = 3 ∨ l 0 = 4 ∨ l 0 = 5 ∨ l 0 = 6 ∨ l 0 = 7 ∨ l 0 = 8 ∨ l 0 = 9 by omega) with h | h | h | h | h | h | h | h | h | h
  · rw [lnM_0 h, h, tif_pos rfl, r_mayBid hP ho hS hs hb (hl.2.2.1 h) hl.2.1, tbI_v, bN_nar]
  · rw [lnM_1 h, h, teqM (a := 1) (b := 0) (by omega) (by omega) (by omega), tif_pos rfl, r_mayAward hP ho hS hs hb, tbI_v, bN_nar]
  · rw [lnM_2 h, h, teqM (a := 2) (b := 0) (by omega) (by omega) (by omega), teqM (a := 2) (b := 1) (by omega) (by omega) (by omega), tif_pos rfl, r_mayYear hP ho hS hs hb (hl.2.2.2.1 h), tbI_v, bN_nar]
  · rw [lnM_3 h, h, teqM (a := 3) (b := 0) (by omega) (by omega) (by omega), teqM (a := 3) (b := 1) (by omega) (by omega) (by omega), teqM (a := 3) (b := 2) (by omega) (by omega) (by omega), tif_pos rfl, r_mayTake hP ho hS hs hb (hl.2.2.2.2.1 (by omega) (by omega)).1 hl.2.1, tbI_v, bN_nar]
  · rw [lnM_4 h, h, teqM (a := 4) (b := 0) (by omega) (by omega) (by omega), teqM (a := 4) (b := 1) (by omega) (by omega) (by omega), teqM (a := 4) (b := 2) (by omega) (by omega) (by omega), teqM (a := 4) (b := 3) (by omega) (by omega) (by omega), tif_pos rfl, r_mayLend hP ho hS hs hb (hl.2.2.2.2.1 (by omega) (by omega)).1 (hl.2.2.2.2.1 (by omega) (by omega)).2 hl.2.1, tbI_v, bN_nar]
  · rw [lnM_5 h, h, teqM (a := 5) (b := 0) (by omega) (by omega) (by omega), teqM (a := 5) (b := 1) (by omega) (by omega) (by omega), teqM (a := 5) (b := 2) (by omega) (by omega) (by omega), teqM (a := 5) (b := 3) (by omega) (by omega) (by omega), teqM (a := 5) (b := 4) (by omega) (by omega) (by omega), tif_pos rfl, r_mayCall hP ho hS hs hb (hl.2.2.2.2.1 (by omega) (by omega)).1 (hl.2.2.2.2.1 (by omega) (by omega)).2 (by have := hl.2.1; omega), tbI_v, bN_nar]
  · rw [lnM_6 h, h, teqM (a := 6) (b := 0) (by omega) (by omega) (by omega), teqM (a := 6) (b := 1) (by omega) (by omega) (by omega), teqM (a := 6) (b := 2) (by omega) (by omega) (by omega), teqM (a := 6) (b := 3) (by omega) (by omega) (by omega), teqM (a := 6) (b := 4) (by omega) (by omega) (by omega), teqM (a := 6) (b := 5) (by omega) (by omega) (by omega), tif_pos rfl, r_maySpare hP ho hS hs hb (hl.2.2.2.2.2.1 h), tbI_v, bN_nar]
  · rw [lnM_7 h, h, teqM (a := 7) (b := 0) (by omega) (by omega) (by omega), teqM (a := 7) (b := 1) (by omega) (by omega) (by omega), teqM (a := 7) (b := 2) (by omega) (by omega) (by omega), teqM (a := 7) (b := 3) (by omega) (by omega) (by omega), teqM (a := 7) (b := 4) (by omega) (by omega) (by omega), teqM (a := 7) (b := 5) (by omega) (by omega) (by omega), teqM (a := 7) (b := 6) (by omega) (by omega) (by omega), tif_pos rfl, r_mayBribe hP ho hS hs hb (hl.2.2.2.2.2.2 h), tbI_v, bN_nar]
  · rw [lnM_8 h, h, teqM (a := 8) (b := 0) (by omega) (by omega) (by omega), teqM (a := 8) (b := 1) (by omega) (by omega) (by omega), teqM (a := 8) (b := 2) (by omega) (by omega) (by omega), teqM (a := 8) (b := 3) (by omega) (by omega) (by omega), teqM (a := 8) (b := 4) (by omega) (by omega) (by omega), teqM (a := 8) (b := 5) (by omega) (by omega) (by omega), teqM (a := 8) (b := 6) (by omega) (by omega) (by omega), teqM (a := 8) (b := 7) (by omega) (by omega) (by omega), tif_pos rfl, r_isHeld hS hb ho hs, tbI_v]
    by_cases hq : s.1 10 0 = 0
    · rw [if_pos hq, tz0, bN_0 fun q => q hq]
    · rw [if_neg hq, tz1, bN_1 hq]
  · rw [lnM_9 h, h, teqM (a := 9) (b := 0) (by omega) (by omega) (by omega), teqM (a := 9) (b := 1) (by omega) (by omega) (by omega), teqM (a := 9) (b := 2) (by omega) (by omega) (by omega), teqM (a := 9) (b := 3) (by omega) (by omega) (by omega), teqM (a := 9) (b := 4) (by omega) (by omega) (by omega), teqM (a := 9) (b := 5) (by omega) (by omega) (by omega), teqM (a := 9) (b := 6) (by omega) (by omega) (by omega), teqM (a := 9) (b := 7) (by omega) (by omega) (by omega), teqM (a := 9) (b := 8) (by omega) (by omega) (by omega), r_mayClose hP ho hS hs hb, tbI_v, bN_nar]
theorem r_does {G : tH} {pr : mP} {lw : mL} {s : mS} {l : Nat → Nat} (hP : rP G pr) (ho : okP pr) (hS : rS (gA G 1124 0) 1281 pr s) (hs : okS pr s) (hL0 : rL G 0 (lw 0)) (hL1 : rL G 1 (lw 1)) (hl : okL pr l) (hm : lnM pr s l) : ∃ G', V_X11_does (nI (l 0)) (nI (l 1)) (nI (l 2)) G = some (none, G') ∧ rD G G' 1281 pr (lnF pr lw s l) := by
  have h9 := hl.1
  have hC5 := ho.2.1
  have hb : 1281 + 61 ≤ 1403 := by omega
  rw [e_X11_does]
  rcases (show l 0 = 0 ∨ l 0 = 1 ∨ l 0 = 2 ∨ l 0 = 3 ∨ l 0 = 4 ∨ l 0 = 5 ∨ l 0 = 6 ∨ l 0 = 7 ∨ l 0 = 8 ∨ l 0 = 9 by omega) with h | h | h | h | h | h | h | h | h | h
  · rw [lnM_0 h] at hm
    rw [lnF_0 h, h, tif_pos rfl]
    have hc := hl.2.2.1 h
    refine ⟨_, ?_, r_bids hP ho hS hs hb (x := l 2) hc⟩
    simp (disch := omega) only [nI_add, ttin, nI_clamp]
  · rw [lnM_1 h] at hm
    rw [lnF_1 h, h, teqM (a := 1) (b := 0) (by omega) (by omega) (by omega), tif_pos rfl]
    obtain ⟨G2, e2, d2⟩ := r_awards hP ho hS hs hb hm
    exact ⟨G2, by rw [e2, tbI_v], d2⟩
  · rw [lnM_2 h] at hm
    rw [lnF_2 h, h, teqM (a := 2) (b := 0) (by omega) (by omega) (by omega), teqM (a := 2) (b := 1) (by omega) (by omega) (by omega), tif_pos rfl]
    obtain ⟨G2, e2, d2⟩ := r_yearBy hP ho hS hs hb hL1 hm
    exact ⟨G2, by rw [e2, tbI_v], d2⟩
  · rw [lnM_3 h] at hm
    rw [lnF_3 h, h, teqM (a := 3) (b := 0) (by omega) (by omega) (by omega), teqM (a := 3) (b := 1) (by omega) (by omega) (by omega), teqM (a := 3) (b := 2) (by omega) (by omega) (by omega), tif_pos rfl]
    obtain ⟨G2, e2, d2⟩ := r_takes hP ho hS hs hb hm
    exact ⟨G2, by rw [e2, tbI_v], d2⟩
  · rw [lnM_4 h] at hm
    rw [lnF_4 h, h, teqM (a := 4) (b := 0) (by omega) (by omega) (by omega), teqM (a := 4) (b := 1) (by omega) (by omega) (by omega), teqM (a := 4) (b := 2) (by omega) (by omega) (by omega), teqM (a := 4) (b := 3) (by omega) (by omega) (by omega), tif_pos rfl]
    obtain ⟨G2, e2, d2⟩ := r_lends hP ho hS hs hb hm
    exact ⟨G2, by rw [e2, tbI_v], d2⟩
  · rw [lnM_5 h] at hm
    rw [lnF_5 h, h, teqM (a := 5) (b := 0) (by omega) (by omega) (by omega), teqM (a := 5) (b := 1) (by omega) (by omega) (by omega), teqM (a := 5) (b := 2) (by omega) (by omega) (by omega), teqM (a := 5) (b := 3) (by omega) (by omega) (by omega), teqM (a := 5) (b := 4) (by omega) (by omega) (by omega), tif_pos rfl]
    obtain ⟨G2, e2, d2⟩ := r_calls hP ho hS hs hb hm
    exact ⟨G2, by rw [e2, tbI_v], d2⟩
  · rw [lnM_6 h] at hm
    rw [lnF_6 h, h, teqM (a := 6) (b := 0) (by omega) (by omega) (by omega), teqM (a := 6) (b := 1) (by omega) (by omega) (by omega), teqM (a := 6) (b := 2) (by omega) (by omega) (by omega), teqM (a := 6) (b := 3) (by omega) (by omega) (by omega), teqM (a := 6) (b := 4) (by omega) (by omega) (by omega), teqM (a := 6) (b := 5) (by omega) (by omega) (by omega), tif_pos rfl]
    obtain ⟨G2, e2, d2⟩ := r_spares hP ho hS hs hb hL0 hm
    exact ⟨G2, by rw [e2, tbI_v], d2⟩
  · rw [lnM_7 h] at hm
    rw [lnF_7 h, h, teqM (a := 7) (b := 0) (by omega) (by omega) (by omega), teqM (a := 7) (b := 1) (by omega) (by omega) (by omega), teqM (a := 7) (b := 2) (by omega) (by omega) (by omega), teqM (a := 7) (b := 3) (by omega) (by omega) (by omega), teqM (a := 7) (b := 4) (by omega) (by omega) (by omega), teqM (a := 7) (b := 5) (by omega) (by omega) (by omega), teqM (a := 7) (b := 6) (by omega) (by omega) (by omega), tif_pos rfl]
    obtain ⟨G2, e2, d2⟩ := r_bribes hP ho hS hs hb hm
    exact ⟨G2, by rw [e2, tbV_v], d2⟩
  · rw [lnM_8 h] at hm
    rw [lnF_8 h, h, teqM (a := 8) (b := 0) (by omega) (by omega) (by omega), teqM (a := 8) (b := 1) (by omega) (by omega) (by omega), teqM (a := 8) (b := 2) (by omega) (by omega) (by omega), teqM (a := 8) (b := 3) (by omega) (by omega) (by omega), teqM (a := 8) (b := 4) (by omega) (by omega) (by omega), teqM (a := 8) (b := 5) (by omega) (by omega) (by omega), teqM (a := 8) (b := 6) (by omega) (by omega) (by omega), teqM (a := 8) (b := 7) (by omega) (by omega) (by omega), tif_pos rfl]
    obtain ⟨G2, e2, d2⟩ := r_sues hP ho hS hs hb hm
    exact ⟨G2, by rw [e2, tbI_v], d2⟩
  · rw [lnM_9 h] at hm
    rw [lnF_9 h, h, teqM (a := 9) (b := 0) (by omega) (by omega) (by omega), teqM (a := 9) (b := 1) (by omega) (by omega) (by omega), teqM (a := 9) (b := 2) (by omega) (by omega) (by omega), teqM (a := 9) (b := 3) (by omega) (by omega) (by omega), teqM (a := 9) (b := 4) (by omega) (by omega) (by omega), teqM (a := 9) (b := 5) (by omega) (by omega) (by omega), teqM (a := 9) (b := 6) (by omega) (by omega) (by omega), teqM (a := 9) (b := 7) (by omega) (by omega) (by omega), teqM (a := 9) (b := 8) (by omega) (by omega) (by omega)]
    refine ⟨_, ?_, r_closes hP ho hS hs hb⟩
    simp (disch := omega) only [ttin, nI_clamp]
theorem r_judge {G : tH} {pr : mP} {lw : mL} {ν : Nat → Nat} {L : Nat → Nat → Nat} (ho : okP pr) (hP : rP G pr) (hS : rS (gA G 1124 0) 1281 pr (fBegin pr)) (hL0 : rL G 0 (lw 0)) (hL1 : rL G 1 (lw 1)) (h3 : R3 G ν L) (h40 : ν 2 ≤ 40) (hl : ∀ i, i < ν 2 → okL pr (L i)) {k : Nat} (hk : k ≤ 2) :
    ∃ G', V_X11_judged_28 (nI k) (-1) (nI 0) G = some (some (vI (if k = 0 then hI (lnW pr lw L (ν 2)) else if k = 1 then (lnS pr lw L (ν 2)).2 11 else nI (sumN ((lnS pr lw L (ν 2)).1 1) (nT pr)))), G') ∧ tfr zR G G' ∧ ∀ i, i < 1281 → gA G' 1124 0 i = gA G 1124 0 i := by
  have key : ∀ n i G1, i + n = ν 2 → tfr zR G G1 → (∀ j, j < 1281 → gA G1 1124 0 j = gA G 1124 0 j) → rS (gA G1 1124 0) 1281 pr (lnS pr lw L i) → ∃ G', V_X11_judged_28 (nI k) (hI (lnW pr lw L i)) (nI i) G1 = some (some (vI (if k = 0 then hI (lnW pr lw L (ν 2)) else if k = 1 then (lnS pr lw L (ν 2)).2 11 else nI (sumN ((lnS pr lw L (ν 2)).1 1) (nT pr)))), G') ∧ tfr zR G G' ∧ ∀ i, i < 1281 → gA G' 1124 0 i = gA G 1124 0 i := by
    intro n
    induction n with
    | zero =>
      intro i G1 hi f1 a1 s1
      have : i = ν 2 := by omega
      subst this
      have h3' := h3.kept f1 (by unfold zR; omega)
      refine ⟨G1, ?_, f1, a1⟩
      rw [e_X11_judged_28, ttin (by omega) (by omega), nI_clamp (by omega), h3'.1, tltM (by omega) (by omega) (by omega)]
      rcases (show k = 0 ∨ k = 1 ∨ k = 2 by omega) with rfl | rfl | rfl
      · rw [tn0, if_pos rfl]
      · have := s1.2.2.2.1
        rw [tn1, tif_pos rfl, if_neg (by omega), if_pos rfl, ttin (by omega) (by omega), nI_clamp (by omega), this]
      · rw [tn2, teqM (by omega) (by omega) (by omega), if_neg (by omega), if_neg (by omega), r_meansOf (hP.kept f1 zR_p) ho s1 (ok_lnS ho _ hl) (by omega), tbI_v]
    | succ n ih =>
      intro i G1 hi f1 a1 s1
      have h3' := h3.kept f1 (by unfold zR; omega)
      obtain ⟨k1, k2, k3⟩ := h3'.2 i (by omega)
      have hlw := lnW_le pr lw L i
      have oks := ok_lnS (lw := lw) ho i fun j hj => hl j (by omega)
      rw [e_X11_judged_28]
      simp (disch := omega) only [ttin, nI_clamp, pk_mul, nI_add, h3'.1, tltP, k1, k2, k3]
      rw [r_mayDo (hP.kept f1 zR_p) ho s1 oks (hl i (by omega)), tbI_v]
      by_cases hm : lnM pr (lnS pr lw L i) (L i)
      · rw [bN_1 hm, tn1]
        obtain ⟨G2, e2, d1, d2, d3⟩ := r_does (hP.kept f1 zR_p) ho s1 oks (hL0.kept f1 zR_p zR_1 zR_2) (hL1.kept f1 zR_p zR_1 zR_2) (hl i (by omega)) hm
        have h2 := ih (i + 1) G2 (by omega) (f1.tr d3) (fun j hj => by rw [d2 j (by omega), a1 j hj]) (by rw [lnS, lnD_1 hm]; exact d1)
        simp (disch := omega) only [ttin, nI_clamp, k1, k2, k3]
        rw [e2, tbV_v, e_X11_judged_110, tn1, nI_add]
        rw [lnW_1 hm] at h2
        exact h2
      · rw [bN_0 hm, tn0, e_X11_judged_110, tn0, nI_add]
        have h2 := ih (i + 1) G1 (by omega) f1 a1 (by rw [lnS, lnD_0 hm]; exact s1)
        rw [lnW_0 hm, ← hI_sel hlw (by omega)] at h2
        by_cases hq : lnW pr lw L i = 0
        · have hq2 : hI (lnW pr lw L i) = -1 := by rw [hq]; exact hI_0
          rw [if_pos hq2] at h2
          rw [tif_pos (by rw [hq2]; exact m1_lt)]
          exact h2
        · have hq2 : hI (lnW pr lw L i) ≠ -1 := by rw [hI_pos hq]; exact m1_ne (by omega)
          rw [if_neg hq2] at h2
          rw [tif_neg (by rw [hI_pos hq]; exact nI_pos (by omega))]
          exact h2
  exact key (ν 2) 0 G (by omega) tfr.rf (fun _ _ => rfl) hS
theorem p_judged (x1 : Int32) {G : tH} (h : INV G) : PAIR (V_X10_judged x1) (V_X11_judged x1) G := by
  obtain ⟨p, fr, q, pr, lw, σ, τ, ν, L, tx, nm, hM, hN, hC, hR⟩ := id h
  obtain ⟨ho, hs, hu, hM4, hM5, hM6, hM7, hM8, hM9, hM10, _⟩ := id hM
  obtain ⟨c1, c2, c3, hP, c5, c6, hS, c8, c9, c10, c11, c12⟩ := id hC.1
  rcases within_c (a := 0) (b := 2) x1 (by omega) (by omega) with ⟨k, _, hk, rfl, hw⟩ | ⟨hno, hw⟩
  · obtain ⟨Ga, e1, s1, f1⟩ := c_begin (o := 1) hP ho
    have g1 : tfr (fun f o => zV f o ∧ f < 1100) G Ga := f1.mono fun f o z => by unfold zT at z; unfold zV; omega
    have v1 : tfr zV G Ga := g1.mono fun f o z => z.1
    have hCa := hC.scr v1
    obtain ⟨Gb, e2, s2, f2⟩ := c_playAll (q := q) ho (hP.scr v1) s1 (c5.scr v1) (c6.scr v1) hCa.2.2.1 hM9 hM10
    have g2 : tfr (fun f o => zV f o ∧ f < 1100) G Gb := g1.tr (f2.mono fun f o z => by unfold zS at z; unfold zV; omega)
    have v2 : tfr zV G Gb := g2.mono fun f o z => z.1
    refine PAIR.scr (r := if k = 0 then hI (lnW pr lw L (ν 2)) else if k = 1 then (lnS pr lw L (ν 2)).2 11 else nI (sumN ((lnS pr lw L (ν 2)).1 1) (nT pr))) hM hN hC hR ?_ g2 fun hR1 => ?_
    · rw [e_X10_judged, tlt0 (by omega), tltM (by omega) (by omega) hk, c2, e1, tbV_v, hCa.2.2.1.2.1, e2, tbI_v]
      rcases (show k = 0 ∨ k = 1 ∨ k = 2 by omega) with rfl | rfl | rfl
      · rw [tif_pos rfl, if_pos rfl]
      · rw [teqM (by omega) (by omega) (by omega), tif_pos rfl, if_neg (by omega), if_pos rfl, s2.2.2.2.2.2.2.2.2.2]
      · rw [teqM (by omega) (by omega) (by omega), teqM (by omega) (by omega) (by omega), if_neg (by omega), if_neg (by omega), v_meansOfAll (hP.scr v2) ho s2, tbI_v]
    · have hR0 := hR1.1.thr (nI 0)
      obtain ⟨r1, r2, r3, r4, r5, r6, r7⟩ := id hR0
      obtain ⟨a', e3, s3, a3⟩ := r_starts 1281 (by omega) r1 ho
      have f3 : tfr zX Gb (sA (sI Gb 1100 0 (nI 0)) 1124 0 a') := tfrA (tfrI tfr.rf (by unfold zX; omega)) (by unfold zX; omega)
      have hR3 := hR1.scr hM f3 (fun i hi => by rw [gA_eq, a3 i (by omega), gA_sI])
      obtain ⟨G2, e4, f4, a4⟩ := r_judge (k := k) ho hR3.1.1 (by rw [gA_eq]; exact s3) hR3.1.2.1 hR3.1.2.2.1 hR3.2.2.1 hM9 hM10 hk
      refine ⟨G2, ?_, (tfrA (tfrI tfr.rf (by unfold zX; omega)) (by unfold zX; omega)).tr (f4.mono fun f o z => by unfold zR at z; unfold zX; omega), fun i hi => ?_⟩
      · rw [e_X11_judged]
        dsimp only
        rw [r_win (by omega) (by omega) hk, tbI_v, tn1, e3, tbV_v, e4]
      · rw [a4 i hi, gA_eq, a3 i (by omega), gA_sI]
  · refine PAIR.read h (r := -2) ?_ ?_
    · rw [e_X10_judged]
      by_cases h1 : x1 < 0
      · rw [tif_pos h1]
      · obtain ⟨k, hk, rfl⟩ := nI_of h1
        rw [tif_neg h1, tltP (by omega) hk (Nat.lt_of_not_le fun q => hno ⟨k, by omega, q, rfl⟩)]
    · rw [e_X11_judged]
      dsimp only
      rw [r_within, hw, tbI_v, tn0]

