/-! PURE: a line of a past: whom, how much -/
def jW (w : Nat) : Nat := if w = 0 then 1 else if w = 2 then 2 else if w = 7 then 3 else 0
def loW (w : Nat) : Nat := if w = 0 then 0 else 1
def hasW (w : Nat) : Prop := w = 0 ∨ (2 ≤ w ∧ w ≤ 7)
def hasA (w : Nat) : Prop := w = 0 ∨ (3 ≤ w ∧ w ≤ 5)
theorem jW_lt (w : Nat) : jW w < 4 := by unfold jW; split <;> first | omega | (split <;> first | omega | (split <;> omega))
noncomputable def cWh (F : tH → Option tRes) (o : Nat) (G : tH) : Option tRes := tbI (F G) (fun r_2 G_1 => tif (tin (gI G 400 (o)) 40) (let G_3 := sA G_1 402 o (upd (gA G_1 402 o) (gI G 400 (o)).toNatClampNeg r_2)
  V_X4_readWhom_138 o G_3) none)
noncomputable def cAm (F : tH → Option tRes) (o : Nat) (G : tH) : Option tRes := tbI (F G) (fun r_2 G_1 => tif (tin (gI G 400 (o)) 40) (let G_3 := sA G_1 403 o (upd (gA G_1 403 o) (gI G 400 (o)).toNatClampNeg r_2)
  V_X4_readAmount_90 o G_3) none)
theorem c_wh1 {o p w : Nat} {G : tH} (h : hasW w) : V_X4_readWhom o p (nI w) G = cWh (V_X8_readKnown (4 * p + jW w)) o G := by
  unfold hasW at h
  rw [e_X4_readWhom]
  rcases (show w = 0 ∨ w = 2 ∨ w = 3 ∨ w = 4 ∨ w = 5 ∨ w = 6 ∨ w = 7 by omega) with e | e | e | e | e | e | e <;> subst e
  · rw [tif_pos rfl]; rfl
  · rw [teqM (by omega) (by omega) (by omega), teqM (by omega) (by omega) (by omega), tif_pos rfl]; rfl
  · rw [teqM (by omega) (by omega) (by omega), teqM (by omega) (by omega) (by omega), teqM (by omega) (by omega) (by omega), tif_pos rfl]; rfl
  · rw [teqM (by omega) (by omega) (by omega), teqM (by omega) (by omega) (by omega), teqM (by omega) (by omega) (by omega), teqM (by omega) (by omega) (by omega), tif_pos rfl]; rfl
  · rw [teqM (by omega) (by omega) (by omega), teqM (by omega) (by omega) (by omega), teqM (by omega) (by omega) (by omega), teqM (by omega) (by omega) (by omega), teqM (by omega) (by omega) (by omega), tif_pos rfl]; rfl
  · rw [teqM (by omega) (by omega) (by omega), teqM (by omega) (by omega) (by omega), teqM (by omega) (by omega) (by omega), teqM (by omega) (by omega) (by omega), teqM (by omega) (by omega) (by omega), teqM (by omega) (by omega) (by omega), tif_pos rfl]; rfl
  · rw [teqM (by omega) (by omega) (by omega), teqM (by omega) (by omega) (by omega), teqM (by omega) (by omega) (by omega), teqM (by omega) (by omega) (by omega), teqM (by omega) (by omega) (by omega), teqM (by omega) (by omega) (by omega), teqM (by omega) (by omega) (by omega), tif_pos rfl]; rfl
theorem c_wh0 {o p w n : Nat} {G : tH} (hw : w ≤ 9) (h : ¬ hasW w) (hn : gI G 400 o = nI n) (hn40 : n < 40) : V_X4_readWhom o p (nI w) G = some (some (vI (nI 1)), sA G 402 o (upd (gA G 402 o) n (nI 0))) := by
  unfold hasW at h
  have e138 : V_X4_readWhom_138 o (sA G 402 o (upd (gA G 402 o) n (nI 0))) = some (some (vI (nI 1)), sA G 402 o (upd (gA G 402 o) n (nI 0))) := by
    rw [e_X4_readWhom_138, gI_sA, hn, ttin hn40 (by omega), nI_clamp (by omega), gA_eq, upd_eq, tif_neg (m1_ne (by omega)), tz1]
  rw [e_X4_readWhom, teqM (by omega) (by omega) (by omega), hn, ttin hn40 (by omega), nI_clamp (by omega)]
  dsimp only
  rw [e138]
  by_cases q : w = 1
  · rw [teqP q]
  · rw [teqM (by omega) (by omega) q, teqM (by omega) (by omega) (by omega), teqM (by omega) (by omega) (by omega), teqM (by omega) (by omega) (by omega), teqM (by omega) (by omega) (by omega), teqM (by omega) (by omega) (by omega), teqM (by omega) (by omega) (by omega)]
theorem c_am1 {o w : Nat} {G : tH} (h : hasA w) : V_X4_readAmount o (nI w) G = cAm (V_X8_readNumber (nI (loW w)) (nI 9999)) o G := by
  unfold hasA at h
  rw [e_X4_readAmount]
  rcases (show w = 0 ∨ w = 3 ∨ w = 4 ∨ w = 5 by omega) with e | e | e | e <;> subst e
  · rw [tif_pos rfl]; rfl
  · rw [teqM (by omega) (by omega) (by omega), teqM (by omega) (by omega) (by omega), teqM (by omega) (by omega) (by omega), tif_pos rfl]; rfl
  · rw [teqM (by omega) (by omega) (by omega), teqM (by omega) (by omega) (by omega), teqM (by omega) (by omega) (by omega), teqM (by omega) (by omega) (by omega), tif_pos rfl]; rfl
  · rw [teqM (by omega) (by omega) (by omega), teqM (by omega) (by omega) (by omega), teqM (by omega) (by omega) (by omega), teqM (by omega) (by omega) (by omega), teqM (by omega) (by omega) (by omega), tif_pos rfl]; rfl
theorem c_am0 {o w n : Nat} {G : tH} (hw : w ≤ 9) (h : ¬ hasA w) (hn : gI G 400 o = nI n) (hn40 : n < 40) : V_X4_readAmount o (nI w) G = some (some (vI (nI 1)), sA G 403 o (upd (gA G 403 o) n (nI 0))) := by
  unfold hasA at h
  have e90 : V_X4_readAmount_90 o (sA G 403 o (upd (gA G 403 o) n (nI 0))) = some (some (vI (nI 1)), sA G 403 o (upd (gA G 403 o) n (nI 0))) := by
    rw [e_X4_readAmount_90, gI_sA, hn, ttin hn40 (by omega), nI_clamp (by omega), gA_eq, upd_eq, tif_neg (m1_ne (by omega)), tz1]
  rw [e_X4_readAmount, teqM (by omega) (by omega) (by omega), hn, ttin hn40 (by omega), nI_clamp (by omega)]
  dsimp only
  rw [e90]
  by_cases q : w = 1
  · rw [teqP q]
  · rw [teqM (by omega) (by omega) q]
    by_cases q2 : w = 2
    · rw [teqP q2]
    · rw [teqM (by omega) (by omega) q2, teqM (by omega) (by omega) (by omega), teqM (by omega) (by omega) (by omega), teqM (by omega) (by omega) (by omega)]
theorem cWh_1 {F : tH → Option tRes} {o n x : Nat} {G G1 : tH} (e : F G = some (some (vI (nI x)), G1)) (hx : x < 2 ^ 31) (hn : gI G 400 o = nI n) (hn1 : gI G1 400 o = nI n) (hn40 : n < 40) : cWh F o G = some (some (vI (nI 1)), sA G1 402 o (upd (gA G1 402 o) n (nI x))) := by
  unfold cWh
  rw [e, tbI_v, hn, ttin hn40 (by omega), nI_clamp (by omega)]
  dsimp only
  rw [e_X4_readWhom_138, gI_sA, hn1, ttin hn40 (by omega), nI_clamp (by omega), gA_eq, upd_eq, tif_neg (m1_ne hx), tz1]
theorem cWh_0 {F : tH → Option tRes} {o n : Nat} {G G1 : tH} (e : F G = some (some (vI (-1)), G1)) (hn : gI G 400 o = nI n) (hn1 : gI G1 400 o = nI n) (hn40 : n < 40) : cWh F o G = some (some (vI (nI 0)), sA G1 402 o (upd (gA G1 402 o) n (-1))) := by
  unfold cWh
  rw [e, tbI_v, hn, ttin hn40 (by omega), nI_clamp (by omega)]
  dsimp only
  rw [e_X4_readWhom_138, gI_sA, hn1, ttin hn40 (by omega), nI_clamp (by omega), gA_eq, upd_eq, tif_pos rfl, tz0]
theorem cAm_1 {F : tH → Option tRes} {o n x : Nat} {G G1 : tH} (e : F G = some (some (vI (nI x)), G1)) (hx : x < 2 ^ 31) (hn : gI G 400 o = nI n) (hn1 : gI G1 400 o = nI n) (hn40 : n < 40) : cAm F o G = some (some (vI (nI 1)), sA G1 403 o (upd (gA G1 403 o) n (nI x))) := by
  unfold cAm
  rw [e, tbI_v, hn, ttin hn40 (by omega), nI_clamp (by omega)]
  dsimp only
  rw [e_X4_readAmount_90, gI_sA, hn1, ttin hn40 (by omega), nI_clamp (by omega), gA_eq, upd_eq, tif_neg (m1_ne hx), tz1]
theorem cAm_0 {F : tH → Option tRes} {o n : Nat} {G G1 : tH} (e : F G = some (some (vI (-1)), G1)) (hn : gI G 400 o = nI n) (hn1 : gI G1 400 o = nI n) (hn40 : n < 40) : cAm F o G = some (some (vI (nI 0)), sA G1 403 o (upd (gA G1 403 o) n (-1))) := by
  unfold cAm
  rw [e, tbI_v, hn, ttin hn40 (by omega), nI_clamp (by omega)]
  dsimp only
  rw [e_X4_readAmount_90, gI_sA, hn1, ttin hn40 (by omega), nI_clamp (by omega), gA_eq, upd_eq, tif_pos rfl, tz0]
/-! the reference -/
def z2G (G : tH) (a : Nat) : tH := sA (sA G 1121 0 (upd (gA G 1121 0) a (nI 0))) 1121 0 (upd (upd (gA G 1121 0) a (nI 0)) (a + 1) (nI 0))
theorem r_past2 {w a : Nat} {G : tH} (ha : a + 1 < 250) (hw : w ≤ 9) : V_X11_readPast (nI w) (nI a) G = if w = 0 then tbI (V_X11_takeTold (nI 0) (nI 20) (z2G G a)) (fun r_4 G_3 => tbI (V_X11_takeNumber (nI 0) (nI 9999) (sA G_3 1121 0 (upd (gA G_3 1121 0) a r_4))) (fun r_7 G_6 => some (none, sA G_6 1121 0 (upd (gA G_6 1121 0) (a + 1) r_7)))) else if w = 2 then tbI (V_X11_takeTold (nI 0) (nI 40) (z2G G a)) (fun r_4 G_3 => some (none, sA G_3 1121 0 (upd (gA G_3 1121 0) a r_4))) else if 3 ≤ w ∧ w ≤ 5 then tbI (V_X11_takeTold (nI 0) (nI 0) (z2G G a)) (fun r_4 G_3 => tbI (V_X11_takeNumber (nI 1) (nI 9999) (sA G_3 1121 0 (upd (gA G_3 1121 0) a r_4))) (fun r_7 G_6 => some (none, sA G_6 1121 0 (upd (gA G_6 1121 0) (a + 1) r_7)))) else if w = 6 then tbI (V_X11_takeTold (nI 0) (nI 0) (z2G G a)) (fun r_4 G_3 => some (none, sA G_3 1121 0 (upd (gA G_3 1121 0) a r_4))) else if w = 7 then tbI (V_X11_takeTold (nI 0) (nI 60) (z2G G a)) (fun r_4 G_3 => some (none, sA G_3 1121 0 (upd (gA G_3 1121 0) a r_4))) else some (none, z2G G a) := by
  have t0 : ∀ (x y : Option tRes), tif (tin (nI a) 250) x y = x := fun x y => ttin (by omega) (by omega)
  have t1 : ∀ (x y : Option tRes), tif (tin (nI (a + 1)) 250) x y = x := fun x y => ttin ha (by omega)
  have c0 : (nI a).toNatClampNeg = a := nI_clamp (by omega)
  have c1 : (nI (a + 1)).toNatClampNeg = a + 1 := nI_clamp (by omega)
  rw [e_X11_readPast]
  simp only [nI_add, t0, t1, c0, c1, gA_eq]
  rw [show sA (sA G 1121 0 (upd (gA G 1121 0) a (nI 0))) 1121 0 (upd (upd (gA G 1121 0) a (nI 0)) (a + 1) (nI 0)) = z2G G a from rfl]
  by_cases q0 : w = 0
  · rw [if_pos q0, tz0P q0]
  · rw [if_neg q0, tz0M (by omega) q0]
    by_cases q2 : w = 2
    · rw [if_pos q2, teqP q2]
    · rw [if_neg q2, teqM (by omega) (by omega) q2, e_X11_within, tltN (by omega) (by omega), tltN (by omega) (by omega), tz0, tz1]
      by_cases q3 : 3 ≤ w ∧ w ≤ 5
      · rw [if_pos q3, if_neg (by omega), if_neg (by omega), tbI_v, tn1]
      · rw [if_neg q3]
        have e : (if w < 3 then some (some (vI (nI 0)), z2G G a) else if 5 < w then some (some (vI (nI 0)), z2G G a) else some (some (vI (nI 1)), z2G G a)) = some (some (vI (nI 0)), z2G G a) := by
          by_cases w3 : w < 3
          · rw [if_pos w3]
          · rw [if_neg w3, if_pos (by omega)]
        rw [e, tbI_v, tn0]
        by_cases q6 : w = 6
        · rw [if_pos q6, teqP q6]
        · rw [if_neg q6, teqM (by omega) (by omega) q6]
          by_cases q7 : w = 7
          · rw [if_pos q7, teqP q7]
          · rw [if_neg q7, teqM (by omega) (by omega) q7]
theorem r_pastA {w a : Nat} {G : tH} (ha : a + 1 < 250) (hw : hasA w) : V_X11_readPast (nI w) (nI a) G = tbI (V_X11_takeTold (nI 0) (nI (20 * jW w)) (z2G G a)) (fun r_4 G_3 => tbI (V_X11_takeNumber (nI (loW w)) (nI 9999) (sA G_3 1121 0 (upd (gA G_3 1121 0) a r_4))) (fun r_7 G_6 => some (none, sA G_6 1121 0 (upd (gA G_6 1121 0) (a + 1) r_7)))) := by
  unfold hasA at hw
  rw [r_past2 ha (by omega)]
  by_cases q0 : w = 0
  · subst q0; rw [if_pos rfl]; rfl
  · have e1 : jW w = 0 := by unfold jW; rw [if_neg q0, if_neg (by omega), if_neg (by omega)]
    have e2 : loW w = 1 := by unfold loW; rw [if_neg q0]
    rw [if_neg q0, if_neg (by omega), if_pos (by omega), e1, e2]
theorem r_pastB {w a : Nat} {G : tH} (ha : a + 1 < 250) (hw : hasW w) (hA : ¬ hasA w) : V_X11_readPast (nI w) (nI a) G = tbI (V_X11_takeTold (nI 0) (nI (20 * jW w)) (z2G G a)) (fun r_4 G_3 => some (none, sA G_3 1121 0 (upd (gA G_3 1121 0) a r_4))) := by
  unfold hasW at hw
  unfold hasA at hA
  rw [r_past2 ha (by omega)]
  rcases (show w = 2 ∨ w = 6 ∨ w = 7 by omega) with e | e | e <;> subst e
  · rw [if_neg (by omega), if_pos rfl]; rfl
  · rw [if_neg (by omega), if_neg (by omega), if_neg (by omega), if_pos rfl]; rfl
  · rw [if_neg (by omega), if_neg (by omega), if_neg (by omega), if_neg (by omega), if_pos rfl]; rfl
theorem r_pastC {w a : Nat} {G : tH} (ha : a + 1 < 250) (hw9 : w ≤ 9) (hw : ¬ hasW w) : V_X11_readPast (nI w) (nI a) G = some (none, z2G G a) := by
  unfold hasW at hw
  rw [r_past2 ha hw9, if_neg (by omega), if_neg (by omega), if_neg (by omega), if_neg (by omega), if_neg (by omega)]
