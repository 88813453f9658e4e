/-! PURE: a line of a past is read by both -/
def zWa (o : Nat) : Nat → Nat → Prop := fun f o' => (802 ≤ f ∧ f ≤ 807) ∨ ((f = 402 ∨ f = 403) ∧ o' = o)
def zWb (o : Nat) : Nat → Nat → Prop := fun f o' => (802 ≤ f ∧ f ≤ 808) ∨ ((400 ≤ f ∧ f ≤ 403) ∧ o' = o)
def WR (w x y : Nat) (cnt : Nat → Nat) : Prop := (hasW w → x < cnt (jW w)) ∧ (¬ hasW w → x = 0) ∧ (hasA w → loW w ≤ y ∧ y ≤ 9999) ∧ (¬ hasA w → y = 0)
noncomputable def cWA (o p w : Nat) (K : tH → Option tRes) (G : tH) : Option tRes := tbI (V_X4_readWhom o p (nI w) G) (fun r_8 G_7 => tif (r_8 = 0) (some (some (vI (nI 0)), G_7)) (tbI (V_X4_readAmount o (nI w) G_7) (fun r_10 G_9 => tif (r_10 = 0) (some (some (vI (nI 0)), G_9)) (K G_9))))
def WS (z : mZ) (N o p w k n a : Nat) (cnt : Nat → Nat) (K : tH → Option tRes) (Gc Gr : tH) : Prop := ∃ x y k' Gc' Gr', cWA o p w K Gc = K Gc' ∧ V_X11_readPast (nI w) (nI a) Gr = some (none, Gr') ∧ CT Gc' z k' ∧ RT Gr' z N k' ∧ k ≤ k' ∧ WR w x y cnt ∧ gA Gc' 402 o = upd (gA Gc 402 o) n (nI x) ∧ gA Gc' 403 o = upd (gA Gc 403 o) n (nI y) ∧ tfr (zWa o) Gc Gc' ∧ gA Gr' 1121 0 a = nI x ∧ gA Gr' 1121 0 (a + 1) = nI y ∧ (∀ i, i ≠ a → i ≠ a + 1 → gA Gr' 1121 0 i = gA Gr 1121 0 i) ∧ tfr (fun f _ => f = 1107 ∨ f = 1121) Gr Gr'
def WF (o p w a : Nat) (K : tH → Option tRes) (Gc Gr : tH) : Prop := ∃ v Gc' Gr', cWA o p w K Gc = some (some (vI (nI 0)), Gc') ∧ gI Gc' 808 0 = nI v ∧ V_X11_readPast (nI w) (nI a) Gr = some (none, Gr') ∧ RF Gr' v ∧ tfr (zWb o) Gc Gc' ∧ (∀ i, i ≠ a → i ≠ a + 1 → gA Gr' 1121 0 i = gA Gr 1121 0 i) ∧ tfr (fun f _ => f = 1107 ∨ f = 1108 ∨ f = 1121) Gr Gr'
theorem z2_fr {G : tH} {a : Nat} : tfr (fun f _ => f = 1121) G (z2G G a) := tfrA (tfr.sA rfl) rfl
theorem z2_at {G : tH} {a : Nat} : gA (z2G G a) 1121 0 = upd (upd (gA G 1121 0) a (nI 0)) (a + 1) (nI 0) := gA_eq
theorem hasA_W {w : Nat} (h : hasA w) : hasW w := by unfold hasA at h; unfold hasW; omega
theorem wa_pair {z : mZ} {N o p w k n a : Nat} {cnt : Nat → Nat} {nm : Nat → Nat → List Nat} {Gc Gr : tH} (hT : TK z N) (hU : NU cnt nm) (hc : CT Gc z k) (h0 : gI Gc 808 0 = nI 0) (hr : RT Gr z N k) (hn : gI Gc 400 o = nI n) (hn40 : n < 40) (ha : a + 1 < 250) (hw : w ≤ 9) (hNC : ∀ j, j < 4 → NC Gc (4 * p + j) (cnt j) (nm j)) (hNR : ∃ mn, gI Gr 1118 0 = nI mn ∧ NR (gB Gr 1114 0) (gA Gr 1116 0) mn cnt nm) (K : tH → Option tRes) : WS z N o p w k n a cnt K Gc Gr ∨ WF o p w a K Gc Gr := by
  have hr2 : RT (z2G Gr a) z N k := hr.kept z2_fr (fun f _ _ => by omega)
  have hNR2 : ∃ mn, gI (z2G Gr a) (fM 0) 0 = nI mn ∧ NR (gB (z2G Gr a) (fB 0) 0) (gA (z2G Gr a) (fA 0) 0) mn cnt nm := by
    obtain ⟨mn, q1, q2⟩ := hNR
    refine ⟨mn, ?_, ?_⟩
    · show gI (z2G Gr a) 1118 0 = nI mn
      rw [(z2_fr 1118 0 (by omega)).1]; exact q1
    · show NR (gB (z2G Gr a) 1114 0) (gA (z2G Gr a) 1116 0) mn cnt nm
      rw [(z2_fr 1114 0 (by omega)).2.2.2.2, (z2_fr 1116 0 (by omega)).2.2.2.1]; exact q2
  have nk : ∀ G', tfr (fun f _ => 802 ≤ f ∧ f ≤ 808) Gc G' → gI G' 400 o = nI n := fun G' f => by rw [(f 400 o (by omega)).1]; exact hn
  by_cases hW : hasW w
  · have hj := jW_lt w
    rcases (rd_told (b := 0) (r := 4 * p + jW w) hT hU hj (by omega)).1 Gc (z2G Gr a) k hc h0 hr2 (hNC _ hj) hNR2 with ⟨x, k1, Gc1, Gr1, a1, a2, a3, a4, a5, a6, a7, a8, a9⟩ | ⟨v, Gc1, Gr1, a1, a2, a3, a4, a5, a6⟩
    · -- whom
      have n1 := nk Gc1 (a8.mono fun f o w => by unfold zTk at w; omega)
      have eW : V_X4_readWhom o p (nI w) Gc = some (some (vI (nI 1)), sA Gc1 402 o (upd (gA Gc1 402 o) n (nI x))) := by rw [c_wh1 hW]; exact cWh_1 a1 a4 hn n1 hn40
      obtain ⟨Gc2, hGc2⟩ : ∃ g, g = sA Gc1 402 o (upd (gA Gc1 402 o) n (nI x)) := ⟨_, rfl⟩
      obtain ⟨Gr2, hGr2⟩ : ∃ g, g = sA Gr1 1121 0 (upd (gA Gr1 1121 0) a (nI x)) := ⟨_, rfl⟩
      rw [← hGc2] at eW
      have f2 : tfr (fun f o' => f = 402 ∧ o' = o) Gc1 Gc2 := by rw [hGc2]; exact tfr.sA ⟨rfl, rfl⟩
      have fr2 : tfr (fun f _ => f = 1121) Gr1 Gr2 := by rw [hGr2]; exact tfr.sA rfl
      have c2 : CT Gc2 z k1 := a5.kept f2 (fun f _ _ => by omega)
      have c20 : gI Gc2 808 0 = nI 0 := by rw [(f2 808 0 (by omega)).1, (a8 808 0 (by unfold zTk; omega)).1]; exact h0
      have r2 : RT Gr2 z N k1 := a6.kept fr2 (fun f _ _ => by omega)
      have n2 : gI Gc2 400 o = nI n := by rw [(f2 400 o (by omega)).1]; exact n1
      have g402 : gA Gc2 402 o = upd (gA Gc 402 o) n (nI x) := by rw [hGc2, gA_eq, (a8 402 o (by unfold zTk; omega)).2.2.2.1]
      have g403 : gA Gc2 403 o = gA Gc 403 o := by rw [(f2 403 o (by omega)).2.2.2.1, (a8 403 o (by unfold zTk; omega)).2.2.2.1]
      have gr2 : gA Gr2 1121 0 = upd (upd (upd (gA Gr 1121 0) a (nI 0)) (a + 1) (nI 0)) a (nI x) := by rw [hGr2, gA_eq, (a9 1121 0 (by omega)).2.2.2.1, z2_at]
      have fc2 : tfr (zWa o) Gc Gc2 := (a8.mono fun f o w => by unfold zTk at w; unfold zWa; omega).tr (f2.mono fun f o w => by unfold zWa; omega)
      have frr2 : tfr (fun f _ => f = 1107 ∨ f = 1121) Gr Gr2 := ((z2_fr.mono fun f o w => Or.inr w).tr (a9.mono fun f o w => Or.inl w)).tr (fr2.mono fun f o w => Or.inr w)
      by_cases hA : hasA w
      · have eR := r_pastA (G := Gr) ha hA
        have hlo : loW w < 2 ^ 31 := by unfold loW; split <;> omega
        rcases (rd_num (lo := loW w) (hi := 9999) hT hlo (by omega)).1 Gc2 Gr2 k1 c2 c20 r2 trivial trivial with ⟨y, k3, Gc3, Gr3, b1, b2, b3, b4, b5, b6, b7, b8, b9⟩ | ⟨v, Gc3, Gr3, b1, b2, b3, b4, b5, b6⟩
        · have n3 : gI Gc3 400 o = nI n := by rw [(b8 400 o (by unfold zTk; omega)).1]; exact n2
          have eA := cAm_1 b1 b4 n2 n3 hn40
          refine Or.inl ⟨x, y, k3, sA Gc3 403 o (upd (gA Gc3 403 o) n (nI y)), sA Gr3 1121 0 (upd (gA Gr3 1121 0) (a + 1) (nI y)), ?_, ?_, ?_, ?_, by omega, ⟨fun _ => a3, fun q => absurd hW q, fun _ => b3, fun q => absurd hA q⟩, ?_, ?_, ?_, ?_, ?_, fun i i1 i2 => ?_, ?_⟩
          · unfold cWA
            rw [eW, tbI_v, tn1, c_am1 hA, eA, tbI_v, tn1]
          · rw [eR, a2, tbI_v, ← hGr2, b2, tbI_v]
          · exact b5.kept (tfr.sA (S := fun f o' => f = 403 ∧ o' = o) ⟨rfl, rfl⟩) (fun f _ _ => by omega)
          · exact b6.kept (tfr.sA (S := fun f _ => f = 1121) rfl) (fun f _ _ => by omega)
          · rw [gA_ne (by omega), (b8 402 o (by unfold zTk; omega)).2.2.2.1]; exact g402
          · rw [gA_eq, (b8 403 o (by unfold zTk; omega)).2.2.2.1, g403]
          · exact tfrA (fc2.tr (b8.mono fun f o w => by unfold zTk at w; unfold zWa; omega)) (by unfold zWa; omega)
          · rw [gA_eq, upd_ne (by omega), (b9 1121 0 (by omega)).2.2.2.1, gr2, upd_eq]
          · rw [gA_eq, upd_eq]
          · rw [gA_eq, upd_ne i2, (b9 1121 0 (by omega)).2.2.2.1, gr2, upd_ne i1, upd_ne i2, upd_ne i1]
          · exact tfrA (frr2.tr (b9.mono fun f o w => Or.inl w)) (Or.inr rfl)
        · have n3 : gI Gc3 400 o = nI n := by rw [(b5 400 o (by omega)).1]; exact n2
          have eA := cAm_0 b1 n2 n3 hn40
          refine Or.inr ⟨v, sA Gc3 403 o (upd (gA Gc3 403 o) n (-1)), sA Gr3 1121 0 (upd (gA Gr3 1121 0) (a + 1) (nI 0)), ?_, ?_, ?_, b4, ?_, fun i i1 i2 => ?_, ?_⟩
          · unfold cWA
            rw [eW, tbI_v, tn1, c_am1 hA, eA, tbI_v, tn0]
          · rw [gI_sA]; exact b2
          · rw [eR, a2, tbI_v, ← hGr2, b3, tbI_v]
          · exact tfrA ((fc2.mono fun f o w => by unfold zWa at w; unfold zWb; omega).tr (b5.mono fun f o w => by unfold zWb; omega)) (by unfold zWb; omega)
          · rw [gA_eq, upd_ne i2, (b6 1121 0 (by omega)).2.2.2.1, gr2, upd_ne i1, upd_ne i2, upd_ne i1]
          · exact tfrA ((frr2.mono fun f o w => by omega).tr (b6.mono fun f o w => by omega)) (by omega)
      · have eR := r_pastB (G := Gr) ha hW hA
        refine Or.inl ⟨x, 0, k1, sA Gc2 403 o (upd (gA Gc2 403 o) n (nI 0)), Gr2, ?_, ?_, ?_, r2, by omega, ⟨fun _ => a3, fun q => absurd hW q, fun q => absurd q hA, fun _ => rfl⟩, ?_, ?_, ?_, ?_, ?_, fun i i1 i2 => ?_, frr2⟩
        · unfold cWA
          rw [eW, tbI_v, tn1, c_am0 hw hA n2 hn40, tbI_v, tn1]
        · rw [eR, a2, tbI_v, ← hGr2]
        · exact c2.kept (tfr.sA (S := fun f o' => f = 403 ∧ o' = o) ⟨rfl, rfl⟩) (fun f _ _ => by omega)
        · rw [gA_ne (by omega)]; exact g402
        · rw [gA_eq, g403]
        · exact tfrA fc2 (by unfold zWa; omega)
        · rw [gr2, upd_eq]
        · rw [gr2, upd_ne (by omega), upd_eq]
        · rw [gr2, upd_ne i1, upd_ne i2, upd_ne i1]
    · -- whom is wrong
      have n1 := nk Gc1 a5
      have eW : V_X4_readWhom o p (nI w) Gc = some (some (vI (nI 0)), sA Gc1 402 o (upd (gA Gc1 402 o) n (-1))) := by rw [c_wh1 hW]; exact cWh_0 a1 hn n1 hn40
      have gr1 : gA Gr1 1121 0 = upd (upd (gA Gr 1121 0) a (nI 0)) (a + 1) (nI 0) := by rw [(a6 1121 0 (by omega)).2.2.2.1, z2_at]
      have fr1 : tfr (fun f _ => f = 1107 ∨ f = 1108 ∨ f = 1121) Gr Gr1 := (z2_fr.mono fun f o w => by omega).tr (a6.mono fun f o w => by omega)
      have fc1 : tfr (zWb o) Gc (sA Gc1 402 o (upd (gA Gc1 402 o) n (-1))) := tfrA (a5.mono fun f o w => by unfold zWb; omega) (by unfold zWb; omega)
      have ec : cWA o p w K Gc = some (some (vI (nI 0)), sA Gc1 402 o (upd (gA Gc1 402 o) n (-1))) := by
        unfold cWA
        rw [eW, tbI_v, tn0]
      have hF2 : RF (sA Gr1 1121 0 (upd (gA Gr1 1121 0) a (nI 0))) v := a4
      by_cases hA : hasA w
      · refine Or.inr ⟨v, _, sA (sA Gr1 1121 0 (upd (gA Gr1 1121 0) a (nI 0))) 1121 0 (upd (gA (sA Gr1 1121 0 (upd (gA Gr1 1121 0) a (nI 0))) 1121 0) (a + 1) (nI 0)), ec, ?_, ?_, a4, fc1, fun i i1 i2 => ?_, tfrA (tfrA fr1 (by omega)) (by omega)⟩
        · rw [gI_sA]; exact a2
        · rw [r_pastA ha hA, a3, tbI_v, r_numF hF2, tbI_v]
        · rw [gA_eq, upd_ne i2, gA_eq, upd_ne i1, gr1, upd_ne i2, upd_ne i1]
      · refine Or.inr ⟨v, _, sA Gr1 1121 0 (upd (gA Gr1 1121 0) a (nI 0)), ec, ?_, ?_, a4, fc1, fun i i1 i2 => ?_, tfrA fr1 (by omega)⟩
        · rw [gI_sA]; exact a2
        · rw [r_pastB ha hW hA, a3, tbI_v]
        · rw [gA_eq, upd_ne i1, gr1, upd_ne i2, upd_ne i1]
  · have hA : ¬ hasA w := fun q => hW (hasA_W q)
    refine Or.inl ⟨0, 0, k, sA (sA Gc 402 o (upd (gA Gc 402 o) n (nI 0))) 403 o (upd (gA Gc 403 o) n (nI 0)), z2G Gr a, ?_, r_pastC ha hw hW, ?_, hr2, Nat.le_refl _, ⟨fun q => absurd q hW, fun _ => rfl, fun q => absurd q hA, fun _ => rfl⟩, ?_, ?_, ?_, ?_, ?_, fun i i1 i2 => ?_, z2_fr.mono fun f o w => Or.inr w⟩
    · have := c_am0 (o := o) (G := sA Gc 402 o (upd (gA Gc 402 o) n (nI 0))) hw hA hn hn40
      rw [gA_ne (show 403 ≠ 402 by omega)] at this
      unfold cWA
      rw [c_wh0 hw hW hn hn40, tbI_v, tn1, this, tbI_v, tn1]
    · exact hc.kept (tfrA (tfr.sA (S := fun f o' => (f = 402 ∨ f = 403) ∧ o' = o) ⟨Or.inl rfl, rfl⟩) ⟨Or.inr rfl, rfl⟩) (fun f _ _ => by omega)
    · rw [gA_ne (by omega), gA_eq]
    · rw [gA_eq]
    · exact tfrA (tfr.sA (by unfold zWa; omega)) (by unfold zWa; omega)
    · rw [z2_at, upd_ne (by omega), upd_eq]
    · rw [z2_at, upd_eq]
    · rw [z2_at, upd_ne i2, upd_ne i1]
