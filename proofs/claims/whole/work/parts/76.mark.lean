/-! PURE: marks -/
theorem tcpN {a b n n0 n1 : Nat} {x y : Option tRes} (h0 : n0 < 2 ^ 31) (h1 : n1 < 2 ^ 31) (ha : a + n ≤ n0) (hb : b + n ≤ n1) : tif (tcpok (nI a) (nI b) (nI n) n0 n1) x y = x := by
  refine tif_pos ⟨?_, ?_, ?_, ?_, ?_⟩
  · rw [nI_toInt (by omega)]; omega
  · rw [nI_toInt (by omega)]; omega
  · rw [nI_toInt (by omega)]; omega
  · rw [nI_toInt (by omega), nI_toInt (by omega)]; omega
  · rw [nI_toInt (by omega), nI_toInt (by omega)]; omega
theorem bit4 : ∀ m, m < 16 → ∀ t, t < 4 → ((nI m >>> (nI t &&& 31)) &&& nI 1) = nI (m / 2 ^ t % 2) := by decide +kernel
theorem set4 : ∀ m, m < 16 → ∀ t, t < 4 → (nI m ||| (nI 1 <<< (nI t &&& 31))) = nI (m ||| 2 ^ t) ∧ (m ||| 2 ^ t) < 16 ∧ ∀ u, u < 4 → (m ||| 2 ^ t) / 2 ^ u % 2 = if u = t then 1 else m / 2 ^ u % 2 := by decide +kernel
theorem nar_b1 : vp_nar .boolean (nI 1) = nI 1 := by decide +kernel
theorem nar_b0 : vp_nar .boolean (nI 0) = nI 0 := by decide +kernel
theorem okT_eq {pr : mP} {t t' : Nat → Int32} (h : okT pr t) (e : ∀ c, c < 5 → t' c = t c) : okT pr t' := fun c hc => by rw [e c hc]; exact h c hc
theorem p_mark (x1 : Int32) (b : Nat) (hb : b ≤ 1) {G : tH} (h : INV G) : PAIR (V_X10_mark x1 (nI b)) (V_X11_mark x1 (nI b)) G := by
  obtain ⟨p, fr, q, pr, lw, σ, τ, ν, L, tx, nm, hM, hN, hC, hR⟩ := id h
  obtain ⟨ho, hs, hu, hM4, hM5, hM6, hM7, hM8, hM9⟩ := id hM
  obtain ⟨c1, c2, c3, hP, c5, c6, hS, c8, c9, c10, c11, c12⟩ := id hC.1
  obtain ⟨t1, t2, t3⟩ := id hC.2.1
  rcases within_c (a := 0) (b := 3) x1 (by omega) (by omega) with ⟨m, _, hm3, rfl, hw⟩ | ⟨hno, hw⟩
  · have hm4 : m < 4 := by omega
    have hbit := bit4 (ν 1) hM5 m hm4
    rcases (show b = 0 ∨ b = 1 by omega) with rfl | rfl
    · -- laid down
      obtain ⟨w1, w2, w3⟩ := set4 (ν 1) hM5 m hm4
      obtain ⟨Ga, e1, e2, e3⟩ := c_copy (o := 19 + m) (o1 := 0) ho hS (by omega)
      obtain ⟨Gb, hGb⟩ : ∃ g, g = sI (sA Ga 1009 0 (va_cpy (gA Ga 1011 0) (gA Ga 1009 0) 0 (m * 5) 5)) 1010 0 (nI (ν 1 ||| 2 ^ m)) := ⟨_, rfl⟩
      have fb : tfr (fun f _ => f = 1009 ∨ f = 1010) Ga Gb := by rw [hGb]; exact tfrI (tfrA tfr.rf (Or.inl rfl)) (Or.inr rfl)
      have f1 : tfr (fun f o => zT (19 + m) f o ∨ f = 1009 ∨ f = 1010) G Gb := (e3.mono fun f o z => Or.inl z).tr (fb.mono fun f o z => Or.inr z)
      have aA : ∀ f, f < 700 ∨ 800 ≤ f → gA Ga f 0 = gA G f 0 := fun f hf => (e3 f 0 (by unfold zT; omega)).2.2.2.1
      have E1 : V_X10_mark (nI m) (nI 0) G = some (some (vI (nI 1)), Gb) := by
        rw [e_X10_mark, tlt0 (by omega), tltP (by omega) (by omega) hm4, tn0, ttin hm4 (by omega), nI_clamp (by omega), e1, tbV_v, pk_mul, tcpN (by omega) (by omega) (by omega) (by omega)]
        simp (disch := omega) only [nI_clamp, gI_sA]
        rw [(e3 1010 0 (by unfold zT; omega)).1, t3, w1, ← hGb, tz1]
      have hR1 := hR.kept (f1.mono fun f o z => by unfold zT at z; unfold zCls; omega)
      have kb : ∀ o s, o ≠ 19 + m → cS G o p pr s → cS Gb o p pr s := fun o s hn hc => (hc.kept e3 fun f _ _ => by unfold zT; omega).kept fb fun f _ _ => by omega
      obtain ⟨a', e5, y1, y2⟩ := r_copies 0 (61 * (1 + m)) 61 (by omega) (by omega) (by omega) (sA (sI Gb 1100 0 (nI 0)) 1126 0 (upd (gA Gb 1126 0) m (nI 1)))
      simp (disch := omega) only [gA_sI, gA_ne, Nat.zero_add] at y1 y2
      obtain ⟨Gc, hGc⟩ : ∃ g, g = sI (sA (sA (sI Gb 1100 0 (nI 0)) 1126 0 (upd (gA Gb 1126 0) m (nI 1))) 1124 0 a') 1125 0 (nI (ν 0)) := ⟨_, rfl⟩
      have fc : tfr (fun f _ => f = 1100 ∨ f = 1124 ∨ f = 1125 ∨ f = 1126) Gb Gc := by rw [hGc]; exact tfrI (tfrA (tfrA (tfrI tfr.rf (by omega)) (by omega)) (by omega)) (by omega)
      have ac : gA Gc 1124 0 = a' := by rw [hGc, gA_sI, gA_eq]
      obtain ⟨⟨r1, r2, r3, r4, r5, r6, r7⟩, d2, d3, d4, d5, d6⟩ := hR1
      have E2 : V_X11_mark (nI m) (nI 0) Gb = some (some (vI (nI 1)), Gc) := by
        rw [e_X11_mark]
        dsimp only
        rw [r_win (by omega) (by omega) hm3, tbI_v, tn1, tn0, e_X11_mark_29, ttin hm4 (by omega), nI_clamp (by omega), nar_b1]
        dsimp only
        rw [tn0, e_X11_mark_51, tn0, e_X11_mark_65, nI_add, pk_mul, gA_sI, e5, tbV_v, tn0]
        simp (disch := omega) only [gI_sA, gI_ne, r5, tz1]
        rw [hGc]
      have hmk : ∀ u, mkB (uX ν 1 (ν 1 ||| 2 ^ m)) u → u ≠ m → mkB ν u := by
        intro u hu2 hne
        unfold mkB at hu2 ⊢
        rw [uX_eq, w3 u hu2.1, if_neg hne] at hu2
        exact hu2
      refine ⟨_, _, _, E1, E2, p, fr, q, pr, lw, uX σ (1 + m) (σ 0), uX τ (1 + m) (τ 0), uX ν 1 (ν 1 ||| 2 ^ m), L, tx, nm, ?_, hN, IC.kept ?_ (fc.mono fun f o z => by unfold zRef; omega), ?_⟩
      · refine ⟨ho, ?_, ?_, fun k hk => ?_, ?_, fun u hu2 => ?_, ?_, fun u hu2 => ?_, ?_⟩
        · rw [uX_ne (by omega)]; exact hs
        · rw [uX_ne (by omega)]; exact hu
        · rw [uX_ne (by omega)] at hk; rw [uX_ne (by omega)]; exact hM4 k hk
        · rw [uX_eq]; exact w2
        · by_cases hum : u = m
          · subst hum; rw [uX_eq]; exact hs
          · rw [uX_ne (by omega)]; exact hM6 u (hmk u hu2 hum)
        · rw [uX_ne (by omega)]; exact hM7
        · by_cases hum : u = m
          · subst hum; rw [uX_eq]; exact hM7
          · rw [uX_ne (by omega)]; exact hM8 u (hmk u hu2 hum)
        · rw [uX_ne (by omega), uX_ne (by omega)]; exact hM9
      · obtain ⟨g1, g2, g3, g4, g5⟩ := hC
        have f1' : tfr (fun f o => (700 ≤ f ∧ f < 800 ∧ o = 19 + m) ∨ f = 1009 ∨ f = 1010) G Gb := f1.mono fun f o z => by unfold zT at z; omega
        refine ⟨⟨c1, ?_, ?_, hP.kept f1' fun f o z => by omega, c5.kept f1' (by omega) (by omega), c6.kept f1' (by omega) (by omega), ?_, c8, ?_, ?_, fun k hk => ?_, fun u hu2 => ?_⟩, ⟨fun c hc => ?_, fun u hu2 c hc => ?_, ?_⟩, (g3.kept f1' fun f o z => by omega).nu (uX_ne (by omega)), (g4.kept f1' fun f o z => by omega).nu (uX_ne (by omega)), g5.kept f1' fun f o z => by omega⟩
        · rw [(f1' 1001 0 (by omega)).2.2.1]; exact c2
        · rw [(f1' 1002 0 (by omega)).2.2.1]; exact c3
        · rw [uX_ne (by omega)]; exact kb _ _ (by omega) hS
        · rw [(f1' 901 0 (by omega)).1]; exact c9
        · rw [(f1' 902 0 (by omega)).1, uX_ne (by omega)]; exact c10
        · rw [uX_ne (by omega)] at hk ⊢; rw [uX_ne (by omega)]; exact kb _ _ (by omega) (c11 k hk)
        · by_cases hum : u = m
          · subst hum; rw [uX_eq]; exact e2.kept fb fun f _ _ => by omega
          · rw [uX_ne (by omega)]; exact kb _ _ (by omega) (c12 u (hmk u hu2 hum))
        · rw [hGb, uX_ne (by omega)]
          simp (disch := omega) only [gA_sI, gA_ne, aA]
          exact t1 c hc
        · rw [hGb]
          simp (disch := omega) only [gA_sI, gA_eq, aA]
          by_cases hum : u = m
          · subst hum
            rw [uX_eq, pk_cpy_in (by omega) (by omega), show 0 + (u * 5 + c - u * 5) = c by omega]
            exact t1 c hc
          · have := hu2.1
            rw [uX_ne (by omega), pk_cpy_out (by omega)]
            exact t2 u (hmk u hu2 hum) c hc
        · rw [hGb, gI_eq, uX_eq]
      · refine ⟨⟨r1.kept fc (by omega), r2.kept fc (by omega) (by omega) (by omega), r3.kept fc (by omega) (by omega) (by omega), ?_, ?_, fun k hk => ?_, fun u hu2 => ?_⟩, ⟨fun c hc => ?_, fun u hu2 c hc => ?_, fun u hu2 => ?_⟩, (d3.kept fc (by omega)).nu (uX_ne (by omega)), (d4.kept fc (by omega) (by omega)).nu (uX_ne (by omega)), d5.kept fc (by omega) (by omega) (by omega), d6.kept fc (by omega)⟩
        · rw [ac, uX_ne (by omega)]; exact r4.ext ho fun i i1 i2 => y2 i (by omega)
        · rw [hGc, gI_eq, uX_ne (by omega)]
        · rw [uX_ne (by omega)] at hk
          rw [ac, uX_ne (by omega)]
          exact (r6 k hk).ext ho fun i i1 i2 => y2 i (by omega)
        · rw [ac]
          by_cases hum : u = m
          · subst hum; rw [uX_eq]; exact r4.move ho fun k hk => by rw [y1 k (by omega), Nat.zero_add]
          · have := hu2.1
            rw [uX_ne (by omega)]
            exact (r7 u (hmk u hu2 hum)).ext ho fun i i1 i2 => y2 i (by omega)
        · rw [ac, uX_ne (by omega), y2 _ (by omega)]; exact d2.1 c hc
        · rw [ac]
          by_cases hum : u = m
          · subst hum
            rw [uX_eq, Nat.add_assoc, y1 (56 + c) (by omega)]
            exact d2.1 c hc
          · have := hu2.1
            rw [uX_ne (by omega), y2 _ (by omega)]
            exact d2.2.1 u (hmk u hu2 hum) c hc
        · rw [hGc]
          simp (disch := omega) only [gA_sI, gA_ne, gA_eq]
          rw [uX_eq, w3 u hu2]
          by_cases hum : u = m
          · subst hum; rw [upd_eq, if_pos rfl]
          · rw [upd_ne hum, if_neg hum]; exact d2.2.2 u hu2
    · -- brought back
      by_cases hmk : ν 1 / 2 ^ m % 2 = 0
      · refine PAIR.read h (r := nI 0) ?_ ?_
        · rw [e_X10_mark, tlt0 (by omega), tltP (by omega) (by omega) hm4, tn1, t3, hbit, hmk, tn0, tz0]
        · rw [e_X11_mark]
          dsimp only
          rw [r_win (by omega) (by omega) hm3, tbI_v, tn1, tn1, ttin hm4 (by omega), nI_clamp (by omega), gA_sI, hR.2.1.2.2 m hm4, hmk, tn0, tz0]
      · have hmB : mkB ν m := ⟨hm4, by omega⟩
        have hmk1 : ν 1 / 2 ^ m % 2 = 1 := hmB.2
        obtain ⟨Ga, e1, e2, e3⟩ := c_copy (o := 0) (o1 := 19 + m) ho (c12 m hmB) (by omega)
        obtain ⟨Gb, hGb⟩ : ∃ g, g = sI (sA Ga 1011 0 (va_cpy (gA Ga 1009 0) (gA Ga 1011 0) (m * 5) 0 5)) 902 0 (nI 0) := ⟨_, rfl⟩
        have fb : tfr (fun f _ => f = 1011 ∨ f = 902) Ga Gb := by rw [hGb]; exact tfrI (tfrA tfr.rf (Or.inl rfl)) (Or.inr rfl)
        have f1 : tfr (fun f o => (700 ≤ f ∧ f < 800 ∧ o = 0) ∨ f = 1011 ∨ f = 902) G Gb := (e3.mono fun f o z => by unfold zT at z; omega).tr (fb.mono fun f o z => by omega)
        have aA : ∀ f, f < 700 ∨ 800 ≤ f → gA Ga f 0 = gA G f 0 := fun f hf => (e3 f 0 (by unfold zT; omega)).2.2.2.1
        have E1 : V_X10_mark (nI m) (nI 1) G = some (some (vI (nI 1)), Gb) := by
          rw [e_X10_mark, tlt0 (by omega), tltP (by omega) (by omega) hm4, tn1, t3, hbit, hmk1, tn1, ttin hm4 (by omega), nI_clamp (by omega), e1, tbV_v, pk_mul, tcpN (by omega) (by omega) (by omega) (by omega)]
          simp (disch := omega) only [nI_clamp]
          rw [e_X9_forget, tbV_v, ← hGb, tz1]
        have hR1 := hR.kept (f1.mono fun f o z => by unfold zCls; omega)
        have kb : ∀ o s, o ≠ 0 → cS G o p pr s → cS Gb o p pr s := fun o s hn hc => (hc.kept e3 fun f _ _ => by unfold zT; omega).kept fb fun f _ _ => by omega
        obtain ⟨a', e5, y1, y2⟩ := r_copies (61 * (1 + m)) 0 61 (by omega) (by omega) (by omega) (sA (sI Gb 1100 0 (nI 0)) 1126 0 (upd (gA Gb 1126 0) m (nI 1)))
        simp (disch := omega) only [gA_sI, gA_ne, Nat.zero_add] at y1 y2
        obtain ⟨Gc, hGc⟩ : ∃ g, g = sI (sA (sA (sI Gb 1100 0 (nI 0)) 1126 0 (upd (gA Gb 1126 0) m (nI 1))) 1124 0 a') 1125 0 (nI 0) := ⟨_, rfl⟩
        have fc : tfr (fun f _ => f = 1100 ∨ f = 1124 ∨ f = 1125 ∨ f = 1126) Gb Gc := by rw [hGc]; exact tfrI (tfrA (tfrA (tfrI tfr.rf (by omega)) (by omega)) (by omega)) (by omega)
        have ac : gA Gc 1124 0 = a' := by rw [hGc, gA_sI, gA_eq]
        obtain ⟨⟨r1, r2, r3, r4, r5, r6, r7⟩, d2, d3, d4, d5, d6⟩ := hR1
        have E2 : V_X11_mark (nI m) (nI 1) Gb = some (some (vI (nI 1)), Gc) := by
          rw [e_X11_mark]
          dsimp only
          rw [r_win (by omega) (by omega) hm3, tbI_v, tn1, tn1, ttin hm4 (by omega), nI_clamp (by omega), gA_sI, d2.2.2 m hm4, hmk1, tn1, e_X11_mark_29, ttin hm4 (by omega), nI_clamp (by omega), nar_b1]
          dsimp only
          rw [tn1, e_X11_mark_51, tn1, e_X11_mark_65, nI_add, pk_mul, gA_sI, e5, tbV_v, tn1, tz1, hGc]
        have hmk' : ∀ u, mkB (uX ν 0 0) u → mkB ν u := by
          intro u hu2
          unfold mkB at hu2 ⊢
          rw [uX_ne (by omega)] at hu2
          exact hu2
        refine ⟨_, _, _, E1, E2, p, fr, q, pr, lw, uX σ 0 (σ (1 + m)), uX τ 0 (τ (1 + m)), uX ν 0 0, L, tx, nm, ?_, hN, IC.kept ?_ (fc.mono fun f o z => by unfold zRef; omega), ?_⟩
        · refine ⟨ho, ?_, ?_, fun k hk => ?_, ?_, fun u hu2 => ?_, ?_, fun u hu2 => ?_, ?_⟩
          · rw [uX_eq]; exact hM6 m hmB
          · rw [uX_eq]; omega
          · rw [uX_eq] at hk; omega
          · rw [uX_ne (by omega)]; exact hM5
          · rw [uX_ne (by omega)]; exact hM6 u (hmk' u hu2)
          · rw [uX_eq]; exact hM8 m hmB
          · rw [uX_ne (by omega)]; exact hM8 u (hmk' u hu2)
          · rw [uX_ne (by omega), uX_ne (by omega)]; exact hM9
        · obtain ⟨g1, g2, g3, g4, g5⟩ := hC
          refine ⟨⟨c1, ?_, ?_, hP.kept f1 fun f o z => by omega, c5.kept f1 (by omega) (by omega), c6.kept f1 (by omega) (by omega), ?_, c8, ?_, ?_, fun k hk => ?_, fun u hu2 => ?_⟩, ⟨fun c hc => ?_, fun u hu2 c hc => ?_, ?_⟩, (g3.kept f1 fun f o z => by omega).nu (uX_ne (by omega)), (g4.kept f1 fun f o z => by omega).nu (uX_ne (by omega)), g5.kept f1 fun f o z => by omega⟩
          · rw [(f1 1001 0 (by omega)).2.2.1]; exact c2
          · rw [(f1 1002 0 (by omega)).2.2.1]; exact c3
          · rw [uX_eq]; exact e2.kept fb fun f _ _ => by omega
          · rw [(f1 901 0 (by omega)).1]; exact c9
          · rw [hGb, gI_eq, uX_eq]
          · rw [uX_eq] at hk; omega
          · rw [uX_ne (by omega)]; exact kb _ _ (by omega) (c12 u (hmk' u hu2))
          · rw [hGb, uX_eq]
            simp (disch := omega) only [gA_sI, gA_eq, aA]
            rw [pk_cpy_in (by omega) (by omega), show m * 5 + (c - 0) = m * 5 + c by omega]
            exact t2 m hmB c hc
          · rw [hGb, uX_ne (by omega)]
            simp (disch := omega) only [gA_sI, gA_ne, aA]
            exact t2 u (hmk' u hu2) c hc
          · rw [(f1 1010 0 (by omega)).1, uX_ne (by omega)]; exact t3
        · refine ⟨⟨r1.kept fc (by omega), r2.kept fc (by omega) (by omega) (by omega), r3.kept fc (by omega) (by omega) (by omega), ?_, ?_, fun k hk => ?_, fun u hu2 => ?_⟩, ⟨fun c hc => ?_, fun u hu2 c hc => ?_, fun u hu2 => ?_⟩, (d3.kept fc (by omega)).nu (uX_ne (by omega)), (d4.kept fc (by omega) (by omega)).nu (uX_ne (by omega)), d5.kept fc (by omega) (by omega) (by omega), d6.kept fc (by omega)⟩
          · rw [ac, uX_eq]; exact (r7 m hmB).move ho fun k hk => by rw [Nat.zero_add, y1 k (by omega)]
          · rw [hGc, gI_eq, uX_eq]
          · rw [uX_eq] at hk; omega
          · rw [ac, uX_ne (by omega)]
            exact (r7 u (hmk' u hu2)).ext ho fun i i1 i2 => y2 i (by omega)
          · rw [ac, uX_eq, y1 (56 + c) (by omega), ← Nat.add_assoc]; exact d2.2.1 m hmB c hc
          · rw [ac, uX_ne (by omega), y2 _ (by omega)]
            exact d2.2.1 u (hmk' u hu2) c hc
          · rw [hGc]
            simp (disch := omega) only [gA_sI, gA_ne, gA_eq]
            rw [uX_ne (by omega)]
            by_cases hum : u = m
            · subst hum; rw [upd_eq, hmk1]
            · rw [upd_ne hum]; exact d2.2.2 u hu2
  · refine PAIR.read h (r := nI 0) ?_ ?_
    · rw [e_X10_mark, tz0]
      by_cases h1 : x1 < 0
      · rw [tif_pos h1]
      · obtain ⟨k, hk, rfl⟩ := nI_of h1
        rw [tif_neg h1, tltM hk (by omega) (Nat.le_of_not_lt fun q => hno ⟨k, by omega, by omega, rfl⟩)]
    · rw [e_X11_mark]
      dsimp only
      rw [r_within, hw, tbI_v, tn0, tz0]

