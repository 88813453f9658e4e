/-! PURE: the class' acts with loops: AWARD, YEAR, SUE, SPARE; a state begun, copied -/
theorem zS_i {o f : Nat} (h1 : 700 ≤ f) (h2 : f < 800) : zS o f o := Or.inl ⟨h1, h2, rfl⟩
/-- AWARD -/
def mayAward (pr : mP) (sg : mS) : Prop := sg.1 10 0 = 0 ∧ topN (sg.1 7) (nC pr) ≠ 0
def tpI (pr : mP) (sg : mS) : Nat := topN (sg.1 7) (nC pr) - 1
def payN (pr : mP) (sg : mS) : Nat := if pr 2 (tpI pr sg) = 2 then sg.1 7 (tpI pr sg) * 3 / 4 else sg.1 7 (tpI pr sg)
def z7 (s : Nat → Nat → Nat) (k : Nat) : Nat → Nat → Nat := fun k' i => if k' = k then 0 else s k' i
theorem z7_eq {s : Nat → Nat → Nat} {k i : Nat} : z7 s k k i = 0 := if_pos rfl
theorem z7_ne {s : Nat → Nat → Nat} {k k' i : Nat} (h : k' ≠ k) : z7 s k k' i = s k' i := if_neg h
def fAward (pr : mP) (sg : mS) : mS := (u1 (u1 (z7 (z7 sg.1 7) 9) 10 0 (if pr 2 (tpI pr sg) = 1 then 0 else tpI pr sg + 1)) 10 1 0, upd (if pr 2 (tpI pr sg) = 1 then sg.2 else upd (upd sg.2 (tpI pr sg) (sg.2 (tpI pr sg) - nI (payN pr sg))) 11 (sg.2 11 + nI (payN pr sg))) 10 0)
theorem award_loop (o : Nat) : ∀ n i G, i + n = 5 → ∃ G1, V_X7_awardTop_93 o (nI i) G = V_X7_awardTop_93 o (nI 5) G1 ∧ (∀ c, c < 5 → gA G1 707 o c = if i ≤ c then nI 0 else gA G 707 o c) ∧ tfr (fun f o' => f = 707 ∧ o' = o) G G1 := by
  intro n
  induction n with
  | zero =>
    intro i G hi
    rw [show i = 5 by omega]
    exact ⟨G, rfl, fun c hc => by rw [if_neg (by omega)], tfr.rf⟩
  | succ n ih =>
    intro i G hi
    obtain ⟨G1, e1, e2, e3⟩ := ih (i + 1) (sA G 707 o (upd (gA G 707 o) i (nI 0))) (by omega)
    refine ⟨G1, ?_, fun c hc => ?_, (tfr.sA ⟨rfl, rfl⟩).tr e3⟩
    · rw [e_X7_awardTop_93, tltP (by omega) (by omega) (by omega), ttin (by omega) (by omega), nI_clamp (by omega)]
      simp only [nI_add]
      exact e1
    · rw [e2 c hc, gA_eq]
      by_cases h : c = i
      · subst h
        rw [if_neg (by omega), if_pos (Nat.le_refl _), upd_eq]
      · rw [upd_ne h]
        by_cases h2 : i + 1 ≤ c
        · rw [if_pos h2, if_pos (by omega)]
        · rw [if_neg h2, if_neg (by omega)]
theorem award_end {G : tH} {o p : Nat} {pr : mP} {sg sg2 : mS} (hP : okP pr) (a1 : gR G 700 o = p) (a2 : ∀ t, t < nT pr → gA G 701 o t = nI (sg.1 1 t) ∧ gA G 702 o t = nI (sg.1 2 t) ∧ gA G 703 o t = nI (sg.1 3 t) ∧ gA G 704 o t = nI (sg.1 4 t) ∧ gA G 705 o t = nI (sg.1 5 t)) (a3 : ∀ c, c < nC pr → gA G 706 o c = sg2.2 c)
    (a4 : ∃ m, m < 64 ∧ gI G 708 o = nI m ∧ ∀ t, t < 6 → m / 2 ^ t % 2 = sg.1 8 t) (a6 : gI G 710 o = hI (sg2.1 10 0)) (a8 : gI G 712 o = nI (sg.1 10 2)) (a10 : gI G 714 o = sg2.2 11)
    (h1 : sg2.1 = u1 (u1 (z7 (z7 sg.1 7) 9) 10 0 (sg2.1 10 0)) 10 1 0) (h2 : sg2.2 10 = 0) :
    ∃ G', V_X7_awardTop_93 o (nI 0) G = some (some (vI (hI (sg2.1 10 0))), G') ∧ cS G' o p pr sg2 ∧ tfr (zS o) G G' := by
  obtain ⟨G1, e1, e2, e3⟩ := award_loop o 5 0 G (by omega)
  have hC := hP.2.1
  have rI : ∀ f, f ≠ 707 → gI G1 f o = gI G f o := fun f hf => (e3 f o fun q => hf q.1).1
  have rA : ∀ f, f ≠ 707 → gA G1 f o = gA G f o := fun f hf => (e3 f o fun q => hf q.1).2.2.2.1
  have rR : gR G1 700 o = gR G 700 o := (e3 700 o fun q => by omega).2.2.1
  have e4 : V_X7_awardTop_93 o (nI 0) G = some (some (vI (hI (sg2.1 10 0))), sI (sI (sI G1 711 o (nI 0)) 713 o (nI 0)) 709 o (nI 0)) := by
    rw [e1, e_X7_awardTop_93, tltM (by omega) (by omega) (by omega)]
    simp (disch := omega) only [gI_ne, rI, a6]
  refine ⟨_, e4, ⟨?_, fun t ht => ?_, fun c hc => ?_, ?_, ?_, ?_, ?_, ?_, ?_, ?_⟩, ?_⟩
  · simp only [gR_sI, rR, a1]
  · obtain ⟨q1, q2, q3, q4, q5⟩ := a2 t ht
    rw [h1]
    simp (disch := omega) only [gA_sI, rA, q1, q2, q3, q4, q5, u1_nk, z7_ne, and_self]
  · rw [h1]
    simp (disch := omega) only [gA_sI, rA, a3 c hc, e2 c (by omega), if_pos, u1_nk, z7_ne, z7_eq, and_self]
  · rw [h1]
    simp (disch := omega) only [gI_ne, rI, u1_nk, z7_ne]
    exact a4
  · refine ⟨0, by omega, gI_eq, fun j _ => ?_⟩
    rw [h1]
    simp (disch := omega) only [u1_nk, z7_eq, Nat.zero_div, Nat.zero_mod]
  · simp (disch := omega) only [gI_ne, rI, a6]
  · rw [h1]
    simp (disch := omega) only [gI_ne, gI_eq, u1_eq]
  · rw [h1]
    simp (disch := omega) only [gI_ne, rI, a8, u1_ni, z7_ne]
  · simp (disch := omega) only [gI_ne, gI_eq, h2, nI_0]
  · simp (disch := omega) only [gI_ne, rI, a10]
  · exact tfrI (tfrI (tfrI (e3.mono fun f o' q => Or.inl ⟨by omega, by omega, q.2⟩) (zS_i (by omega) (by omega))) (zS_i (by omega) (by omega))) (zS_i (by omega) (by omega))
theorem c_award {G : tH} {o p : Nat} {pr : mP} {sg : mS} (hP : cP G p pr) (ho : okP pr) (hS : cS G o p pr sg) (hs : okS pr sg) (hm : mayAward pr sg) :
    ∃ G', V_X7_awardTop o G = some (some (vI (hI ((fAward pr sg).1 10 0))), G') ∧ cS G' o p pr (fAward pr sg) ∧ tfr (zS o) G G' := by
  obtain ⟨m1, m2⟩ := hm
  have hC := ho.2.1
  have hle := topN_le (sg.1 7) (nC pr)
  have htp : tpI pr sg < nC pr := by unfold tpI; omega
  have hb := hs.2.1 _ htp
  obtain ⟨k1, k2⟩ := hS.2.2.1 _ htp
  obtain ⟨k3, k4⟩ := hP.2.2.2.2.2.2.2.1 _ htp
  have hk := (ho.2.2.2.2.2.2.2.1 _ htp).1
  have htop : hI (topN (sg.1 7) (nC pr)) = nI (tpI pr sg) := hI_pos m2
  have hS' := hS
  obtain ⟨a1, a2, a3, a4, a5, a6, a7, a8, a9, a10⟩ := hS'
  have hI' : hI (sg.1 10 0) = -1 := by rw [m1]; rfl
  have e0 : V_X7_awardTop o G = if pr 2 (tpI pr sg) = 1 then V_X7_awardTop_93 o (nI 0) G else V_X7_awardTop_65 o (nI (tpI pr sg)) (nI (payN pr sg)) G := by
    rw [e_X7_awardTop, v_topBidder hP ho hS hs, tbI_v, v_isHeld hP hS ho hs, if_pos m1, tbI_v, tn0, htop, tif_neg (m1_ne (by omega))]
    simp (disch := omega) only [ttin, nI_clamp, k2, k3, a1, pk_mul, pk_div, tn4]
    by_cases h1 : pr 2 (tpI pr sg) = 1
    · rw [if_pos h1, teqP h1]
    · rw [if_neg h1, teqM (by omega) (by omega) h1]
      by_cases h2 : pr 2 (tpI pr sg) = 2
      · rw [teqP h2, payN, if_pos h2]
      · rw [teqM (by omega) (by omega) h2, payN, if_neg h2]
  rw [e0]
  by_cases h1 : pr 2 (tpI pr sg) = 1
  · rw [if_pos h1]
    refine award_end (sg := sg) ho a1 a2 (fun c hc => ?_) a4 ?_ a8 ?_ ?_ ?_
    · simp (disch := omega) only [fAward, if_pos h1, upd_ne, (a3 c hc).1]
    · rw [a6, m1]
      simp (disch := omega) only [fAward, if_pos h1, u1_ni, u1_eq]
    · simp (disch := omega) only [fAward, if_pos h1, upd_ne, a10]
    · simp (disch := omega) only [fAward, u1_ni, u1_eq]
    · simp only [fAward, upd_eq]
  · rw [if_neg h1, e_X7_awardTop_65, ttin (by omega) (by omega), ttin (by omega) (by omega), nI_clamp (by omega)]
    have hR := award_end (G := sI (sI (sA G 706 o (upd (gA G 706 o) (tpI pr sg) (sg.2 (tpI pr sg) - nI (payN pr sg)))) 714 o (sg.2 11 + nI (payN pr sg))) 710 o (nI (tpI pr sg))) (o := o) (p := p) (pr := pr) (sg := sg) (sg2 := fAward pr sg) ho ?_ ?_ ?_ ?_ ?_ ?_ ?_ ?_ ?_
    · obtain ⟨G', g1, g2, g3⟩ := hR
      refine ⟨G', ?_, g2, (tfrI (tfrI (tfrA tfr.rf (zS_i (by omega) (by omega))) (zS_i (by omega) (by omega))) (zS_i (by omega) (by omega))).tr g3⟩
      rw [← g1]
      simp (disch := omega) only [gI_sA, k1, a10]
    · simp only [gR_sI, gR_sA, a1]
    · intro t ht
      obtain ⟨q1, q2, q3, q4, q5⟩ := a2 t ht
      simp (disch := omega) only [gA_sI, gA_ne, q1, q2, q3, q4, q5, and_self]
    · intro c hc
      obtain ⟨q1, q2⟩ := a3 c hc
      by_cases h : c = tpI pr sg
      · subst h
        simp (disch := omega) only [gA_sI, gA_eq, fAward, if_neg h1, upd_ne, upd_eq]
      · simp (disch := omega) only [gA_sI, gA_eq, fAward, if_neg h1, upd_ne, q1]
    · simp (disch := omega) only [gI_ne, gI_sA]; exact a4
    · rw [gI_eq]
      simp (disch := omega) only [fAward, if_neg h1, u1_ni, u1_eq]
      rw [hI_pos (by omega)]
      rfl
    · simp (disch := omega) only [gI_ne, gI_sA, a8]
    · simp (disch := omega) only [gI_ne, gI_eq, fAward, if_neg h1, upd_ne, upd_eq]
    · simp (disch := omega) only [fAward, u1_ni, u1_eq]
    · simp only [fAward, upd_eq]
theorem ok_award {pr : mP} {sg : mS} (hs : okS pr sg) (hm : mayAward pr sg) : okS pr (fAward pr sg) := by
  have hm2 := hm.2
  obtain ⟨a1, a2, a3, a4, a5, a6⟩ := hs
  have hle := topN_le (sg.1 7) (nC pr)
  refine ⟨fun t' ht' => ?_, fun c' hc => ?_, fun t' => ?_, fun u => ?_, ?_, ?_⟩
  · simp (disch := omega) only [fAward, u1_nk, z7_ne]; exact a1 t' ht'
  · simp (disch := omega) only [fAward, u1_nk, z7_ne, z7_eq]; omega
  · simp (disch := omega) only [fAward, u1_nk, z7_ne]; exact a3 t'
  · simp (disch := omega) only [fAward, u1_nk, z7_eq]; omega
  · simp (disch := omega) only [fAward, u1_ni, u1_eq]
    unfold tpI
    split <;> omega
  · simp (disch := omega) only [fAward, u1_eq]; omega
theorem n_award {G : tH} {o p : Nat} {pr : mP} {sg : mS} (hP : cP G p pr) (ho : okP pr) (hS : cS G o p pr sg) (hs : okS pr sg) (hn : ¬ mayAward pr sg) : V_X7_awardTop o G = some (some (vI (-2)), G) := by
  rw [e_X7_awardTop, v_topBidder hP ho hS hs, tbI_v, v_isHeld hP hS ho hs]
  by_cases m1 : sg.1 10 0 = 0
  · have m2 : topN (sg.1 7) (nC pr) = 0 := Classical.byContradiction fun q => hn ⟨m1, q⟩
    rw [if_pos m1, tbI_v, tn0, m2, tif_pos (by rfl)]
  · rw [if_neg m1, tbI_v, tn1]
/-! jurors -/
def barN (pr : mP) (sg : mS) : Nat := if pr 2 (mkH sg) = 3 then 2 * pr 8 1 else pr 8 1
def lgP (pr : mP) (sg : mS) (j : Nat) : Prop := pr 6 j = mkH sg ∨ sg.1 9 j = 1 ∨ ¬ nI (barN pr sg) < sg.2 10
noncomputable def lgN (pr : mP) (sg : mS) (j : Nat) : Nat := @ite Nat (lgP pr sg j) (Classical.propDecidable _) 1 0
theorem lgN_1 {pr : mP} {sg : mS} {j : Nat} (h : lgP pr sg j) : lgN pr sg j = 1 := if_pos h
theorem lgN_0 {pr : mP} {sg : mS} {j : Nat} (h : ¬ lgP pr sg j) : lgN pr sg j = 0 := if_neg h
theorem lgN_le (pr : mP) (sg : mS) (j : Nat) : lgN pr sg j ≤ 1 := by
  by_cases h : lgP pr sg j
  · rw [lgN_1 h]; omega
  · rw [lgN_0 h]; omega
theorem v_letsGo {G : tH} {o p j : Nat} {pr : mP} {sg : mS} (hP : cP G p pr) (ho : okP pr) (hS : cS G o p pr sg) (hs : okS pr sg) (m1 : sg.1 10 0 ≠ 0) (hj : j < nJ pr) : V_X7_letsGo o (nI j) G = some (some (vI (nI (lgN pr sg j))), G) := by
  have hJ := ho.2.2.2.1
  have hC := ho.2.1
  have hh := hs.2.2.2.2.1
  have hbar := ho.2.2.2.2.2.1
  have hh5 : mkH sg < 5 := by unfold mkH; omega
  have hhC : mkH sg < nC pr := by unfold mkH; omega
  have hhol : gI G 710 o = nI (mkH sg) := by rw [hS.2.2.2.2.2.1, hI_pos m1]; rfl
  obtain ⟨k3, k4⟩ := hP.2.2.2.2.2.2.2.1 _ hhC
  have hk := (ho.2.2.2.2.2.2.2.1 _ hhC).1
  obtain ⟨k5, k6⟩ := hP.2.2.2.2.2.2.2.2.2 j hj
  have hsh := (ho.2.2.2.2.2.2.2.2.2 j hj).1
  have e58 : V_X7_letsGo_58 o (nI j) (nI (barN pr sg)) G = some (some (vI (nI (lgN pr sg j))), G) := by
    rw [e_X7_letsGo_58]
    simp (disch := omega) only [ttin, nI_clamp, hS.1, k5, hhol, tz0, tz1, hS.2.2.2.2.2.2.2.2.1]
    by_cases h1 : pr 6 j = mkH sg
    · rw [teqP h1, lgN_1 (Or.inl h1)]
    · rw [teqM (by omega) (by omega) h1, v_isBribed hS hs (by omega), tbI_v]
      have hsp := hs.2.2.2.1 j
      rcases (show sg.1 9 j = 0 ∨ sg.1 9 j = 1 by omega) with m3 | m3
      · rw [m3, tn0]
        by_cases h2 : nI (barN pr sg) < sg.2 10
        · rw [hS.2.2.2.2.2.2.2.2.1, tif_pos h2, lgN_0]
          rintro (q | q | q)
          · exact h1 q
          · omega
          · exact q h2
        · rw [hS.2.2.2.2.2.2.2.2.1, tif_neg h2, lgN_1 (Or.inr (Or.inr h2))]
      · rw [m3, tn1, lgN_1 (Or.inr (Or.inl m3))]
  rw [e_X7_letsGo, v_isHeld hP hS ho hs, if_neg m1, tbI_v, tn1, hS.1, v_has, hP.2.2.2.1, if_pos ⟨nI_pos (by omega), (nI_ltI (by omega) (by omega)).mpr hj⟩, tbI_v, tn1]
  simp (disch := omega) only [ttin, nI_clamp, hS.1, hhol, k3, hP.2.2.2.2.2.1, pk_mul]
  by_cases h3 : pr 2 (mkH sg) = 3
  · rw [teqP h3, ← e58, barN, if_pos h3]
  · rw [teqM (by omega) (by omega) h3, ← e58, barN, if_neg h3]
noncomputable def frN (f : Nat → Nat) : Nat → Nat
  | 0 => 0
  | n + 1 => if f n = 0 then frN f n else frN f n ||| 2 ^ n
def popc (x : Nat) : Nat := x % 2 + x / 2 % 2 + x / 4 % 2 + x / 8 % 2 + x / 16 % 2
theorem or_small : ∀ n, n < 5 → ∀ m, m < 2 ^ n → (nI m ||| (nI 1 <<< (nI n &&& 31))) = nI (m ||| 2 ^ n) ∧ (m ||| 2 ^ n) < 2 ^ (n + 1) ∧ popc (m ||| 2 ^ n) = popc m + 1 := by decide +kernel
theorem frN_lt (f : Nat → Nat) : ∀ n, n ≤ 5 → frN f n < 2 ^ n
  | 0, _ => by simp [frN]
  | n + 1, h => by
    have h1 := frN_lt f n (by omega)
    unfold frN
    split
    · rw [Nat.pow_succ]; omega
    · exact (or_small n (by omega) _ h1).2.1
theorem frN_pop (f : Nat → Nat) (hf : ∀ i, f i ≤ 1) : ∀ n, n ≤ 5 → popc (frN f n) = sumN f n
  | 0, _ => by simp [frN, popc, sumN]
  | n + 1, h => by
    have h1 := frN_lt f n (by omega)
    have h2 := frN_pop f hf n (by omega)
    have h3 := hf n
    unfold frN
    rw [sumN]
    split
    · rw [h2]; omega
    · rw [(or_small n (by omega) _ h1).2.2, h2]; omega
theorem v_friends {G : tH} {o p : Nat} {pr : mP} {sg : mS} (hP : cP G p pr) (ho : okP pr) (hS : cS G o p pr sg) (hs : okS pr sg) (m1 : sg.1 10 0 ≠ 0) : V_X7_friends o G = some (some (vI (nI (frN (lgN pr sg) (nJ pr)))), G) := by
  have hJ := ho.2.2.2.1
  rw [e_X7_friends]
  have key : ∀ n i, i + n = nJ pr → V_X7_friends_4 o (nI (frN (lgN pr sg) i)) (nI i) G = some (some (vI (nI (frN (lgN pr sg) (nJ pr)))), G) := by
    intro n
    induction n with
    | zero =>
      intro i hi
      rw [e_X7_friends_4, hS.1, hP.2.2.2.1, tltM (by omega) (by omega) (by omega), show i = nJ pr by omega]
    | succ n ih =>
      intro i hi
      have h2 := ih (i + 1) (by omega)
      have h3 := lgN_le pr sg i
      have h4 := frN_lt (lgN pr sg) i (by omega)
      rw [e_X7_friends_4, hS.1, hP.2.2.2.1, tltP (by omega) (by omega) (by omega), v_letsGo hP ho hS hs m1 (by omega), tbI_v, (or_small i (by omega) _ h4).1, nI_add]
      rcases (show lgN pr sg i = 0 ∨ lgN pr sg i = 1 by omega) with h | h
      · rw [h, tn0]
        rw [frN, if_pos h] at h2
        exact h2
      · rw [h, tn1]
        rw [frN, if_neg (by omega)] at h2
        exact h2
  exact key (nJ pr) 0 (by omega)
theorem v_bitCount {G : tH} : ∀ x, x < 32 → V_J6_bitCount_0f7a4 (nI x) G = some (some (vI (nI (popc x))), G) := by
  intro x hx
  rw [e_J6_bitCount_0f7a4]
  have key : ∀ x, x < 32 → (let x0 := nI x
    let z_1 : Int32 := x0 - (((x0.toUInt32 >>> ((nI 1).toUInt32 &&& Int32.toUInt32 31)).toInt32) &&& (nI 1431655765))
    let z_2 : Int32 := (z_1 &&& (nI 858993459)) + (((z_1.toUInt32 >>> ((nI 2).toUInt32 &&& Int32.toUInt32 31)).toInt32) &&& (nI 858993459))
    let z_3 : Int32 := (z_2 + ((z_2.toUInt32 >>> ((nI 4).toUInt32 &&& Int32.toUInt32 31)).toInt32)) &&& (nI 252645135)
    let z_4 : Int32 := z_3 + ((z_3.toUInt32 >>> ((nI 8).toUInt32 &&& Int32.toUInt32 31)).toInt32)
    let z_5 : Int32 := z_4 + ((z_4.toUInt32 >>> ((nI 16).toUInt32 &&& Int32.toUInt32 31)).toInt32)
    z_5 &&& (nI 63)) = nI (popc x) := by decide +kernel
  exact congrArg (fun v : Int32 => some (some (vI v), G)) (key x hx)
theorem popc_le : ∀ x, popc x ≤ 5 := fun x => by unfold popc; omega
theorem v_isEnough {G : tH} {o p x : Nat} {pr : mP} (hP : cP G p pr) (ho : okP pr) (hR : gR G 700 o = p) (hx : x < 32) : V_X7_isEnough o (nI x) G = some (some (vI (if 2 * popc x < nJ pr then nI 0 else nI 1)), G) := by
  have hJ := ho.2.2.2.1
  have := popc_le x
  rw [e_X7_isEnough, v_bitCount x hx, tbI_v, hR, hP.2.2.2.1, pk_mul, tz0, tz1, tltN (by omega) (by omega)]
  split <;> rfl
/-- SUE -/
noncomputable def cntN (pr : mP) (sg : mS) : Nat := sumN (lgN pr sg) (nJ pr)
def fineI (sg : mS) : Int32 := if nI 2 * sg.2 10 < sg.2 (mkH sg) then nI 2 * sg.2 10 else sg.2 (mkH sg)
noncomputable def fSue (pr : mP) (sg : mS) : mS := if 2 * cntN pr sg < nJ pr then (u1 (z7 sg.1 9) 10 0 0, upd (upd (upd sg.2 (mkH sg) (sg.2 (mkH sg) - fineI sg)) 11 (sg.2 11 + fineI sg)) 10 0) else (z7 sg.1 9, upd sg.2 10 0)
theorem sue_end {G : tH} {o p : Nat} {pr : mP} {sg sg2 : mS} {r : Nat} (hr : r ≤ 1) (a1 : gR G 700 o = p) (a2 : ∀ t, t < nT pr → gA G 701 o t = nI (sg.1 1 t) ∧ gA G 702 o t = nI (sg.1 2 t) ∧ gA G 703 o t = nI (sg.1 3 t) ∧ gA G 704 o t = nI (sg.1 4 t) ∧ gA G 705 o t = nI (sg.1 5 t)) (a3 : ∀ c, c < nC pr → gA G 706 o c = sg2.2 c ∧ gA G 707 o c = nI (sg.1 7 c))
    (a4 : ∃ m, m < 64 ∧ gI G 708 o = nI m ∧ ∀ t, t < 6 → m / 2 ^ t % 2 = sg.1 8 t) (a6 : gI G 710 o = hI (sg2.1 10 0)) (a7 : gI G 711 o = nI (sg.1 10 1)) (a8 : gI G 712 o = nI (sg.1 10 2)) (a10 : gI G 714 o = sg2.2 11)
    (h1 : sg2.1 = u1 (z7 sg.1 9) 10 0 (sg2.1 10 0)) (h2 : sg2.2 10 = 0) :
    ∃ G', V_X7_sueHolder_69 o (nI r) G = some (some (vI (nI r)), G') ∧ cS G' o p pr sg2 ∧ tfr (zS o) G G' := by
  have e4 : V_X7_sueHolder_69 o (nI r) G = some (some (vI (nI r)), sI (sI G 713 o (nI 0)) 709 o (nI 0)) := by
    rw [e_X7_sueHolder_69]
    rcases (show r = 0 ∨ r = 1 by omega) with h | h
    · rw [h]; exact tn0
    · rw [h]; exact tn1
  refine ⟨_, e4, ⟨?_, fun t ht => ?_, fun c hc => ?_, ?_, ?_, ?_, ?_, ?_, ?_, ?_⟩, ?_⟩
  · simp only [gR_sI, a1]
  · obtain ⟨q1, q2, q3, q4, q5⟩ := a2 t ht
    rw [h1]
    simp (disch := omega) only [gA_sI, q1, q2, q3, q4, q5, u1_nk, z7_ne, and_self]
  · obtain ⟨q1, q2⟩ := a3 c hc
    rw [h1]
    simp (disch := omega) only [gA_sI, q1, q2, u1_nk, z7_ne, and_self]
  · rw [h1]
    simp (disch := omega) only [gI_ne, u1_nk, z7_ne]
    exact a4
  · refine ⟨0, by omega, gI_eq, fun j _ => ?_⟩
    rw [h1]
    simp (disch := omega) only [u1_nk, z7_eq, Nat.zero_div, Nat.zero_mod]
  · simp (disch := omega) only [gI_ne, a6]
  · rw [h1]
    simp (disch := omega) only [gI_ne, a7, u1_ni, z7_ne]
  · rw [h1]
    simp (disch := omega) only [gI_ne, a8, u1_ni, z7_ne]
  · simp (disch := omega) only [gI_ne, gI_eq, h2, nI_0]
  · simp (disch := omega) only [gI_ne, a10]
  · exact tfrI (tfrI tfr.rf (zS_i (by omega) (by omega))) (zS_i (by omega) (by omega))
theorem c_sue {G : tH} {o p : Nat} {pr : mP} {sg : mS} (hP : cP G p pr) (ho : okP pr) (hS : cS G o p pr sg) (hs : okS pr sg) (m1 : sg.1 10 0 ≠ 0) :
    ∃ G', V_X7_sueHolder o G = some (some (vI (nI (if 2 * cntN pr sg < nJ pr then 0 else 1))), G') ∧ cS G' o p pr (fSue pr sg) ∧ tfr (zS o) G G' := by
  have hJ := ho.2.2.2.1
  have hC := ho.2.1
  have hh := hs.2.2.2.2.1
  have hh5 : mkH sg < 5 := by unfold mkH; omega
  have hhC : mkH sg < nC pr := by unfold mkH; omega
  have hhol : gI G 710 o = nI (mkH sg) := by rw [hS.2.2.2.2.2.1, hI_pos m1]; rfl
  have h32 : frN (lgN pr sg) (nJ pr) < 32 := Nat.lt_of_lt_of_le (frN_lt _ _ hJ) (Nat.pow_le_pow_right (by omega) hJ)
  have hpop := frN_pop (lgN pr sg) (lgN_le pr sg) (nJ pr) hJ
  have hS' := hS
  obtain ⟨a1, a2, a3, a4, a5, a6, a7, a8, a9, a10⟩ := hS'
  rw [e_X7_sueHolder, v_isHeld hP hS ho hs, if_neg m1, tbI_v, tn1, v_friends hP ho hS hs m1, tbI_v, v_isEnough hP ho a1 h32, hpop, tbI_v]
  by_cases hf : 2 * cntN pr sg < nJ pr
  · rw [if_pos hf, if_pos (show 2 * sumN (lgN pr sg) (nJ pr) < nJ pr from hf), tn0]
    have hR := sue_end (G := sI (sI (sA G 706 o (upd (gA G 706 o) (mkH sg) (sg.2 (mkH sg) - fineI sg))) 714 o (sg.2 11 + fineI sg)) 710 o (-1)) (o := o) (p := p) (pr := pr) (sg := sg) (sg2 := fSue pr sg) (r := 0) (by omega) ?_ ?_ ?_ ?_ ?_ ?_ ?_ ?_ ?_ ?_
    · obtain ⟨G', g1, g2, g3⟩ := hR
      refine ⟨G', ?_, g2, (tfrI (tfrI (tfrA tfr.rf (zS_i (by omega) (by omega))) (zS_i (by omega) (by omega))) (zS_i (by omega) (by omega))).tr g3⟩
      rw [← g1]
      simp (disch := omega) only [ttin, nI_clamp, hhol, gI_sA, (a3 _ hhC).1, a9, a10, fineI]
    · simp only [gR_sI, gR_sA, a1]
    · intro t ht
      obtain ⟨q1, q2, q3, q4, q5⟩ := a2 t ht
      simp (disch := omega) only [gA_sI, gA_ne, q1, q2, q3, q4, q5, and_self]
    · intro c hc
      obtain ⟨q1, q2⟩ := a3 c hc
      by_cases h : c = mkH sg
      · subst h
        simp (disch := omega) only [gA_sI, gA_eq, gA_ne, q2, fSue, if_pos hf, upd_ne, upd_eq, and_self]
      · simp (disch := omega) only [gA_sI, gA_eq, gA_ne, q2, fSue, if_pos hf, upd_ne, q1, and_self]
    · simp (disch := omega) only [gI_ne, gI_sA]; exact a4
    · rw [gI_eq]
      simp (disch := omega) only [fSue, if_pos hf, u1_eq]
      rfl
    · simp (disch := omega) only [gI_ne, gI_sA, a7]
    · simp (disch := omega) only [gI_ne, gI_sA, a8]
    · simp (disch := omega) only [gI_ne, gI_eq, fSue, if_pos hf, upd_ne, upd_eq]
    · simp (disch := omega) only [fSue, if_pos hf, u1_eq]
    · simp only [fSue, if_pos hf, upd_eq]
  · rw [if_neg hf, if_neg (show ¬ 2 * sumN (lgN pr sg) (nJ pr) < nJ pr from hf), tn1]
    have hu : (fSue pr sg).1 = u1 (z7 sg.1 9) 10 0 ((fSue pr sg).1 10 0) := by
      simp only [fSue, if_neg hf]
      funext k i
      unfold u1
      by_cases h1 : k = 10
      · by_cases h2 : i = 0
        · rw [if_pos h1, if_pos h2, h1, h2]
        · rw [if_pos h1, if_neg h2]
      · rw [if_neg h1]
    refine sue_end (sg := sg) (r := 1) (by omega) a1 a2 (fun c hc => ?_) a4 ?_ a7 a8 ?_ hu ?_
    · obtain ⟨q1, q2⟩ := a3 c hc
      simp (disch := omega) only [fSue, if_neg hf, upd_ne, q1, q2, and_self]
    · rw [a6]
      simp (disch := omega) only [fSue, if_neg hf, z7_ne]
    · simp (disch := omega) only [fSue, if_neg hf, upd_ne, a10]
    · simp only [fSue, if_neg hf, upd_eq]
theorem ok_sue {pr : mP} {sg : mS} (hs : okS pr sg) : okS pr (fSue pr sg) := by
  obtain ⟨a1, a2, a3, a4, a5, a6⟩ := hs
  unfold fSue
  split
  · refine ⟨fun t' ht' => ?_, fun c' hc => ?_, fun t' => ?_, fun u => ?_, ?_, ?_⟩
    · simp (disch := omega) only [u1_nk, z7_ne]; exact a1 t' ht'
    · simp (disch := omega) only [u1_nk, z7_ne]; exact a2 c' hc
    · simp (disch := omega) only [u1_nk, z7_ne]; exact a3 t'
    · simp (disch := omega) only [u1_nk, z7_eq]; omega
    · simp only [u1_eq]; omega
    · simp (disch := omega) only [u1_ni, z7_ne]; exact a6
  · refine ⟨fun t' ht' => ?_, fun c' hc => ?_, fun t' => ?_, fun u => ?_, ?_, ?_⟩
    · simp (disch := omega) only [z7_ne]; exact a1 t' ht'
    · simp (disch := omega) only [z7_ne]; exact a2 c' hc
    · simp (disch := omega) only [z7_ne]; exact a3 t'
    · simp (disch := omega) only [z7_eq]; omega
    · simp (disch := omega) only [z7_ne]; exact a5
    · simp (disch := omega) only [z7_ne]; exact a6
theorem n_sue {G : tH} {o p : Nat} {pr : mP} {sg : mS} (hP : cP G p pr) (ho : okP pr) (hS : cS G o p pr sg) (hs : okS pr sg) (m1 : sg.1 10 0 = 0) : V_X7_sueHolder o G = some (some (vI (-1)), G) := by
  rw [e_X7_sueHolder, v_isHeld hP hS ho hs, if_pos m1, tbI_v, tn0]
