/-! PURE: feed (the first rows: bits of a long, pasted from kit/laws/BITS) -/
theorem wb_inj {x y : Int64} (h : x.toBitVec = y.toBitVec) : x = y := Int64.toBitVec_inj.mp h
theorem wb_tb (n : Nat) : (lN n).toBitVec = BitVec.ofNat 64 n := rfl
theorem wb_tn {n : Nat} (h : n < 2 ^ 64) : (lN n).toBitVec.toNat = n := by rw [wb_tb, BitVec.toNat_ofNat, Nat.mod_eq_of_lt h]
theorem wb_of (x : Int64) : ∃ n, n < 2 ^ 64 ∧ x = lN n := ⟨x.toBitVec.toNat, x.toBitVec.isLt, wb_inj (by rw [wb_tb, BitVec.ofNat_toNat, BitVec.setWidth_eq])⟩
theorem rb_c : ∀ k, k < 64 → ((nI k).toInt64 &&& 63) = lN k := by decide +kernel
theorem rb_cu : ∀ k, k < 64 → ((nI k).toInt64.toUInt64 &&& Int64.toUInt64 63) = UInt64.ofNat k := by decide +kernel
theorem rb_sm : ∀ k, k < 64 → ((BitVec.ofNat 64 k).smod 64).toNat = k := by decide +kernel
theorem rb_ch : ∀ b, b < 256 → ((nI b).toUInt32 % 65536).toInt32 = nI b := by decide +kernel
theorem rb_nr : ∀ b, b < 256 → vp_nar .char (nI b) = nI b := by decide +kernel
theorem rb_byte {n k : Nat} (hk : k ≤ 56) : ((lN n >>> ((nI k).toInt64 &&& 63)).toInt32 &&& nI 255) = nI (n / 2 ^ k % 256) := by
  rw [rb_c k (by omega), pk_and _ 8 (by decide +kernel)]
  congr 1
  rw [Int64.toBitVec_toInt32, BitVec.signExtend_eq_setWidth_of_le _ (by omega), Int64.toBitVec_shiftRight, wb_tb, wb_tb, BitVec.sshiftRight_eq', rb_sm k (by omega)]
  apply Nat.eq_of_testBit_eq
  intro i
  rw [show 256 = 2 ^ 8 from rfl, Nat.testBit_mod_two_pow, Nat.testBit_mod_two_pow]
  by_cases hi : i < 8
  · rw [BitVec.testBit_toNat, BitVec.getLsbD_setWidth, BitVec.getLsbD_sshiftRight, if_pos (by omega), BitVec.getLsbD_ofNat, Nat.testBit_div_two_pow]
    simp [hi, show i < 32 by omega, show ¬ 64 ≤ i by omega, show k + i < 64 by omega, Nat.add_comm]
  · simp [hi]
theorem rc_byte {n k : Nat} (hn : n < 2 ^ 64) (hk : k ≤ 56) : (((((lN n).toUInt64 >>> ((nI k).toInt64.toUInt64 &&& Int64.toUInt64 63)).toInt64 &&& lN 255).toInt32).toUInt32 % 65536).toInt32 = nI (n / 2 ^ k % 256) := by
  have e1 : ((lN n).toUInt64 >>> UInt64.ofNat k).toInt64 = lN (n / 2 ^ k) := by
    apply wb_inj
    apply BitVec.eq_of_toNat_eq
    show ((lN n).toUInt64 >>> UInt64.ofNat k).toNat = (BitVec.ofNat 64 _).toNat
    have h1 : (UInt64.ofNat k).toNat = k := by
      show (BitVec.ofNat 64 k).toNat = k
      rw [BitVec.toNat_ofNat, Nat.mod_eq_of_lt (by omega)]
    have h2 : (lN n).toUInt64.toNat = n := wb_tn hn
    rw [UInt64.toNat_shiftRight, h1, h2, Nat.mod_eq_of_lt (by omega), Nat.shiftRight_eq_div_pow, BitVec.toNat_ofNat, Nat.mod_eq_of_lt (Nat.lt_of_le_of_lt (Nat.div_le_self _ _) hn)]
  have e2 : lN (n / 2 ^ k) &&& lN 255 = lN (n / 2 ^ k % 256) := by
    have hq : n / 2 ^ k < 2 ^ 64 := Nat.lt_of_le_of_lt (Nat.div_le_self _ _) hn
    apply wb_inj
    apply BitVec.eq_of_toNat_eq
    rw [Int64.toBitVec_and, BitVec.toNat_and, wb_tn hq, wb_tn (by omega), wb_tn (by omega)]
    exact Nat.and_two_pow_sub_one_eq_mod _ 8
  rw [rb_cu k (by omega), e1, e2, lN_i, rb_ch _ (Nat.mod_lt _ (by omega))]
abbrev mZ : Type := Nat × (Nat → Nat)
noncomputable def ptZ (z : mZ) (b : Nat) : mZ := @ite mZ (okX b ∧ z.1 < 1000) (Classical.propDecidable _) (z.1 + 1, uX z.2 z.1 b) z
theorem ptZ_1 {z : mZ} {b : Nat} (h : okX b ∧ z.1 < 1000) : ptZ z b = (z.1 + 1, uX z.2 z.1 b) := if_pos h
theorem ptZ_0 {z : mZ} {b : Nat} (h : ¬ (okX b ∧ z.1 < 1000)) : ptZ z b = z := if_neg h
noncomputable def plZ (n : Nat) : Nat → mZ → mZ
  | 0, z => z
  | i + 1, z => plZ n i (ptZ z (n / 2 ^ (8 * i) % 256))
def okZ (z : mZ) : Prop := z.1 ≤ 1000 ∧ ∀ i, i < z.1 → okX (z.2 i)
theorem okZ_p {z : mZ} {b : Nat} (h : okZ z) : okZ (ptZ z b) := by
  by_cases hq : okX b ∧ z.1 < 1000
  · rw [ptZ_1 hq]
    refine ⟨hq.2, fun i hi => ?_⟩
    show okX (uX z.2 z.1 b i)
    by_cases e : i = z.1
    · rw [e, uX_eq]; exact hq.1
    · rw [uX_ne e]; exact h.2 i (by have : i < z.1 + 1 := hi; omega)
  · rw [ptZ_0 hq]; exact h
theorem okZ_l (n : Nat) : ∀ i z, okZ z → okZ (plZ n i z)
  | 0, z, h => h
  | i + 1, z, h => okZ_l n i _ (okZ_p h)
def T4 (G : tH) (z : mZ) : Prop := gI G 801 0 = nI z.1 ∧ ∀ i, i < z.1 → gA G 800 0 i = nI (z.2 i)
def S4 (G : tH) (z : mZ) : Prop := gI G 1102 0 = nI z.1 ∧ ∀ i, i < z.1 → gA G 1101 0 i = nI (z.2 i)
theorem c_put {G : tH} {z : mZ} {b : Nat} (hz : okZ z) (hb : b < 256) (h : T4 G z) : ∃ G', V_X8_put (nI b) G = some (none, G') ∧ T4 G' (ptZ z b) ∧ tfr (fun f _ => f = 800 ∨ f = 801) G G' := by
  obtain ⟨z1, z2⟩ := hz
  have e18 : okX b → ∃ G', V_X8_put_18 (nI b) G = some (none, G') ∧ T4 G' (ptZ z b) ∧ tfr (fun f _ => f = 800 ∨ f = 801) G G' := by
    intro hx
    rw [e_X8_put_18, e_X8_put_23, tn1, h.1, tltN (by omega) (by omega)]
    by_cases hl : z.1 < 1000
    · rw [if_pos hl, ttin hl (by omega), nI_clamp (by omega), rb_nr b hb]
      refine ⟨_, rfl, ?_, tfrI (tfr.sA (Or.inl rfl)) (Or.inr rfl)⟩
      rw [ptZ_1 ⟨hx, hl⟩]
      refine ⟨?_, fun i hi => ?_⟩
      · rw [gI_eq, gI_sA, h.1, nI_add]
      · show gA _ 800 0 i = nI (uX z.2 z.1 b i)
        rw [gA_sI, gA_eq]
        by_cases e : i = z.1
        · rw [e, upd_eq, uX_eq]
        · rw [upd_ne e, uX_ne e]; exact h.2 i (by have : i < z.1 + 1 := hi; omega)
    · rw [if_neg hl]
      refine ⟨_, rfl, ?_, tfr.rf⟩
      rw [ptZ_0 fun q => hl q.2]; exact h
  have e22 : ¬ okX b → ∃ G', V_X8_put_22 (nI b) G = some (none, G') ∧ T4 G' (ptZ z b) ∧ tfr (fun f _ => f = 800 ∨ f = 801) G G' := by
    intro hx
    rw [e_X8_put_22, e_X8_put_23, tn0]
    refine ⟨_, rfl, ?_, tfr.rf⟩
    rw [ptZ_0 fun q => hx q.1]; exact h
  rw [e_X8_put, teqN (by omega) (by omega), tltN (by omega) (by omega), tltN (by omega) (by omega)]
  by_cases q1 : b = 10
  · rw [if_pos q1]; exact e18 (Or.inl q1)
  · rw [if_neg q1]
    by_cases q2 : b < 32
    · rw [if_pos q2]; exact e22 (by unfold okX; omega)
    · rw [if_neg q2]
      by_cases q3 : 126 < b
      · rw [if_pos q3]; exact e22 (by unfold okX; omega)
      · rw [if_neg q3]; exact e18 (by unfold okX; omega)
theorem hI_dec (i : Nat) : nI i + (-1 : Int32) = hI i := by
  cases i with
  | zero => decide +kernel
  | succ i => rw [pk_m1, hI_pos (by omega)]; rfl
theorem c_bytes {n : Nat} (hn : n < 2 ^ 64) : ∀ i z G, i ≤ 8 → okZ z → T4 G z → ∃ G', V_X10_feedBytes_3 (lN n) (hI i) G = some (none, G') ∧ T4 G' (plZ n i z) ∧ tfr (fun f _ => f = 800 ∨ f = 801) G G' := by
  intro i
  induction i with
  | zero =>
    intro z G hi hz h
    rw [e_X10_feedBytes_3, tif_pos (by decide +kernel)]
    exact ⟨G, rfl, h, tfr.rf⟩
  | succ i ih =>
    intro z G hi hz h
    rw [e_X10_feedBytes_3, hI_pos (by omega), show i + 1 - 1 = i by omega, tlt0 (by omega), pk_mul, rc_byte hn (by omega)]
    obtain ⟨G1, e1, h1, f1⟩ := c_put hz (Nat.mod_lt (n / 2 ^ (8 * i)) (show 0 < 256 by omega)) h
    obtain ⟨G2, e2, h2, f2⟩ := ih _ G1 (by omega) (okZ_p hz) h1
    refine ⟨G2, ?_, h2, f1.tr f2⟩
    rw [e1, tbV_v, hI_dec, e2]
def h8 (i : Nat) : Int32 := if i = 0 then -8 else nI (8 * (i - 1))
theorem h8_dec (i : Nat) : nI (8 * i) + (-8 : Int32) = h8 i := by
  cases i with
  | zero => decide +kernel
  | succ i =>
    have h : nI (8 * (i + 1)) = nI (8 * i) + nI 8 := by rw [nI_add]; congr 1
    unfold h8
    rw [if_neg (by omega), h, Int32.add_assoc, show nI 8 + (-8 : Int32) = 0 by decide +kernel, Int32.add_zero]
    rfl
theorem r_bytes {n : Nat} : ∀ i z G, i ≤ 8 → okZ z → S4 G z → ∃ G', V_X11_lay_3 (lN n) (h8 i) G = some (none, G') ∧ S4 G' (plZ n i z) ∧ tfr (fun f _ => f = 1101 ∨ f = 1102) G G' := by
  intro i
  induction i with
  | zero =>
    intro z G hi hz h
    rw [e_X11_lay_3, tif_pos (by decide +kernel)]
    exact ⟨G, rfl, h, tfr.rf⟩
  | succ i ih =>
    intro z G hi hz h
    obtain ⟨z1, z2⟩ := id hz
    have hb : n / 2 ^ (8 * i) % 256 < 256 := Nat.mod_lt _ (by omega)
    have e0 : h8 (i + 1) = nI (8 * i) := by unfold h8; rw [if_neg (by omega)]; rfl
    have goes : ¬ okX (n / 2 ^ (8 * i) % 256) → ∃ G', V_X11_lay_3 (lN n) (nI (8 * i) + (-8 : Int32)) G = some (none, G') ∧ S4 G' (plZ n (i + 1) z) ∧ tfr (fun f _ => f = 1101 ∨ f = 1102) G G' := by
      intro hx
      obtain ⟨G2, e2, h2, f2⟩ := ih z G (by omega) hz h
      refine ⟨G2, by rw [h8_dec, e2], ?_, f2⟩
      rw [plZ, ptZ_0 fun q => hx q.1]
      exact h2
    have e38 : okX (n / 2 ^ (8 * i) % 256) → ∃ G', V_X11_lay_38 (lN n) (nI (8 * i)) (nI (n / 2 ^ (8 * i) % 256)) G = some (none, G') ∧ S4 G' (plZ n (i + 1) z) ∧ tfr (fun f _ => f = 1101 ∨ f = 1102) G G' := by
      intro hx
      rw [e_X11_lay_38, h.1, tltN (by omega) (by omega), plZ]
      by_cases hl : z.1 < 1000
      · rw [if_pos hl, ttin hl (by omega), nI_clamp (by omega)]
        dsimp only
        have h1 : S4 (sI (sA G 1101 0 (upd (gA G 1101 0) z.1 (nI (n / 2 ^ (8 * i) % 256)))) 1102 0 (gI (sA G 1101 0 (upd (gA G 1101 0) z.1 (nI (n / 2 ^ (8 * i) % 256)))) 1102 0 + nI 1)) (ptZ z (n / 2 ^ (8 * i) % 256)) := by
          rw [ptZ_1 ⟨hx, hl⟩]
          refine ⟨?_, fun j hj => ?_⟩
          · rw [gI_eq, gI_sA, h.1, nI_add]
          · show gA _ 1101 0 j = nI (uX z.2 z.1 _ j)
            rw [gA_sI, gA_eq]
            by_cases e : j = z.1
            · rw [e, upd_eq, uX_eq]
            · rw [upd_ne e, uX_ne e]; exact h.2 j (by have : j < z.1 + 1 := hj; omega)
        obtain ⟨G2, e2, h2, f2⟩ := ih _ _ (by omega) (okZ_p hz) h1
        refine ⟨G2, by rw [h8_dec, e2], h2, (tfrI (tfr.sA (Or.inl rfl)) (Or.inr rfl)).tr f2⟩
      · rw [if_neg hl, ptZ_0 fun q => hl q.2]
        obtain ⟨G2, e2, h2, f2⟩ := ih z G (by omega) hz h
        exact ⟨G2, by rw [h8_dec, e2], h2, f2⟩
    rw [e0, e_X11_lay_3, tlt0 (by omega), rb_byte (by omega), teqN (by omega) (by omega), tltN (by omega) (by omega), tltN (by omega) (by omega)]
    by_cases q1 : n / 2 ^ (8 * i) % 256 = 10
    · rw [if_pos q1]; exact e38 (Or.inl q1)
    · rw [if_neg q1]
      by_cases q2 : n / 2 ^ (8 * i) % 256 < 32
      · rw [if_pos q2]; exact goes (by unfold okX; omega)
      · rw [if_neg q2]
        by_cases q3 : 126 < n / 2 ^ (8 * i) % 256
        · rw [if_pos q3]; exact goes (by unfold okX; omega)
        · rw [if_neg q3]; exact e38 (by unfold okX; omega)
theorem p_feed (y1 y3 y5 : Int64) {G : tH} (h : INV G) : PAIR (V_X10_feed y1 y3 y5) (V_X11_feed y1 y3 y5) G := by
  obtain ⟨p, fr, q, pr, lw, σ, τ, ν, L, tx, nm, hM, hN, hC, hR⟩ := id h
  obtain ⟨ho, hs, hu, hM4, hM5, hM6, hM7, hM8, hM9, hM10, hM11, hM12⟩ := id hM
  obtain ⟨n1, hn1, rfl⟩ := wb_of y1
  obtain ⟨n2, hn2, rfl⟩ := wb_of y3
  obtain ⟨n3, hn3, rfl⟩ := wb_of y5
  have k0 : okZ (ν 3, tx) := ⟨hM11, hM12⟩
  have k1 := okZ_l n1 8 _ k0
  have k2 := okZ_l n2 8 _ k1
  have k3 := okZ_l n3 8 _ k2
  obtain ⟨G1, e1, t1, f1⟩ := c_bytes hn1 8 (ν 3, tx) G (by omega) k0 hC.2.2.2.1
  obtain ⟨G2, e2, t2, f2⟩ := c_bytes hn2 8 _ G1 (by omega) k1 t1
  obtain ⟨G3, e3, t3, f3⟩ := c_bytes hn3 8 _ G2 (by omega) k2 t2
  have fc : tfr (fun f _ => f = 800 ∨ f = 801) G G3 := (f1.tr f2).tr f3
  have fr0 : tfr (fun f _ => f = 800 ∨ f = 801 ∨ f = 1100) G (sI G3 1100 0 (nI 0)) := tfrI (fc.mono fun f o z => by omega) (by omega)
  have s0 : S4 (sI G3 1100 0 (nI 0)) (ν 3, tx) := by
    have := hR.2.2.2.1.kept fr0 (by omega) (by omega)
    exact this
  obtain ⟨G4, e4, t4, f4⟩ := r_bytes (n := n1) 8 (ν 3, tx) _ (by omega) k0 s0
  obtain ⟨G5, e5, t5, f5⟩ := r_bytes (n := n2) 8 _ G4 (by omega) k1 t4
  obtain ⟨G6, e6, t6, f6⟩ := r_bytes (n := n3) 8 _ G5 (by omega) k2 t5
  obtain ⟨zz, hzz⟩ : ∃ zz, zz = plZ n3 8 (plZ n2 8 (plZ n1 8 (ν 3, tx))) := ⟨_, rfl⟩
  rw [← hzz] at t3 t6 k3
  have fr4 : tfr (fun f _ => f = 1101 ∨ f = 1102) (sI G3 1100 0 (nI 0)) G6 := (f4.tr f5).tr f6
  have frr : tfr (fun f _ => 1100 ≤ f) G3 G6 := (tfrI tfr.rf (by omega)).tr (fr4.mono fun f o z => by omega)
  have fa : tfr (fun f _ => f = 800 ∨ f = 801 ∨ f = 1100 ∨ f = 1101 ∨ f = 1102) G G6 := (fr0.mono fun f o z => by omega).tr (fr4.mono fun f o z => by omega)
  refine ⟨nI zz.1, G3, G6, ?_, ?_, p, fr, q, pr, lw, σ, τ, uX ν 3 zz.1, L, zz.2, nm, ?_, hN, ?_, ?_⟩
  · rw [e_X10_feed, e_X10_feedBytes, show nI 7 = hI 8 by decide +kernel, e1, tbV_v, e_X10_feedBytes, show nI 7 = hI 8 by decide +kernel, e2, tbV_v, e_X10_feedBytes, show nI 7 = hI 8 by decide +kernel, e3, tbV_v, t3.1]
  · rw [e_X11_feed]
    dsimp only
    rw [e_X11_lay, show nI 56 = h8 8 by decide +kernel, e4, tbV_v, e_X11_lay, show nI 56 = h8 8 by decide +kernel, e5, tbV_v, e_X11_lay, show nI 56 = h8 8 by decide +kernel, e6, tbV_v, t6.1]
  · exact ⟨ho, hs, hu, hM4, hM5, hM6, hM7, hM8, hM9, hM10, k3.1, k3.2⟩
  · obtain ⟨d1, d2, d3, d4, d5⟩ := hC
    refine ⟨d1.kept fa fun f o z => by omega, d2.kept fa fun f o z => by omega, d3.kept fa fun f o z => by omega, ?_, d5.kept fa fun f o z => by omega⟩
    have t3' : C4 G3 (uX ν 3 zz.1) zz.2 := t3
    exact t3'.kept frr fun f o z => by omega
  · obtain ⟨d1, d2, d3, d4, d5, d6⟩ := hR
    refine ⟨d1.kept fa (by omega) (by omega) (by omega) (by omega) (by omega), d2.ext rfl (fa 1126 0 (by omega)).2.2.2.1 (fun k _ _ => by rw [(fa 1124 0 (by omega)).2.2.2.1]), d3.kept fa (by omega), t6, d5.kept fa (by omega) (by omega) (by omega), d6.kept fa (by omega)⟩
