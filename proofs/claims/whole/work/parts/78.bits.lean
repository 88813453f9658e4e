/-! PURE: bits -/
theorem nI_and (a b : Nat) : nI a &&& nI b = nI (a &&& b) := Int32.toBitVec_inj.1 (by show BitVec.ofNat 32 a &&& BitVec.ofNat 32 b = BitVec.ofNat 32 (a &&& b); rw [BitVec.ofNat_and])
theorem nI_or (a b : Nat) : nI a ||| nI b = nI (a ||| b) := Int32.toBitVec_inj.1 (by show BitVec.ofNat 32 a ||| BitVec.ofNat 32 b = BitVec.ofNat 32 (a ||| b); rw [BitVec.ofNat_or])
theorem nI_xor (a b : Nat) : nI a ^^^ nI b = nI (a ^^^ b) := Int32.toBitVec_inj.1 (by show BitVec.ofNat 32 a ^^^ BitVec.ofNat 32 b = BitVec.ofNat 32 (a ^^^ b); rw [BitVec.ofNat_xor])
theorem nI_shl1 : ∀ k, k < 32 → (nI 1 <<< (nI k &&& 31)) = nI (2 ^ k) := by decide +kernel
theorem amt_k : ∀ k, k < 32 → ((nI k).toUInt32 &&& Int32.toUInt32 31).toBitVec.toNat = k := by decide +kernel
theorem nI_ushr {n k : Nat} (hn : n < 2 ^ 32) (hk : k < 32) : ((nI n).toUInt32 >>> ((nI k).toUInt32 &&& Int32.toUInt32 31)).toInt32 = nI (n / 2 ^ k) := by
  apply Int32.toBitVec_inj.1
  show (((nI n).toUInt32 >>> ((nI k).toUInt32 &&& Int32.toUInt32 31)).toBitVec) = BitVec.ofNat 32 (n / 2 ^ k)
  rw [UInt32.toBitVec_shiftRight]
  apply BitVec.eq_of_toNat_eq
  have h1 : (((nI k).toUInt32 &&& Int32.toUInt32 31).toBitVec % 32).toNat = k := by
    rw [BitVec.toNat_umod, amt_k k hk]
    exact Nat.mod_eq_of_lt hk
  have h2 : ((nI n).toUInt32.toBitVec).toNat = n := by
    show (BitVec.ofNat 32 n).toNat = n
    rw [BitVec.toNat_ofNat]
    exact Nat.mod_eq_of_lt hn
  rw [BitVec.ushiftRight_eq', BitVec.toNat_ushiftRight, h1, h2, BitVec.toNat_ofNat, Nat.shiftRight_eq_div_pow]
  have := Nat.div_le_self n (2 ^ k)
  rw [Nat.mod_eq_of_lt (by omega)]
theorem nI_bit {n k : Nat} (hn : n < 2 ^ 32) (hk : k < 32) : (((nI n).toUInt32 >>> ((nI k).toUInt32 &&& Int32.toUInt32 31)).toInt32 &&& nI 1) = nI (n / 2 ^ k % 2) := by
  rw [nI_ushr hn hk, nI_and, Nat.and_one_is_mod]
/-! how many bits -/
theorem and_256 {a b m n : Nat} (ha : a < 256) (hm : m < 256) : (a + 256 * b) &&& (m + 256 * n) = (a &&& m) + 256 * (b &&& n) := by
  have h1 : ((a + 256 * b) &&& (m + 256 * n)) % 2 ^ 8 = a &&& m := by
    rw [Nat.and_mod_two_pow]
    rw [show (a + 256 * b) % 2 ^ 8 = a by omega, show (m + 256 * n) % 2 ^ 8 = m by omega]
  have h2 : ((a + 256 * b) &&& (m + 256 * n)) / 2 ^ 8 = b &&& n := by
    rw [Nat.and_div_two_pow]
    rw [show (a + 256 * b) / 2 ^ 8 = b by omega, show (m + 256 * n) / 2 ^ 8 = n by omega]
  have h3 := Nat.div_add_mod ((a + 256 * b) &&& (m + 256 * n)) (2 ^ 8)
  rw [h1, h2] at h3
  omega
def b4 (a b c d : Nat) : Nat := a + 256 * (b + 256 * (c + 256 * d))
theorem b4_and {a b c d m : Nat} (ha : a < 256) (hb : b < 256) (hc : c < 256) (hm : m < 256) : b4 a b c d &&& b4 m m m m = b4 (a &&& m) (b &&& m) (c &&& m) (d &&& m) := by
  unfold b4
  rw [and_256 ha hm, and_256 hb hm, and_256 hc hm]
def p1 (a : Nat) : Nat := a - (a / 2 &&& 85)
def p2 (a : Nat) : Nat := (p1 a &&& 51) + (p1 a / 4 &&& 51)
def p8 (a : Nat) : Nat := a % 2 + a / 2 % 2 + a / 4 % 2 + a / 8 % 2 + a / 16 % 2 + a / 32 % 2 + a / 64 % 2 + a / 128 % 2
theorem by_1 : ∀ a, a < 256 → (a / 2 &&& 85) ≤ a ∧ (a / 2 + 128 &&& 85) = (a / 2 &&& 85) := by decide +kernel
theorem by_2 : ∀ a, a < 256 → ∀ r, r < 4 → (p1 a / 4 + 64 * r &&& 51) = (p1 a / 4 &&& 51) := by decide +kernel
theorem by_3 : ∀ a, a < 256 → p2 a ≤ 68 ∧ p2 a % 16 ≤ 4 := by decide +kernel
theorem by_4 : ∀ a, a < 256 → ∀ r, r < 5 → (p2 a + (p2 a / 16 + 16 * r) &&& 15) = p8 a := by decide +kernel
theorem p8_le (a : Nat) : p8 a ≤ 8 := by unfold p8; omega
theorem fold4 {a b c d : Nat} (ha : a ≤ 8) (hb : b ≤ 8) (hc : c ≤ 8) (hd : d ≤ 8) : (b4 a b c d + b4 a b c d / 256 + (b4 a b c d + b4 a b c d / 256) / 65536) % 2 ^ 6 = a + b + c + d := by
  have h1 : b4 a b c d / 256 = b + 256 * (c + 256 * d) := by unfold b4; omega
  have h2 : b4 a b c d + b4 a b c d / 256 = (a + b) + 256 * (b + c) + 65536 * (c + d + 256 * d) := by rw [h1]; unfold b4; omega
  have h3 : (b4 a b c d + b4 a b c d / 256) / 65536 = c + d + 256 * d := by rw [h2]; omega
  rw [h3, h2]
  omega
theorem pop4 {a b c d : Nat} (ha : a < 256) (hb : b < 256) (hc : c < 256) (hd : d < 256) :
    let z1 := b4 a b c d - (b4 a b c d / 2 &&& 1431655765)
    let z2 := (z1 &&& 858993459) + (z1 / 4 &&& 858993459)
    let z3 := z2 + z2 / 16 &&& 252645135
    let z4 := z3 + z3 / 256
    let z5 := z4 + z4 / 65536
    (b4 a b c d / 2 &&& 1431655765) ≤ b4 a b c d ∧ z1 < 2 ^ 32 ∧ z2 < 2 ^ 32 ∧ z3 < 2 ^ 32 ∧ z4 < 2 ^ 32 ∧ (z5 &&& 63) = p8 a + p8 b + p8 c + p8 d := by
  have e1 : b4 a b c d / 2 = b4 (a / 2 + 128 * (b % 2)) (b / 2 + 128 * (c % 2)) (c / 2 + 128 * (d % 2)) (d / 2) := by unfold b4; omega
  have m1 : ∀ x r, x < 256 → r < 2 → (x / 2 + 128 * r &&& 85) = (x / 2 &&& 85) := by
    intro x r hx hr
    rcases (show r = 0 ∨ r = 1 by omega) with rfl | rfl
    · rfl
    · exact (by_1 x hx).2
  have e2 : (b4 a b c d / 2 &&& 1431655765) = b4 (a / 2 &&& 85) (b / 2 &&& 85) (c / 2 &&& 85) (d / 2 &&& 85) := by
    rw [e1, show (1431655765 : Nat) = b4 85 85 85 85 from rfl, b4_and (by omega) (by omega) (by omega) (by omega), m1 a _ ha (by omega), m1 b _ hb (by omega), m1 c _ hc (by omega)]
  have la := (by_1 a ha).1
  have lb := (by_1 b hb).1
  have lc := (by_1 c hc).1
  have ld := (by_1 d hd).1
  have e3 : b4 a b c d - (b4 a b c d / 2 &&& 1431655765) = b4 (p1 a) (p1 b) (p1 c) (p1 d) := by
    rw [e2]; unfold b4 p1; omega
  have q : ∀ x, x < 256 → p1 x < 256 := fun x hx => by unfold p1; omega
  have qa := q a ha
  have qb := q b hb
  have qc := q c hc
  have qd := q d hd
  have e4 : b4 (p1 a) (p1 b) (p1 c) (p1 d) / 4 = b4 (p1 a / 4 + 64 * (p1 b % 4)) (p1 b / 4 + 64 * (p1 c % 4)) (p1 c / 4 + 64 * (p1 d % 4)) (p1 d / 4) := by unfold b4; omega
  have e5 : (b4 (p1 a) (p1 b) (p1 c) (p1 d) &&& 858993459) + (b4 (p1 a) (p1 b) (p1 c) (p1 d) / 4 &&& 858993459) = b4 (p2 a) (p2 b) (p2 c) (p2 d) := by
    rw [e4, show (858993459 : Nat) = b4 51 51 51 51 from rfl, b4_and qa qb qc (by omega), b4_and (by omega) (by omega) (by omega) (by omega), by_2 a ha _ (by omega), by_2 b hb _ (by omega), by_2 c hc _ (by omega)]
    unfold b4 p2; omega
  obtain ⟨sa, ta⟩ := by_3 a ha
  obtain ⟨sb, tb⟩ := by_3 b hb
  obtain ⟨sc, tc⟩ := by_3 c hc
  obtain ⟨sd, td⟩ := by_3 d hd
  have e6 : b4 (p2 a) (p2 b) (p2 c) (p2 d) + b4 (p2 a) (p2 b) (p2 c) (p2 d) / 16 = b4 (p2 a + (p2 a / 16 + 16 * (p2 b % 16))) (p2 b + (p2 b / 16 + 16 * (p2 c % 16))) (p2 c + (p2 c / 16 + 16 * (p2 d % 16))) (p2 d + (p2 d / 16 + 16 * 0)) := by unfold b4; omega
  have e7 : (b4 (p2 a) (p2 b) (p2 c) (p2 d) + b4 (p2 a) (p2 b) (p2 c) (p2 d) / 16 &&& 252645135) = b4 (p8 a) (p8 b) (p8 c) (p8 d) := by
    rw [e6, show (252645135 : Nat) = b4 15 15 15 15 from rfl, b4_and (by omega) (by omega) (by omega) (by omega), by_4 a ha _ (by omega), by_4 b hb _ (by omega), by_4 c hc _ (by omega), by_4 d hd _ (by omega)]
  have ra := p8_le a
  have rb := p8_le b
  have rc := p8_le c
  have rd := p8_le d
  intro z1 z2 z3 z4 z5
  have h1 : z1 = b4 (p1 a) (p1 b) (p1 c) (p1 d) := e3
  have h2 : z2 = b4 (p2 a) (p2 b) (p2 c) (p2 d) := by show (z1 &&& 858993459) + (z1 / 4 &&& 858993459) = _; rw [h1, e5]
  have h3 : z3 = b4 (p8 a) (p8 b) (p8 c) (p8 d) := by show (z2 + z2 / 16 &&& 252645135) = _; rw [h2, e7]
  have h4 : z4 = z3 + z3 / 256 := rfl
  have h5 : z5 = z4 + z4 / 65536 := rfl
  refine ⟨?_, ?_, ?_, ?_, ?_, ?_⟩
  · rw [e2]; unfold b4; omega
  · rw [h1]; unfold b4; omega
  · rw [h2]; unfold b4; omega
  · rw [h3]; unfold b4; omega
  · rw [h4, h3]; unfold b4; omega
  · rw [show (63 : Nat) = 2 ^ 6 - 1 from rfl, Nat.and_two_pow_sub_one_eq_mod, h5, h4, h3]
    exact fold4 ra rb rc rd
def bitN (n k : Nat) : Nat := n / 2 ^ k % 2
theorem sum8 {n a b : Nat} (h : n = a + 256 * b) (ha : a < 256) : ∀ m, sumN (bitN n) (8 + m) = p8 a + sumN (bitN b) m
  | 0 => by
    subst h
    show 0 + bitN _ 0 + bitN _ 1 + bitN _ 2 + bitN _ 3 + bitN _ 4 + bitN _ 5 + bitN _ 6 + bitN _ 7 = p8 a + 0
    unfold bitN p8
    omega
  | m + 1 => by
    have ih := sum8 h ha m
    show sumN (bitN n) (8 + m) + bitN n (8 + m) = p8 a + (sumN (bitN b) m + bitN b m)
    have : bitN n (8 + m) = bitN b m := by
      unfold bitN
      rw [Nat.pow_add, ← Nat.div_div_eq_div_mul, show n / 2 ^ 8 = b by omega]
    omega
theorem sum32 {n a b c d : Nat} (h : n = b4 a b c d) (ha : a < 256) (hb : b < 256) (hc : c < 256) (hd : d < 256) : sumN (bitN n) 32 = p8 a + p8 b + p8 c + p8 d := by
  have h1 : sumN (bitN n) 32 = _ := sum8 (n := n) (a := a) (b := b + 256 * (c + 256 * d)) (by rw [h]; rfl) ha 24
  have h2 : sumN (bitN (b + 256 * (c + 256 * d))) 24 = _ := sum8 (n := b + 256 * (c + 256 * d)) (a := b) (b := c + 256 * d) rfl hb 16
  have h3 : sumN (bitN (c + 256 * d)) 16 = _ := sum8 (n := c + 256 * d) (a := c) (b := d) rfl hc 8
  have h4 : sumN (bitN d) 8 = _ := sum8 (n := d) (a := d) (b := 0) (by omega) hd 0
  have h5 : sumN (bitN 0) 0 = 0 := rfl
  omega
theorem v_bits {G : tH} {n : Nat} (hn : n < 2 ^ 32) : V_J6_bitCount_0f7a4 (nI n) G = some (some (vI (nI (sumN (bitN n) 32))), G) := by
  have hb : n = b4 (n % 256) (n / 256 % 256) (n / 65536 % 256) (n / 16777216) := by unfold b4; omega
  have h32 := sum32 hb (by omega) (by omega) (by omega) (by omega)
  obtain ⟨w1, w2, w3, w4, w5, w6⟩ := pop4 (a := n % 256) (b := n / 256 % 256) (c := n / 65536 % 256) (d := n / 16777216) (by omega) (by omega) (by omega) (by omega)
  rw [← hb] at w1 w2 w3 w4 w5 w6
  rw [e_J6_bitCount_0f7a4, h32, ← w6]
  dsimp only
  rw [nI_ushr hn (by omega), nI_and, nI_sub w1, nI_ushr w2 (by omega), nI_and, nI_and, nI_add, nI_ushr w3 (by omega), nI_add, nI_and, nI_ushr w4 (by omega), nI_add, nI_ushr w5 (by omega), nI_add, nI_and]
