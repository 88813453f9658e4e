/-! PURE: statements of a province that enter a name -/
def dfl (i : Nat) : List mC := if i = 0 then [(1, 20)] else [(2, 2)]
def LW (Gc Gr : tH) (p cd i : Nat) : Prop := ∃ cs, CL Gc (2 * p + i) cs ∧ cs.length ≤ 1000 ∧ (∀ x, x ∈ cs → okc x) ∧ hs cs 0 = some 1 ∧ ((gA Gr 1110 0 (66 + i) = -1 ∧ cs = dfl i) ∨ ∃ f, gA Gr 1110 0 (66 + i) = nI f ∧ RC (gA Gr 1111 0) (gA Gr 1112 0) (1100 + f) cs ∧ f + cs.length < cd)
def PV (z : mZ) (N p : Nat) (Gc Gr : tH) (k : Nat) (pr : mP) (nm : Nat → Nat → List Nat) (ob mn cd : Nat) : Prop := CT Gc z k ∧ gI Gc 808 0 = nI 0 ∧ RT Gr z N k ∧ DC Gc p pr nm ob ∧ DR Gr pr nm ob mn ∧ okP pr ∧ NU (cntP pr) nm ∧ ob < 16 ∧ gI Gr 1113 0 = nI cd ∧ cd ≤ k ∧ LW Gc Gr p cd 0 ∧ LW Gc Gr p cd 1
def zPc (p : Nat) : Nat → Nat → Prop := fun f o => (802 ≤ f ∧ f ≤ 808) ∨ (500 ≤ f ∧ f < 600 ∧ o = p) ∨ ((f = 600 ∨ f = 601) ∧ o / 4 = p) ∨ ((f = 200 ∨ f = 201) ∧ o / 2 = p)
def zPr : Nat → Nat → Prop := fun f _ => f = 1107 ∨ f = 1108 ∨ f = 1110 ∨ f = 1111 ∨ f = 1112 ∨ f = 1113 ∨ f = 1115 ∨ f = 1117 ∨ f = 1119 ∨ f = 1120
def FP (p : Nat) (Gc Gr Gc' Gr' : tH) : Prop := tfr (zPc p) Gc Gc' ∧ tfr zPr Gr Gr' ∧ (∀ i, i < 60 → gA Gr' 1110 0 i = gA Gr 1110 0 i) ∧ ∀ i, i < 1100 → gA Gr' 1111 0 i = gA Gr 1111 0 i ∧ gA Gr' 1112 0 i = gA Gr 1112 0 i
theorem FP.tr {p : Nat} {Gc Gr Gc1 Gr1 Gc2 Gr2 : tH} (h : FP p Gc Gr Gc1 Gr1) (h' : FP p Gc1 Gr1 Gc2 Gr2) : FP p Gc Gr Gc2 Gr2 := ⟨h.1.tr h'.1, h.2.1.tr h'.2.1, fun i hi => (h'.2.2.1 i hi).trans (h.2.2.1 i hi), fun i hi => ⟨(h'.2.2.2 i hi).1.trans (h.2.2.2 i hi).1, (h'.2.2.2 i hi).2.trans (h.2.2.2 i hi).2⟩⟩
theorem FP.rf {p : Nat} {Gc Gr : tH} : FP p Gc Gr Gc Gr := ⟨tfr.rf, tfr.rf, fun _ _ => rfl, fun _ _ => ⟨rfl, rfl⟩⟩
def SUP (z : mZ) (N p : Nat) (rc rr : Option tRes) (Gc Gr : tH) (k : Nat) : Prop := ∃ Gc' Gr' k' pr nm ob mn cd, rc = some (some (vI (nI 1)), Gc') ∧ rr = some (none, Gr') ∧ PV z N p Gc' Gr' k' pr nm ob mn cd ∧ k < k' ∧ FP p Gc Gr Gc' Gr'
def FAP (p : Nat) (rc rr : Option tRes) (Gc Gr : tH) : Prop := ∃ Gc' Gr' v, rc = some (some (vI (nI 0)), Gc') ∧ gI Gc' 808 0 = nI v ∧ rr = some (none, Gr') ∧ RF Gr' v ∧ FP p Gc Gr Gc' Gr'
theorem LW.kept {Gc Gr Gc' Gr' : tH} {p cd cd' i : Nat} (h : LW Gc Gr p cd i) (h1 : gA Gc' 200 (2 * p + i) = gA Gc 200 (2 * p + i)) (h2 : gI Gc' 201 (2 * p + i) = gI Gc 201 (2 * p + i)) (h3 : gA Gr' 1110 0 (66 + i) = gA Gr 1110 0 (66 + i)) (h4 : ∀ m, m < 1100 + cd → gA Gr' 1111 0 m = gA Gr 1111 0 m ∧ gA Gr' 1112 0 m = gA Gr 1112 0 m) (hcd : cd ≤ cd') : LW Gc' Gr' p cd' i := by
  obtain ⟨cs, a1, a2, a3, a4, a5⟩ := h
  refine ⟨cs, ?_, a2, a3, a4, ?_⟩
  · unfold CL; rw [h1, h2]; exact a1
  · rw [h3]
    rcases a5 with a5 | ⟨f, b1, b2, b3⟩
    · exact Or.inl a5
    · refine Or.inr ⟨f, b1, ⟨fun j hj => ?_, ?_⟩, by omega⟩
      · rw [(h4 _ (by omega)).1, (h4 _ (by omega)).2]; exact b2.1 j hj
      · rw [(h4 _ (by omega)).1]; exact b2.2
/-- a pair of readers of a value -/
def RD (z : mZ) (N : Nat) (Ec Er : tH → Prop) (Fc Fr : tH → Option tRes) (P : Nat → Prop) : Prop := (∀ Gc Gr k, CT Gc z k → gI Gc 808 0 = nI 0 → RT Gr z N k → Ec Gc → Er Gr → (∃ x k' Gc' Gr', Fc Gc = some (some (vI (nI x)), Gc') ∧ Fr Gr = some (some (vI (nI x)), Gr') ∧ P x ∧ x < 2 ^ 31 ∧ CT Gc' z k' ∧ RT Gr' z N k' ∧ k < k' ∧ tfr zTk Gc Gc' ∧ tfr (fun f _ => f = 1107) Gr Gr') ∨ (∃ v Gc' Gr', Fc Gc = some (some (vI (-1)), Gc') ∧ gI Gc' 808 0 = nI v ∧ Fr Gr = some (some (vI (nI 0)), Gr') ∧ RF Gr' v ∧ tfr (fun f _ => 802 ≤ f ∧ f ≤ 808) Gc Gc' ∧ tfr (fun f _ => f = 1107 ∨ f = 1108) Gr Gr')) ∧ ∀ G v, RF G v → Fr G = some (some (vI (nI 0)), G)
theorem rd_one {z : mZ} {N o fr : Nat} (hT : TK z N) (ho : 1 ≤ o) (ho2 : o ≤ 14) (hf : fr + 4 ≤ 38) (h : ∀ n, n ≤ 38 → fi (sW o) 0 n = if fr ≤ n ∧ n < fr + 4 then some (n - fr) else none) : RD z N (fun _ => True) (fun _ => True) (V_X8_readAmong o) (V_X11_takeOne (nI fr) (nI 4)) (fun x => x ≤ 3) := by
  refine ⟨fun Gc Gr k hc h0 hr _ _ => ?_, fun G v hv => r_oneF hv⟩
  by_cases q : fr ≤ wN z k ∧ wN z k < fr + 4
  · obtain ⟨G', e, c1, f1⟩ := c_amg1 (j := wN z k - fr) hT hc ho ho2 (by rw [h _ wN_le, if_pos q]) (by omega)
    exact Or.inl ⟨wN z k - fr, k + 1, G', _, e, r_one1 hT hr hf q, by omega, by omega, c1, hr.at (wN_k hT hr.2.1 rfl (by omega)), by omega, f1, tfr.sI rfl⟩
  · exact Or.inr ⟨fv z k 1, _, _, c_amg0 hc h0 ho ho2 (by rw [h _ wN_le, if_neg q]), gI_eq, r_one0 hT hr hf q, RT.bad hT (by omega) (by omega), tfr.sI (by omega), tfr.sI (by omega)⟩
theorem rd_aft {z : mZ} {N o w lo hi : Nat} (hT : TK z N) (ho : 1 ≤ o) (ho2 : o ≤ 14) (hw : w < 38) (h : ∀ n, n ≤ 38 → fi (sW o) 0 n = if n = w then some 0 else none) (hlo : lo < 2 ^ 31) (hhi : hi < 2 ^ 31) : RD z N (fun _ => True) (fun _ => True) (V_X8_readNumberBehind o (nI lo) (nI hi)) (V_X11_takeAfter (nI w) (nI lo) (nI hi)) (fun x => lo ≤ x ∧ x ≤ hi) := by
  refine ⟨fun Gc Gr k hc h0 hr _ _ => ?_, fun G v hv => r_aftF hv⟩
  by_cases q : wN z k = w
  · have hj : fi (sW o) 0 (wN z k) = some 0 := by rw [h _ wN_le, if_pos q]
    have hk1 := wN_k hT hr.2.1 q hw
    by_cases q2 : isN z (k + 1) lo hi
    · obtain ⟨G', e, c1, f1⟩ := c_bhd1 hT hc ho ho2 hj (by omega) hlo hhi q2
      have hk2 := hT.lt hk1 (by have := q2.1; omega)
      exact Or.inl ⟨nv z (k + 1), k + 2, G', _, e, r_aft1 hT hr hw q hlo hhi q2, q2.2, by have := nv_lt q2.1; omega, c1, (hr.at hk1).at hk2, by omega, f1, tfrI (tfr.sI rfl) rfl⟩
    · obtain ⟨G', e, c1, f1⟩ := c_bhdB hT hc h0 ho ho2 hj (by omega) hlo hhi q2
      exact Or.inr ⟨_, G', _, e, c1, r_aftB hT hr hw q hlo hhi q2, RT.bad hT nf_in.1 nf_in.2, f1, tfrI (tfr.sI (Or.inl rfl)) (Or.inr rfl)⟩
  · exact Or.inr ⟨fv z k 1, _, _, c_bhdA hc h0 ho ho2 (by rw [h _ wN_le, if_neg q]), gI_eq, r_aftA hT hr hw q, RT.bad hT (by omega) (by omega), tfr.sI (by omega), tfr.sI (by omega)⟩
theorem rd_told {z : mZ} {N b r j : Nat} {cnt : Nat → Nat} {nm : Nat → Nat → List Nat} (hT : TK z N) (hU : NU cnt nm) (hj : j < 4) (hb : b ≤ 1) : RD z N (fun G => NC G r (cnt j) (nm j)) (fun G => ∃ mn, gI G (fM b) 0 = nI mn ∧ NR (gB G (fB b) 0) (gA G (fA b) 0) mn cnt nm) (V_X8_readKnown r) (V_X11_takeTold (nI b) (nI (20 * j))) (fun x => x < cnt j) := by
  refine ⟨fun Gc Gr k hc h0 hr hNC hNR => ?_, fun G v hv => r_toldF hv⟩
  obtain ⟨mn, hM, hR⟩ := hNR
  have h6 := hU.le hj
  by_cases q : isNa z k
  · by_cases q2 : ∃ i, i < cnt j ∧ nm j i = wl z k
    · obtain ⟨i, hi, he⟩ := q2
      obtain ⟨G', e, c1, f1⟩ := c_known1 hT hc hNC q hi he (fun i' hi' he' => (hU.2.2.2.2.2 j i' j i hj hi' hj hi (by rw [he', he])).2)
      exact Or.inl ⟨i, k + 1, G', _, e, r_told1 hT hr q hb hM hR hU hj hi he, hi, by omega, c1, hr.at (hT.lt hr.2.1 (by have := q.1; omega)), by omega, f1, tfr.sI rfl⟩
    · have q3 : ∀ i, i < cnt j → nm j i ≠ wl z k := fun i hi he => q2 ⟨i, hi, he⟩
      exact Or.inr ⟨fv z k 2, _, _, c_known0 hc h0 hNC q q3, gI_eq, r_told0 hT hr q hb hM hR hU hj q3, RT.bad hT (by omega) (by omega), tfr.sI (by omega), tfr.sI (by omega)⟩
  · exact Or.inr ⟨fv z k 1, _, _, c_knownN hc h0 q, gI_eq, r_toldN hT hr q, RT.bad hT (by omega) (by omega), tfr.sI (by omega), tfr.sI (by omega)⟩
theorem rd_num {z : mZ} {N lo hi : Nat} (hT : TK z N) (hlo : lo < 2 ^ 31) (hhi : hi < 2 ^ 31) : RD z N (fun _ => True) (fun _ => True) (V_X8_readNumber (nI lo) (nI hi)) (V_X11_takeNumber (nI lo) (nI hi)) (fun x => lo ≤ x ∧ x ≤ hi) := by
  refine ⟨fun Gc Gr k hc h0 hr _ _ => ?_, fun G v hv => r_numF hv⟩
  by_cases q : isN z k lo hi
  · obtain ⟨G', e, c1, f1⟩ := c_num1 hT hc hlo hhi q
    exact Or.inl ⟨nv z k, k + 1, G', _, e, r_num1 hT hr hlo hhi q, q.2, by have := nv_lt q.1; omega, c1, hr.at (hT.lt hr.2.1 (by have := q.1; omega)), by omega, f1, tfr.sI rfl⟩
  · exact Or.inr ⟨_, _, _, c_num0 hc h0 hlo hhi q, gI_eq, r_num0 hT hr hlo hhi q, RT.bad hT nf_in.1 nf_in.2, tfr.sI (by omega), tfr.sI (by omega)⟩
/-! the ends of such a statement -/
noncomputable def cTail (F1 F2 : tH → Option tRes) (fa fb p m : Nat) (r2 : Int32) (G1 : tH) : Option tRes := tbI (F1 G1) (fun r_4 G_3 => tif (tin r2 m) (let G_5 := sA G_3 fa p (upd (gA G_3 fa p) r2.toNatClampNeg r_4)
  tif (tin r2 m) (tif ((gA G_5 fa p r2.toNatClampNeg) = (-1 : Int32)) (tif (vp_nar .boolean (nI 0) = (nI 0)) (some (some (vI (nI 0)), G_5)) none)
  (tbI (F2 G_5) (fun r_7 G_6 => tif (tin r2 m) (let G_8 := sA G_6 fb p (upd (gA G_6 fb p) r2.toNatClampNeg r_7)
  tif (tin r2 m) (tif ((gA G_8 fb p r2.toNatClampNeg) = (-1 : Int32)) (tif (vp_nar .boolean (nI 0) = (nI 0)) (some (some (vI (nI 0)), G_8)) none)
  (tif (vp_nar .boolean (nI 1) = (nI 1)) (some (some (vI (nI 1)), G_8)) none)) none) none))) none) none)
noncomputable def rTail (F1 F2 : tH → Option tRes) (B C : Nat) (Gi G1 : tH) : Option tRes := tbI (F1 G1) (fun r_41 G_40 => tif (tin ((nI B) + ((nI 2) * (gA Gi 1110 0 (nI C).toNatClampNeg))) 120) (let G_42 := sA G_40 1110 0 (upd (gA G_40 1110 0) ((nI B) + ((nI 2) * (gA Gi 1110 0 (nI C).toNatClampNeg))).toNatClampNeg r_41)
  tbI (F2 G_42) (fun r_44 G_43 => tif (tin (((nI B) + ((nI 2) * (gA Gi 1110 0 (nI C).toNatClampNeg))) + (nI 1)) 120) (let G_45 := sA G_43 1110 0 (upd (gA G_43 1110 0) (((nI B) + ((nI 2) * (gA Gi 1110 0 (nI C).toNatClampNeg))) + (nI 1)).toNatClampNeg r_44)
  tif (tin (nI C) 120) (tif (tin (nI C) 120) (let G_46 := sA G_45 1110 0 (upd (gA G_45 1110 0) (nI C).toNatClampNeg ((gA G_45 1110 0 (nI C).toNatClampNeg) + (nI 1)))
  some (none, G_46)) none) none) none)) none)
theorem cT_0 {F1 F2 : tH → Option tRes} {fa fb p m n : Nat} {G1 G3 : tH} (hn : n < m) (hm : m ≤ 6) (e1 : F1 G1 = some (some (vI (-1)), G3)) : cTail F1 F2 fa fb p m (nI n) G1 = some (some (vI (nI 0)), sA G3 fa p (upd (gA G3 fa p) n (-1))) := by
  unfold cTail
  rw [e1, tbI_v, ttin hn (by omega)]
  dsimp only
  rw [ttin hn (by omega), nI_clamp (by omega), gA_eq, upd_eq, tif_pos rfl, tz0]
theorem cT_1 {F1 F2 : tH → Option tRes} {fa fb p m n x : Nat} {G1 G3 G6 : tH} (hn : n < m) (hm : m ≤ 6) (hx : x < 2 ^ 31) (e1 : F1 G1 = some (some (vI (nI x)), G3)) (e2 : F2 (sA G3 fa p (upd (gA G3 fa p) n (nI x))) = some (some (vI (-1)), G6)) : cTail F1 F2 fa fb p m (nI n) G1 = some (some (vI (nI 0)), sA G6 fb p (upd (gA G6 fb p) n (-1))) := by
  unfold cTail
  rw [e1, tbI_v, ttin hn (by omega)]
  dsimp only
  rw [ttin hn (by omega), nI_clamp (by omega), gA_eq, upd_eq, tif_neg (m1_ne hx), e2, tbI_v, ttin hn (by omega)]
  rw [ttin hn (by omega), gA_eq, upd_eq, tif_pos rfl, tz0]
theorem cT_2 {F1 F2 : tH → Option tRes} {fa fb p m n x y : Nat} {G1 G3 G6 : tH} (hn : n < m) (hm : m ≤ 6) (hx : x < 2 ^ 31) (hy : y < 2 ^ 31) (e1 : F1 G1 = some (some (vI (nI x)), G3)) (e2 : F2 (sA G3 fa p (upd (gA G3 fa p) n (nI x))) = some (some (vI (nI y)), G6)) : cTail F1 F2 fa fb p m (nI n) G1 = some (some (vI (nI 1)), sA G6 fb p (upd (gA G6 fb p) n (nI y))) := by
  unfold cTail
  rw [e1, tbI_v, ttin hn (by omega)]
  dsimp only
  rw [ttin hn (by omega), nI_clamp (by omega), gA_eq, upd_eq, tif_neg (m1_ne hx), e2, tbI_v, ttin hn (by omega)]
  rw [ttin hn (by omega), gA_eq, upd_eq, tif_neg (m1_ne hy), tz1]
def finG (G : tH) (a C n : Nat) (r : Int32) : tH := sA (sA G 1110 0 (upd (gA G 1110 0) a r)) 1110 0 (upd (upd (gA G 1110 0) a r) C (nI (n + 1)))
theorem rT_v {F1 F2 : tH → Option tRes} {B C n : Nat} {Gi G1 G3 G5 : tH} {r r2 : Int32} (hB : B + 2 * n + 1 < 120) (hC : C < B) (hi : gA Gi 1110 0 C = nI n) (e1 : F1 G1 = some (some (vI r), G3)) (e2 : F2 (sA G3 1110 0 (upd (gA G3 1110 0) (B + 2 * n) r)) = some (some (vI r2), G5)) (h5 : gA G5 1110 0 C = nI n) : rTail F1 F2 B C Gi G1 = some (none, finG G5 (B + 2 * n + 1) C n r2) := by
  unfold rTail
  rw [e1, tbI_v, show (nI C).toNatClampNeg = C from nI_clamp (by omega), hi, pk_mul, nI_add, ttin (by omega) (by omega), nI_clamp (by omega)]
  dsimp only
  rw [e2, tbI_v, nI_add, ttin (by omega) (by omega), nI_clamp (by omega)]
  rw [ttin (by omega) (by omega), ttin (by omega) (by omega), gA_eq, upd_ne (by omega), h5, nI_add]
  rfl
theorem fin_fr {G : tH} {a C n : Nat} {r : Int32} : tfr (fun f _ => f = 1110) G (finG G a C n r) := tfrA (tfr.sA rfl) rfl
theorem fin_at {G : tH} {a C n : Nat} {r : Int32} : gA (finG G a C n r) 1110 0 = upd (upd (gA G 1110 0) a r) C (nI (n + 1)) := gA_eq
