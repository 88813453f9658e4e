/-! PURE: the four statements that enter a name -/
theorem fi_3 : ∀ n, n ≤ 38 → fi (sW 3) 0 n = if 24 ≤ n ∧ n < 24 + 4 then some (n - 24) else none := by decide +kernel
theorem fi_4 : ∀ n, n ≤ 38 → fi (sW 4) 0 n = if 28 ≤ n ∧ n < 28 + 4 then some (n - 28) else none := by decide +kernel
theorem fi_6 : ∀ n, n ≤ 38 → fi (sW 6) 0 n = if n = 1 then some 0 else none := by decide +kernel
theorem fi_7 : ∀ n, n ≤ 38 → fi (sW 7) 0 n = if n = 3 then some 0 else none := by decide +kernel
theorem fi_8 : ∀ n, n ≤ 38 → fi (sW 8) 0 n = if n = 5 then some 0 else none := by decide +kernel
theorem fi_9 : ∀ n, n ≤ 38 → fi (sW 9) 0 n = if n = 6 then some 0 else none := by decide +kernel
theorem fi_10 : ∀ n, n ≤ 38 → fi (sW 10) 0 n = if n = 8 then some 0 else none := by decide +kernel
theorem fi_11 : ∀ n, n ≤ 38 → fi (sW 11) 0 n = if n = 9 then some 0 else none := by decide +kernel
theorem fi_1 : ∀ n, n ≤ 38 → fi (sW 1) 0 n = if n = 0 then some 0 else if n = 2 then some 1 else if n = 4 then some 2 else if n = 7 then some 3 else if 10 ≤ n ∧ n < 14 then some (n - 6) else none := by decide +kernel
theorem FP.small {p : Nat} {Gc0 Gr0 Gc' Gr' : tH} (h1 : tfr (fun f _ => 802 ≤ f ∧ f ≤ 808) Gc0 Gc') (h2 : tfr (fun f _ => f = 1107 ∨ f = 1108) Gr0 Gr') : FP p Gc0 Gr0 Gc' Gr' := ⟨h1.mono fun f o w => by unfold zPc; omega, h2.mono fun f o w => by unfold zPr; omega, fun i _ => by rw [(h2 1110 0 (by omega)).2.2.2.1], fun i _ => ⟨by rw [(h2 1111 0 (by omega)).2.2.2.1], by rw [(h2 1112 0 (by omega)).2.2.2.1]⟩⟩
theorem pair_nst {z : mZ} {N p k j n mn ob cd : Nat} {pr : mP} {nm : Nat → Nat → List Nat} {Gc0 Gr0 Gc1 : tH} {F1c F1r F2c F2r : tH → Option tRes} {P1 P2 : Nat → Prop} (hT : TK z N) (hPV : PV z N p Gc0 Gr0 k pr nm ob mn cd) (hkd : kd z k ≠ 0) (hj : j < 4) (hn : cntP pr j = n) (hm : n < mx j) (hc1 : CT Gc1 z (k + 1)) (f1 : tfr zTk Gc0 Gc1) (R1 : RD z N (fun _ => True) (fun _ => True) F1c F1r P1) (R2 : RD z N (fun _ => True) (fun _ => True) F2c F2r P2) (hv : ∀ x y, P1 x → P2 y → okV j x y (cntP pr 1)) {rc rr : Option tRes}
    (ec : rc = tbI (V_X5_readNew p (4 * p + j) Gc1) (fun r_2 G_1 => tif (r_2 = (-1 : Int32)) (tif (vp_nar .boolean (nI 0) = (nI 0)) (some (some (vI (nI 0)), G_1)) none) (cTail F1c F2c (504 + 2 * j) (505 + 2 * j) p (mx j) r_2 G_1)))
    (er : rr = tbI (V_X11_readName (nI j) (nI (mx j)) (nI (20 * j)) Gr0) (fun r G => tif (r = 0) (some (none, G)) (tif (tin (nI (60 + j)) 120) (rTail F1r F2r (60 + lb j) (60 + j) G G) none))) :
    SUP z N p rc rr Gc0 Gr0 k ∨ FAP p rc rr Gc0 Gr0 := by
  have hmx := mx_in (j := j)
  rw [ec, er]
  rcases pair_name hT hPV hkd hj hn hm hc1 f1 with ⟨Gc2, Gr2, a1, a2, a3, a4, a5⟩ | ⟨v, Gc2, Gr2, a1, a2, a3, a4, a5, a6⟩
  · rw [a1, a2, tbI_v, tbI_v, tif_neg (m1_ne (by omega)), tn1, ttin (by omega) (by omega)]
    exact pair_tail hPV (by omega) hj hn hm a4 a5 a3 a3.2.2.2.2.2.2.2.2.2.2.2.2.2 R1 trivial trivial R2 hv
  · refine Or.inr ⟨Gc2, Gr2, v, ?_, a2, ?_, a4, FP.small ((f1.mono fun f o w => by unfold zTk at w; omega).tr a5) a6⟩
    · rw [a1, tbI_v, tif_pos rfl, tz0]
    · rw [a3, tbI_v, tn0]
theorem MD.go {z : mZ} {N p k k' j n mn : Nat} {l : List Nat} {Gc0 Gr0 Gc Gr Gc' : tH} (hj : j < 4) (h : MD z N p k j n mn l Gc0 Gr0 Gc Gr) (hc : CT Gc' z k') (hf : tfr zTk Gc Gc') (hk : k' ≤ N) : MD z N p k' j n mn l Gc0 Gr0 Gc' (sI Gr 1107 0 (nI k')) := by
  obtain ⟨m1, m2, m3, m4, m5, m6, m7, m8, m9, m10, m11, m12, m13, m14⟩ := h
  refine ⟨hc, ?_, m3.at hk, m4.tr (hf.mono fun f o w => by unfold zTk at w; unfold zSc; omega), ?_, fun i hi => ?_, ?_, ⟨?_, ?_⟩, tfrI m9 (by unfold zSr; omega), ?_, m11, m12, m13, m14⟩
  · rw [(hf 808 0 (by unfold zTk; omega)).1]; exact m2
  · rw [(hf 601 _ (by unfold zTk; omega)).1]; exact m5
  · rw [(hf 600 _ (by unfold zTk; omega)).2.2.2.2]; exact m6 i hi
  · rw [(hf 600 _ (by unfold zTk; omega)).2.2.2.2]; exact m7
  · rw [(hf _ _ (by unfold zTk; omega)).2.2.2.1]; exact m8.1
  · rw [(hf _ _ (by unfold zTk; omega)).2.2.2.1]; exact m8.2
  · rw [gI_ne (by omega)]; exact m10
theorem MD.ec {z : mZ} {N p k n mn k0 ob cd : Nat} {pr : mP} {nm : Nat → Nat → List Nat} {l : List Nat} {Gc0 Gr0 Gc Gr : tH} (hPV : PV z N p Gc0 Gr0 k0 pr nm ob mn cd) (h : MD z N p k 3 n mn l Gc0 Gr0 Gc Gr) : NC Gc (4 * p + 1) (addC (cntP pr) 3 n 1) (addN nm 3 n l 1) := by
  obtain ⟨v1, v2, v3, v4, v5, v6, v7, v8⟩ := hPV
  have hN := v4.nc v7 (show 1 < 4 by omega)
  have hf := h.2.2.2.1
  have e : addN nm 3 n l 1 = nm 1 := funext fun i => addN_o (fun w => by omega)
  rw [addC_o (by omega), e]
  obtain ⟨n1, n2, n3⟩ := hN
  refine ⟨?_, n2, fun i hi => ?_⟩
  · rw [(hf 601 (4 * p + 1) (by unfold zSc; omega)).1]; exact n1
  · rw [(hf 600 (4 * p + 1) (by unfold zSc; omega)).2.2.2.2]; exact n3 i hi
theorem MD.er {z : mZ} {N p k n mn k0 ob cd : Nat} {pr : mP} {nm : Nat → Nat → List Nat} {l : List Nat} {Gc0 Gr0 Gc Gr : tH} (hPV : PV z N p Gc0 Gr0 k0 pr nm ob mn cd) (h : MD z N p k 3 n mn l Gc0 Gr0 Gc Gr) (hn : cntP pr 3 = n) (hm : n < mx 3) : ∃ m, gI Gr (fM 1) 0 = nI m ∧ NR (gB Gr (fB 1) 0) (gA Gr (fA 1) 0) m (addC (cntP pr) 3 n) (addN nm 3 n l) := by
  obtain ⟨v1, v2, v3, v4, v5, v6, v7, v8⟩ := hPV
  obtain ⟨m1, m2, m3, m4, m5, m6, m7, m8, m9, m10, m11, m12, m13, m14⟩ := h
  obtain ⟨u0, u1, u2, u3, _⟩ := id v7
  have hmn := v5.2.2.2.2.2.2
  have hm3 : mx 3 = 5 := rfl
  exact ⟨mn + 1, m10, v5.2.2.2.2.2.1.add (by omega) (by omega) hn m11 m12 m13⟩
theorem pair_jur {z : mZ} {N p k n mn ob cd : Nat} {pr : mP} {nm : Nat → Nat → List Nat} {Gc0 Gr0 Gc1 : tH} (hT : TK z N) (hPV : PV z N p Gc0 Gr0 k pr nm ob mn cd) (hkd : kd z k ≠ 0) (hn : cntP pr 3 = n) (hm : n < mx 3) (hc1 : CT Gc1 z (k + 1)) (f1 : tfr zTk Gc0 Gc1) {rc rr : Option tRes}
    (ec : rc = tbI (V_X5_readNew p (4 * p + 3) Gc1) (fun r_2 G_1 => tif (r_2 = (-1 : Int32)) (tif (vp_nar .boolean (nI 0) = (nI 0)) (some (some (vI (nI 0)), G_1)) none) (tbI (V_X8_readAmong 10 G_1) (fun r_4 G_3 => tif (r_4 = (-1 : Int32)) (tif (vp_nar .boolean (nI 0) = (nI 0)) (some (some (vI (nI 0)), G_3)) none) (cTail (V_X8_readKnown (4 * p + 1)) (V_X8_readNumberBehind 11 (nI 0) (nI 999)) (504 + 2 * 3) (505 + 2 * 3) p (mx 3) r_2 G_3)))))
    (er : rr = tbI (V_X11_readName (nI 3) (nI (mx 3)) (nI (20 * 3)) Gr0) (fun r G => tif (r = 0) (some (none, G)) (tif (tin (nI (60 + 3)) 120) (tbV (V_X11_takeWord (nI 8) G) (fun G_12 => rTail (V_X11_takeTold (nI 1) (nI (20 * 1))) (V_X11_takeAfter (nI 9) (nI 0) (nI 999)) (60 + lb 3) (60 + 3) G G_12)) none))) :
    SUP z N p rc rr Gc0 Gr0 k ∨ FAP p rc rr Gc0 Gr0 := by
  have hmx := mx_in (j := 3)
  rw [ec, er]
  rcases pair_name hT hPV hkd (show 3 < 4 by omega) hn hm hc1 f1 with ⟨Gc2, Gr2, a1, a2, a3, a4, a5⟩ | ⟨v, Gc2, Gr2, a1, a2, a3, a4, a5, a6⟩
  · rw [a1, a2, tbI_v, tbI_v, tif_neg (m1_ne (by omega)), tn1, ttin (by omega) (by omega)]
    by_cases q : wN z (k + 2) = 8
    · obtain ⟨Gc3, e3, c3, f3⟩ := c_amg1 (o := 10) (j := 0) hT a3.1 (by omega) (by omega) (by rw [fi_10 _ wN_le, if_pos q]) (by omega)
      have hk3 := wN_k hT a3.2.2.1.2.1 q (by omega)
      have hM3 := MD.go (by omega) a3 c3 f3 hk3
      rw [e3, tbI_v, tif_neg (m1_ne (by omega)), r_takeW1 hT a3.2.2.1 (by omega) q, tbV_v]
      have hU' : NU (addC (cntP pr) 3 n) (addN nm 3 n (wl z (k + 1))) := hPV.2.2.2.2.2.2.1.add (by omega) hn hm a4 a5
      refine pair_tail hPV (by omega) (by omega) hn hm a4 a5 hM3 a3.2.2.2.2.2.2.2.2.2.2.2.2.2 (rd_told (b := 1) (r := 4 * p + 1) hT hU' (show 1 < 4 by omega) (by omega)) (MD.ec hPV hM3) (MD.er hPV hM3 hn hm) (rd_aft hT (by omega) (by omega) (by omega) fi_11 (by omega) (by omega)) (fun x y hx hy => ?_)
      have hx : x < addC (cntP pr) 3 n 1 := hx
      rw [addC_o (by omega)] at hx
      exact ⟨fun w => by omega, fun w => by omega, fun w => by omega, fun _ => ⟨hx, hy.2⟩⟩
    · refine Or.inr ?_
      have hb : RF (sI Gr2 1108 0 (nI (fv z (k + 2) 1))) (fv z (k + 2) 1) := RT.bad hT (by omega) (by omega)
      have hC2 : gA Gr2 1110 0 (60 + 3) = nI n := by rw [a3.2.2.2.2.2.2.2.2.2.2.2.2.2, (hPV.2.2.2.2.1.1 3 (by omega)).1, hn]
      have hl3 : lb 3 = 40 := rfl
      have hm3 : mx 3 = 5 := rfl
      have er2 := rT_v (Gi := Gr2) (n := n) (B := 60 + lb 3) (C := 60 + 3) (F1 := V_X11_takeTold (nI 1) (nI (20 * 1))) (F2 := V_X11_takeAfter (nI 9) (nI 0) (nI 999)) (by omega) (by omega) hC2 (r_toldF hb) (r_aftF (show RF (sA (sI Gr2 1108 0 (nI (fv z (k + 2) 1))) 1110 0 (upd (gA (sI Gr2 1108 0 (nI (fv z (k + 2) 1))) 1110 0) (60 + lb 3 + 2 * n) (nI 0))) (fv z (k + 2) 1) from hb)) (by rw [gA_eq, upd_ne (by omega)]; exact hC2)
      rw [c_amg0 a3.1 a3.2.1 (by omega) (by omega) (by rw [fi_10 _ wN_le, if_neg q]), tbI_v, tif_pos rfl, tz0, r_takeW0 hT a3.2.2.1 (by omega) q, tbV_v, er2]
      refine ⟨_, _, fv z (k + 2) 1, rfl, gI_eq, rfl, RF.kept (G := sI Gr2 1108 0 (nI (fv z (k + 2) 1))) hb (tfrA (tfrA (tfr.sA (S := fun f _ => f = 1110) rfl) rfl) rfl) (by omega), FP.of (j := 3) (a := 0) (n := 0) (A := fun _ => 0) (by omega) (tfrI a3.2.2.2.1 (by unfold zSc; omega)) (((tfrI a3.2.2.2.2.2.2.2.2.1 (by unfold zSr; omega)).tr (tfr.sA (by unfold zSr; omega))).tr (fin_fr.mono fun f o w => by unfold zSr; omega)) (fun i hi => ?_)⟩
      rw [fin_at, upd_ne (by omega), upd_ne (by omega), gA_eq, upd_ne (by omega), gA_sI, a3.2.2.2.2.2.2.2.2.2.2.2.2.2]
  · refine Or.inr ⟨Gc2, Gr2, v, ?_, a2, ?_, a4, FP.small ((f1.mono fun f o w => by unfold zTk at w; omega).tr a5) a6⟩
    · rw [a1, tbI_v, tif_pos rfl, tz0]
    · rw [a3, tbI_v, tn0]
theorem pair_town {z : mZ} {N p k n mn ob cd : Nat} {pr : mP} {nm : Nat → Nat → List Nat} {Gc0 Gr0 Gc1 : tH} (hT : TK z N) (hPV : PV z N p Gc0 Gr0 k pr nm ob mn cd) (hkd : kd z k ≠ 0) (hn : cntP pr 0 = n) (hm : n < mx 0) (hc1 : CT Gc1 z (k + 1)) (f1 : tfr zTk Gc0 Gc1) {rr : Option tRes}
    (er : rr = tbI (V_X11_readName (nI 0) (nI (mx 0)) (nI (20 * 0)) Gr0) (fun r G => tif (r = 0) (some (none, G)) (tif (tin (nI (60 + 0)) 120) (rTail (V_X11_takeOne (nI 24) (nI 4)) (V_X11_takeAfter (nI 1) (nI 0) (nI 999)) (60 + lb 0) (60 + 0) G G) none))) : SUP z N p (V_X5_readTown p Gc1) rr Gc0 Gr0 k ∨ FAP p (V_X5_readTown p Gc1) rr Gc0 Gr0 :=
  pair_nst hT hPV hkd (by omega) hn hm hc1 f1 (rd_one hT (by omega) (by omega) (by omega) fi_3) (rd_aft hT (by omega) (by omega) (by omega) fi_6 (by omega) (by omega)) (fun x y hx hy => ⟨fun _ => ⟨hx, hy.2⟩, fun w => by omega, fun w => by omega, fun w => by omega⟩) (e_X5_readTown p Gc1) er
theorem pair_company {z : mZ} {N p k n mn ob cd : Nat} {pr : mP} {nm : Nat → Nat → List Nat} {Gc0 Gr0 Gc1 : tH} (hT : TK z N) (hPV : PV z N p Gc0 Gr0 k pr nm ob mn cd) (hkd : kd z k ≠ 0) (hn : cntP pr 1 = n) (hm : n < mx 1) (hc1 : CT Gc1 z (k + 1)) (f1 : tfr zTk Gc0 Gc1) {rr : Option tRes}
    (er : rr = tbI (V_X11_readName (nI 1) (nI (mx 1)) (nI (20 * 1)) Gr0) (fun r G => tif (r = 0) (some (none, G)) (tif (tin (nI (60 + 1)) 120) (rTail (V_X11_takeOne (nI 28) (nI 4)) (V_X11_takeAfter (nI 3) (nI 0) (nI 9999)) (60 + lb 1) (60 + 1) G G) none))) : SUP z N p (V_X5_readCompany p Gc1) rr Gc0 Gr0 k ∨ FAP p (V_X5_readCompany p Gc1) rr Gc0 Gr0 :=
  pair_nst hT hPV hkd (by omega) hn hm hc1 f1 (rd_one hT (by omega) (by omega) (by omega) fi_4) (rd_aft hT (by omega) (by omega) (by omega) fi_7 (by omega) (by omega)) (fun x y hx hy => ⟨fun w => by omega, fun _ => ⟨hx, hy.2⟩, fun w => by omega, fun w => by omega⟩) (e_X5_readCompany p Gc1) er
theorem pair_harvest {z : mZ} {N p k n mn ob cd : Nat} {pr : mP} {nm : Nat → Nat → List Nat} {Gc0 Gr0 Gc1 : tH} (hT : TK z N) (hPV : PV z N p Gc0 Gr0 k pr nm ob mn cd) (hkd : kd z k ≠ 0) (hn : cntP pr 2 = n) (hm : n < mx 2) (hc1 : CT Gc1 z (k + 1)) (f1 : tfr zTk Gc0 Gc1) {rr : Option tRes}
    (er : rr = tbI (V_X11_readName (nI 2) (nI (mx 2)) (nI (20 * 2)) Gr0) (fun r G => tif (r = 0) (some (none, G)) (tif (tin (nI (60 + 2)) 120) (rTail (V_X11_takeAfter (nI 5) (nI 0) (nI 300)) (V_X11_takeAfter (nI 6) (nI 1) (nI 9)) (60 + lb 2) (60 + 2) G G) none))) : SUP z N p (V_X5_readHarvest p Gc1) rr Gc0 Gr0 k ∨ FAP p (V_X5_readHarvest p Gc1) rr Gc0 Gr0 :=
  pair_nst hT hPV hkd (by omega) hn hm hc1 f1 (rd_aft hT (by omega) (by omega) (by omega) fi_8 (by omega) (by omega)) (rd_aft hT (by omega) (by omega) (by omega) fi_9 (by omega) (by omega)) (fun x y hx hy => ⟨fun w => by omega, fun w => by omega, fun _ => ⟨hx.2, hy⟩, fun w => by omega⟩) (e_X5_readHarvest p Gc1) er
theorem pair_juror {z : mZ} {N p k n mn ob cd : Nat} {pr : mP} {nm : Nat → Nat → List Nat} {Gc0 Gr0 Gc1 : tH} (hT : TK z N) (hPV : PV z N p Gc0 Gr0 k pr nm ob mn cd) (hkd : kd z k ≠ 0) (hn : cntP pr 3 = n) (hm : n < mx 3) (hc1 : CT Gc1 z (k + 1)) (f1 : tfr zTk Gc0 Gc1) {rr : Option tRes}
    (er : rr = tbI (V_X11_readName (nI 3) (nI (mx 3)) (nI (20 * 3)) Gr0) (fun r G => tif (r = 0) (some (none, G)) (tif (tin (nI (60 + 3)) 120) (tbV (V_X11_takeWord (nI 8) G) (fun G_12 => rTail (V_X11_takeTold (nI 1) (nI (20 * 1))) (V_X11_takeAfter (nI 9) (nI 0) (nI 999)) (60 + lb 3) (60 + 3) G G_12)) none))) : SUP z N p (V_X5_readJuror p Gc1) rr Gc0 Gr0 k ∨ FAP p (V_X5_readJuror p Gc1) rr Gc0 Gr0 :=
  pair_jur hT hPV hkd hn hm hc1 f1 (e_X5_readJuror p Gc1) er
