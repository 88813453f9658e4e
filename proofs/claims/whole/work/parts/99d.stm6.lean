/-! PURE: a statement of a province; all of them -/
theorem may_n {G : tH} {z : mZ} {k p : Nat} (h : CT G z k) (h0 : gI G 808 0 = nI 0) : V_X5_mayBegin p (-1) G = some (some (vI (nI 0)), sI G 808 0 (nI (fv z k 1))) := by
  rw [e_X5_mayBegin, tif_pos rfl, c_blame h h0, tbI_v, tz0]
theorem room_j {G : tH} {p j n : Nat} (hj : j < 4) (h : gI G 601 (4 * p + j) = nI n) (hn : n ≤ 6) : V_X5_hasNoRoomFor p (nI j) G = some (some (vI (bN (¬ n < mx j))), G) := by
  have e := c_full hj h hn
  have bz : vp_nar .boolean (bN (¬ n < mx j)) = bN (¬ n < mx j) := by
    by_cases q : ¬ n < mx j
    · rw [bN_1 q]; decide +kernel
    · rw [bN_0 q]; decide +kernel
  rw [e_X5_hasNoRoomFor]
  rcases (show j = 0 ∨ j = 1 ∨ j = 2 ∨ j = 3 by omega) with w | w | w | w <;> subst w
  · rw [tif_pos rfl, e, tbI_v, tif_pos bz]
  · rw [teqM (by omega) (by omega) (by omega), tif_pos rfl, e, tbI_v, tif_pos bz]
  · rw [teqM (by omega) (by omega) (by omega), teqM (by omega) (by omega) (by omega), tif_pos rfl, e, tbI_v, tif_pos bz]
  · rw [teqM (by omega) (by omega) (by omega), teqM (by omega) (by omega) (by omega), teqM (by omega) (by omega) (by omega), tif_pos rfl, e, tbI_v, tif_pos bz]
theorem room_i {G : tH} {p i : Nat} (hi : i < 4) : V_X5_hasNoRoomFor p (nI (4 + i)) G = some (some (vI (nI 0)), G) := by
  rw [e_X5_hasNoRoomFor, teqM (by omega) (by omega) (by omega), teqM (by omega) (by omega) (by omega), teqM (by omega) (by omega) (by omega), teqM (by omega) (by omega) (by omega), tz0]
theorem may_j1 {G : tH} {p j n ob : Nat} (hj : j < 4) (h : gI G 601 (4 * p + j) = nI n) (hn : n < mx j) (h6 : gI G 516 p = nI (16 * ob)) (hob : ob < 16) : V_X5_mayBegin p (nI j) G = some (some (vI (nI 1)), G) := by
  have := mx_in (j := j)
  rw [e_X5_mayBegin, tif_neg (m1_ne (by omega)), room_j hj h (by omega), tbI_v, bN_n0 (fun w => w hn), h6, ob_j ob hob j hj, tif_pos rfl, tltP (by omega) (by omega) hj, tz1]
theorem may_j0 {G : tH} {z : mZ} {k p j n : Nat} (hc : CT G z k) (h0 : gI G 808 0 = nI 0) (hj : j < 4) (h : gI G 601 (4 * p + j) = nI n) (hn : ¬ n < mx j) (hn6 : n ≤ 6) : V_X5_mayBegin p (nI j) G = some (some (vI (nI 0)), sI G 808 0 (nI (fv z k 5))) := by
  rw [e_X5_mayBegin, tif_neg (m1_ne (by omega)), room_j hj h hn6, tbI_v, bN_n1 hn, c_blame hc h0, tbI_v, tz0]
theorem may_i1 {G : tH} {p i ob : Nat} (hi : i < 4) (h6 : gI G 516 p = nI (16 * ob)) (hob : ob < 16) (hb : ob / 2 ^ i % 2 = 0) : V_X5_mayBegin p (nI (4 + i)) G = some (some (vI (nI 1)), sI G 516 p (nI (16 * (ob ||| 2 ^ i)))) := by
  obtain ⟨b1, b2, b3⟩ := ob_c ob hob i hi
  rw [e_X5_mayBegin, tif_neg (m1_ne (by omega)), room_i hi, tbI_v, tn0, h6, b1, hb, tn0, tltM (by omega) (by omega) (by omega)]
  dsimp only
  rw [tz1, b2]
theorem may_i0 {G : tH} {z : mZ} {k p i ob : Nat} (hc : CT G z k) (h0 : gI G 808 0 = nI 0) (hi : i < 4) (h6 : gI G 516 p = nI (16 * ob)) (hob : ob < 16) (hb : ob / 2 ^ i % 2 ≠ 0) : V_X5_mayBegin p (nI (4 + i)) G = some (some (vI (nI 0)), sI G 808 0 (nI (fv z k 3))) := by
  obtain ⟨b1, b2, b3⟩ := ob_c ob hob i hi
  rw [e_X5_mayBegin, tif_neg (m1_ne (by omega)), room_i hi, tbI_v, tn0, h6, b1, tz0M (by omega) hb, c_blame hc h0, tbI_v, tz0]
theorem SUP.pre {z : mZ} {N p k k1 : Nat} {rc rr : Option tRes} {Gc Gr Gc1 Gr1 : tH} (h : SUP z N p rc rr Gc1 Gr1 k1) (hk : k ≤ k1) (hf : FP p Gc Gr Gc1 Gr1) : SUP z N p rc rr Gc Gr k := by
  obtain ⟨Gc', Gr', k', pr, nm, ob, mn, cd, a1, a2, a3, a4, a5⟩ := h
  exact ⟨Gc', Gr', k', pr, nm, ob, mn, cd, a1, a2, a3, by omega, hf.tr a5⟩
theorem FAP.pre {p : Nat} {rc rr : Option tRes} {Gc Gr Gc1 Gr1 : tH} (h : FAP p rc rr Gc1 Gr1) (hf : FP p Gc Gr Gc1 Gr1) : FAP p rc rr Gc Gr := by
  obtain ⟨Gc', Gr', v, a1, a2, a3, a4, a5⟩ := h
  exact ⟨Gc', Gr', v, a1, a2, a3, a4, hf.tr a5⟩
theorem SF.pass {z : mZ} {N p k : Nat} {rc rr : Option tRes} {Gc Gr : tH} (h : SUP z N p rc rr Gc Gr k ∨ FAP p rc rr Gc Gr) : SUP z N p (tbI rc (fun r G => tif (vp_nar .boolean r = r) (some (some (vI r), G)) none)) rr Gc Gr k ∨ FAP p (tbI rc (fun r G => tif (vp_nar .boolean r = r) (some (some (vI r), G)) none)) rr Gc Gr := by
  rcases h with ⟨Gc', Gr', k', pr, nm, ob, mn, cd, a1, a2⟩ | ⟨Gc', Gr', v, a1, a2⟩
  · exact Or.inl ⟨Gc', Gr', k', pr, nm, ob, mn, cd, by rw [a1, tbI_v, tz1], a2⟩
  · exact Or.inr ⟨Gc', Gr', v, by rw [a1, tbI_v, tz0], a2⟩
theorem SF.passR {z : mZ} {N p k : Nat} {rc rr : Option tRes} {Gc Gr : tH} (h : SUP z N p rc rr Gc Gr k ∨ FAP p rc rr Gc Gr) : SUP z N p rc (tbV rr (fun G => some (none, G))) Gc Gr k ∨ FAP p rc (tbV rr (fun G => some (none, G))) Gc Gr := by
  rcases h with ⟨Gc', Gr', k', pr, nm, ob, mn, cd, a1, a2, a3⟩ | ⟨Gc', Gr', v, a1, a2, a3, a4⟩
  · exact Or.inl ⟨Gc', Gr', k', pr, nm, ob, mn, cd, a1, by rw [a2, tbV_v], a3⟩
  · exact Or.inr ⟨Gc', Gr', v, a1, a2, by rw [a3, tbV_v], a4⟩
theorem SF.pre {z : mZ} {N p k k1 : Nat} {rc rr : Option tRes} {Gc Gr Gc1 Gr1 : tH} (h : SUP z N p rc rr Gc1 Gr1 k1 ∨ FAP p rc rr Gc1 Gr1) (hk : k ≤ k1) (hf : FP p Gc Gr Gc1 Gr1) : SUP z N p rc rr Gc Gr k ∨ FAP p rc rr Gc Gr := by
  rcases h with h | h
  · exact Or.inl (h.pre hk hf)
  · exact Or.inr (h.pre hf)
theorem FAP.bad {z : mZ} {N p k w : Nat} {Gc Gr : tH} (hT : TK z N) (hw : 1 ≤ w) (hw2 : w ≤ 5) {rc rr : Option tRes} (e1 : rc = some (some (vI (nI 0)), sI Gc 808 0 (nI (fv z k w)))) (e2 : rr = some (none, sI Gr 1108 0 (nI (fv z k w)))) : FAP p rc rr Gc Gr := ⟨_, _, fv z k w, e1, gI_eq, e2, RT.bad hT hw hw2, FP.small (tfr.sI (by omega)) (tfr.sI (Or.inr rfl))⟩
theorem pair_stm {z : mZ} {N p k mn ob cd : Nat} {pr : mP} {nm : Nat → Nat → List Nat} {Gc Gr : tH} (hT : TK z N) (h : PV z N p Gc Gr k pr nm ob mn cd) (hkd : kd z k ≠ 0) : SUP z N p (V_X5_readStatement p Gc) (V_X11_readLine Gr) Gc Gr k ∨ FAP p (V_X5_readStatement p Gc) (V_X11_readLine Gr) Gc Gr := by
  obtain ⟨v1, v2, v3, v4, v5, v6, v7, v8, v9, v10, v11, v12⟩ := id h
  have hN := hT.le
  have hkN := hT.lt v3.2.1 hkd
  have hw := wN_le (z := z) (k := k)
  have e37F : ∀ (G : tH) (v : Nat) (x : Int32), RF G v → V_X11_readOnce_37 x G = some (none, G) := fun G v x hF => by rw [e_X11_readOnce_37, hF.1, tl0P hF.2.2 hF.2.1]
  rw [e_X5_readStatement, c_among v1 (by omega) (by omega), tbI_v, fi_1 _ hw, e_X11_readLine, r_word hT v3 (by omega), tbI_v]
  have nst : ∀ j, j < 4 → ∃ n, cntP pr j = n ∧ gI Gc 601 (4 * p + j) = nI n ∧ gA Gr 1110 0 (60 + j) = nI n ∧ n ≤ 6 := fun j hj => ⟨_, rfl, (v4.1 j hj).1, (v5.1 j hj).1, v7.le hj⟩
  have full : ∀ j n, j < 4 → gA Gr 1110 0 (60 + j) = nI n → ¬ n < mx j → n ≤ mx j → V_X11_readName (nI j) (nI (mx j)) (nI (20 * j)) Gr = some (some (vI (nI 0)), sI Gr 1108 0 (nI (fv z k 5))) := by
    intro j n hj hA hn hn2
    rw [e_X11_readName, nI_add, ttin (by omega) (by omega), nI_clamp (by omega), hA, teqP (by omega), r_wrong hT v3, tbV_v, tz0]
  have cmx : ∀ j, j < 4 → cntP pr j ≤ mx j := by
    intro j hj
    obtain ⟨u0, u1, u2, u3, _⟩ := id v7
    rcases (show j = 0 ∨ j = 1 ∨ j = 2 ∨ j = 3 by omega) with w | w | w | w <;> subst w
    · exact u0
    · exact u1
    · exact u2
    · exact u3
  by_cases w0 : wN z k = 0
  · obtain ⟨n, n1, n2, n3, n4⟩ := nst 0 (by omega)
    rw [if_pos w0, show oI (some 0) = nI 0 from rfl, bN_n1 w0]
    by_cases hf : n < mx 0
    · obtain ⟨Gc1, ea, hc1, f1⟩ := c_adv hT.1 v1
      rw [may_j1 (by omega) n2 hf v4.2.2.2 v8, tbI_v, tn1, ea, tbV_v, tif_pos rfl]
      exact SF.pass (pair_town hT h hkd n1 hf hc1 f1 rfl)
    · refine Or.inr (FAP.bad (k := k) (w := 5) hT (by omega) (by omega) ?_ ?_)
      · rw [may_j0 v1 v2 (by omega) n2 hf n4, tbI_v, tn0, tz0]
      · have := full 0 n (by omega) n3 hf (by rw [← n1]; exact cmx 0 (by omega))
        rw [show nI (mx 0) = nI 6 from rfl, show nI (20 * 0) = nI 0 from rfl] at this
        rw [this, tbI_v, tn0]
  · rw [if_neg w0, bN_n0 w0, r_word hT v3 (by omega), tbI_v]
    by_cases w1 : wN z k = 2
    · obtain ⟨n, n1, n2, n3, n4⟩ := nst 1 (by omega)
      rw [if_pos w1, show oI (some 1) = nI 1 from rfl, bN_n1 w1]
      by_cases hf : n < mx 1
      · obtain ⟨Gc1, ea, hc1, f1⟩ := c_adv hT.1 v1
        rw [may_j1 (by omega) n2 hf v4.2.2.2 v8, tbI_v, tn1, ea, tbV_v, teqM (by omega) (by omega) (by omega), tif_pos rfl]
        exact SF.pass (pair_company hT h hkd n1 hf hc1 f1 rfl)
      · refine Or.inr (FAP.bad (k := k) (w := 5) hT (by omega) (by omega) ?_ ?_)
        · rw [may_j0 v1 v2 (by omega) n2 hf n4, tbI_v, tn0, tz0]
        · have := full 1 n (by omega) n3 hf (by rw [← n1]; exact cmx 1 (by omega))
          rw [show nI (mx 1) = nI 5 from rfl, show nI (20 * 1) = nI 20 from rfl] at this
          rw [this, tbI_v, tn0]
    · rw [if_neg w1, bN_n0 w1, r_word hT v3 (by omega), tbI_v]
      by_cases w2 : wN z k = 4
      · obtain ⟨n, n1, n2, n3, n4⟩ := nst 2 (by omega)
        rw [if_pos w2, show oI (some 2) = nI 2 from rfl, bN_n1 w2]
        by_cases hf : n < mx 2
        · obtain ⟨Gc1, ea, hc1, f1⟩ := c_adv hT.1 v1
          rw [may_j1 (by omega) n2 hf v4.2.2.2 v8, tbI_v, tn1, ea, tbV_v, teqM (by omega) (by omega) (by omega), teqM (by omega) (by omega) (by omega), tif_pos rfl]
          exact SF.pass (pair_harvest hT h hkd n1 hf hc1 f1 rfl)
        · refine Or.inr (FAP.bad (k := k) (w := 5) hT (by omega) (by omega) ?_ ?_)
          · rw [may_j0 v1 v2 (by omega) n2 hf n4, tbI_v, tn0, tz0]
          · have := full 2 n (by omega) n3 hf (by rw [← n1]; exact cmx 2 (by omega))
            rw [show nI (mx 2) = nI 5 from rfl, show nI (20 * 2) = nI 40 from rfl] at this
            rw [this, tbI_v, tn0]
      · rw [if_neg w2, bN_n0 w2, r_word hT v3 (by omega), tbI_v]
        by_cases w3 : wN z k = 7
        · obtain ⟨n, n1, n2, n3, n4⟩ := nst 3 (by omega)
          rw [if_pos w3, show oI (some 3) = nI 3 from rfl, bN_n1 w3]
          by_cases hf : n < mx 3
          · obtain ⟨Gc1, ea, hc1, f1⟩ := c_adv hT.1 v1
            rw [may_j1 (by omega) n2 hf v4.2.2.2 v8, tbI_v, tn1, ea, tbV_v, teqM (by omega) (by omega) (by omega), teqM (by omega) (by omega) (by omega), teqM (by omega) (by omega) (by omega), tif_pos rfl]
            exact SF.pass (pair_juror hT h hkd n1 hf hc1 f1 rfl)
          · refine Or.inr (FAP.bad (k := k) (w := 5) hT (by omega) (by omega) ?_ ?_)
            · rw [may_j0 v1 v2 (by omega) n2 hf n4, tbI_v, tn0, tz0]
            · have := full 3 n (by omega) n3 hf (by rw [← n1]; exact cmx 3 (by omega))
              rw [show nI (mx 3) = nI 5 from rfl, show nI (20 * 3) = nI 60 from rfl] at this
              rw [this, tbI_v, tn0]
        · rw [if_neg w3, bN_n0 w3, e_X11_readOnce, r_here hT v3 (by omega), tbI_v]
          by_cases w4 : 10 ≤ wN z k ∧ wN z k < 14
          · obtain ⟨i, hi⟩ : ∃ i, i = wN z k - 10 := ⟨_, rfl⟩
            have hi4 : i < 4 := by omega
            obtain ⟨r1, r2⟩ := ob_r ob v8 i hi4
            rw [if_pos w4, wh_1 (by omega), ← hi, show wN z k - 6 = 4 + i by omega, show oI (some (4 + i)) = nI (4 + i) from rfl, tlt0 (by omega), v5.2.2.2.1, r1]
            by_cases hb : ob / 2 ^ i % 2 = 0
            · obtain ⟨_, _, b3⟩ := ob_c ob v8 i hi4
              obtain ⟨Gc1, ea, hc1, f1⟩ := c_adv hT.1 (show CT (sI Gc 516 p (nI (16 * (ob ||| 2 ^ i)))) z k from v1.kept (tfr.sI (S := fun f _ => f = 516) rfl) (fun f _ _ => by omega))
              obtain ⟨hP1, fp1⟩ := h.once hkN b3 hc1 f1
              rw [hb, teqM (by omega) (by omega) (by omega), e_X11_readOnce_37, v3.2.2.2.1, tl0M rfl]
              dsimp only
              rw [gI_ne (show 1107 ≠ 1120 by omega), v3.2.2.1, nI_add k 1, v5.2.2.2.1, r2, may_i1 hi4 v4.2.2.2 v8 hb, tbI_v, tn1, ea, tbV_v, teqM (by omega) (by omega) (by omega), teqM (by omega) (by omega) (by omega), teqM (by omega) (by omega) (by omega), teqM (by omega) (by omega) (by omega)]
              refine SF.passR (SF.pre (k1 := k + 1) (Gc1 := Gc1) (Gr1 := sI (sI Gr 1120 0 (nI (ob ||| 2 ^ i))) 1107 0 (nI (k + 1))) ?_ (by omega) fp1)
              rcases (show i = 0 ∨ i = 1 ∨ i = 2 ∨ i = 3 by omega) with e | e | e | e
              · subst e
                rw [tif_pos rfl, tltP (by omega) (by omega) (by omega), tn0, nI_add]
                exact pair_num (i := 0) (hi := 100) hT hP1 (by omega) (by omega) (fun _ => by omega) (fun _ => by omega) rfl rfl
              · subst e
                rw [teqM (by omega) (by omega) (by omega), tif_pos rfl, tltP (by omega) (by omega) (by omega), tn1, nI_add]
                exact pair_num (i := 1) (hi := 999) hT hP1 (by omega) (by omega) (fun w => by omega) (fun _ => by omega) rfl rfl
              · subst e
                rw [teqM (by omega) (by omega) (by omega), teqM (by omega) (by omega) (by omega), tif_pos rfl, tltM (by omega) (by omega) (by omega), nI_add, nI_sub (by omega), ttin (by omega) (by omega), nI_clamp (by omega), hP1.2.2.2.2.2.2.2.2.1]
                exact pair_law (i := 0) hT hP1 (by omega) (by omega) rfl rfl
              · subst e
                rw [teqM (by omega) (by omega) (by omega), teqM (by omega) (by omega) (by omega), teqM (by omega) (by omega) (by omega), tltM (by omega) (by omega) (by omega), nI_add, nI_sub (by omega), ttin (by omega) (by omega), nI_clamp (by omega), hP1.2.2.2.2.2.2.2.2.1]
                exact pair_law (i := 1) hT hP1 (by omega) (by omega) rfl rfl
            · refine Or.inr (FAP.bad (k := k) (w := 3) hT (by omega) (by omega) ?_ ?_)
              · rw [may_i0 v1 v2 hi4 v4.2.2.2 v8 hb, tbI_v, tn0, tz0]
              · rw [teqP (by omega), r_wrong hT v3, tbV_v, e37F _ (fv z k 3) _ (RT.bad hT (by omega) (by omega)), tbV_v]
          · refine Or.inr (FAP.bad (k := k) (w := 1) hT (by omega) (by omega) ?_ ?_)
            · rw [if_neg w4, show oI none = (-1 : Int32) from rfl, may_n v1 v2, tbI_v, tn0, tz0]
            · rw [wh_0 (by omega), tif_pos m1_lt, r_wrong hT v3, tbV_v, e37F _ (fv z k 1) _ (RT.bad hT (by omega) (by omega)), tbV_v]
/-- all statements -/
theorem PV.go {z : mZ} {N p k k' mn ob cd : Nat} {pr : mP} {nm : Nat → Nat → List Nat} {Gc Gr Gc1 : tH} (h : PV z N p Gc Gr k pr nm ob mn cd) (hk : k' ≤ N) (hkk : k ≤ k') (hc : CT Gc1 z k') (hf : tfr zTk Gc Gc1) : PV z N p Gc1 (sI Gr 1107 0 (nI k')) k' pr nm ob mn cd ∧ FP p Gc Gr Gc1 (sI Gr 1107 0 (nI k')) := by
  obtain ⟨v1, v2, v3, v4, v5, v6, v7, v8, v9, v10, v11, v12⟩ := h
  have lwk : ∀ i, i < 2 → LW Gc Gr p cd i → LW Gc1 (sI Gr 1107 0 (nI k')) p cd i := fun i hi h => h.kept (by rw [(hf 200 _ (by unfold zTk; omega)).2.2.2.1]) (by rw [(hf 201 _ (by unfold zTk; omega)).1]) rfl (fun m _ => ⟨rfl, rfl⟩) (Nat.le_refl _)
  refine ⟨⟨hc, ?_, v3.at hk, v4.kept hf (fun f _ _ => by unfold zTk; omega) (fun f j _ _ => by unfold zTk; omega), ?_, v6, v7, v8, ?_, by omega, lwk 0 (by omega) v11, lwk 1 (by omega) v12⟩, hf.mono fun f o w => by unfold zTk at w; unfold zPc; omega, tfr.sI (by unfold zPr; omega), fun _ _ => rfl, fun _ _ => ⟨rfl, rfl⟩⟩
  · rw [(hf 808 0 (by unfold zTk; omega)).1]; exact v2
  · obtain ⟨a1, a2, a3, a4, a5, a6, a7⟩ := v5
    exact ⟨a1, a2, a3, by rw [gI_ne (by omega)]; exact a4, by rw [gI_ne (by omega)]; exact a5, a6, a7⟩
  · rw [gI_ne (by omega)]; exact v9
theorem pair_all {z : mZ} {N p : Nat} {Gc0 Gr0 : tH} (hT : TK z N) : ∀ m it k Gc Gr pr nm ob mn cd, N - k ≤ m → PV z N p Gc Gr k pr nm ob mn cd → it ≤ k → FP p Gc0 Gr0 Gc Gr → (∃ Gc' Gr' k' pr' nm' ob' mn' cd', V_X5_tellFrom_6 p (nI it) Gc = some (some (vI (nI 1)), Gc') ∧ V_X11_province_30 Gr = V_X11_province_62 Gr' ∧ PV z N p Gc' Gr' k' pr' nm' ob' mn' cd' ∧ FP p Gc0 Gr0 Gc' Gr') ∨ (∃ Gc' Gr' v, V_X5_tellFrom_6 p (nI it) Gc = some (some (vI (nI 0)), Gc') ∧ gI Gc' 808 0 = nI v ∧ V_X11_province_30 Gr = V_X11_province_62 Gr' ∧ RF Gr' v ∧ FP p Gc0 Gr0 Gc' Gr') := by
  have eF : ∀ G v, RF G v → V_X11_province_30 G = V_X11_province_62 G := fun G v h => by rw [e_X11_province_30, h.1, tz0M h.2.2 (by have := h.2.1; omega)]
  have hN := hT.le
  intro m
  induction m with
  | zero =>
    intro it k Gc Gr pr nm ob mn cd hm hP hit hf
    have hk := hP.2.2.1.2.1
    have hkd : kd z k = 0 := by rw [show k = N by omega]; exact hT.2.2.1
    refine Or.inl ⟨Gc, Gr, k, pr, nm, ob, mn, cd, ?_, ?_, hP, hf⟩
    · rw [e_X5_tellFrom_6, c_kd hP.1, hkd, tn0, tz1, tltN (by omega) (by omega)]
      split <;> rfl
    · rw [e_X11_province_30, hP.2.2.1.2.2.2.1, tn0, hP.2.2.1.2.2.1, ttin (by omega) (by omega), nI_clamp (by omega), (hP.2.2.1.1 k hk).1, hkd, tn0]
  | succ m ih =>
    intro it k Gc Gr pr nm ob mn cd hm hP hit hf
    have hk := hP.2.2.1.2.1
    have h4 := kd_le (z := z) (k := k)
    by_cases hkd : kd z k = 0
    · refine Or.inl ⟨Gc, Gr, k, pr, nm, ob, mn, cd, ?_, ?_, hP, hf⟩
      · rw [e_X5_tellFrom_6, c_kd hP.1, hkd, tn0, tz1, tltN (by omega) (by omega)]
        split <;> rfl
      · rw [e_X11_province_30, hP.2.2.1.2.2.2.1, tn0, hP.2.2.1.2.2.1, ttin (by omega) (by omega), nI_clamp (by omega), (hP.2.2.1.1 k hk).1, hkd, tn0]
    · have hkN := hT.lt hk hkd
      have ec : V_X5_tellFrom_6 p (nI it) Gc = tbI (V_X5_readStatement p Gc) (fun r_2 G_1 => tif (r_2 = 0) (some (some (vI (nI 0)), G_1)) (tbI (V_X8_readSign (nI 59) G_1) (fun r_4 G_3 => tif (r_4 = 0) (some (some (vI (nI 0)), G_3)) (V_X5_tellFrom_6 p (nI (it + 1)) G_3)))) := by
        rw [e_X5_tellFrom_6, tltP (by omega) (by omega) (by omega), c_kd hP.1, tz0M (by omega) hkd, nI_add]
        simp only [tz0]
      have er : V_X11_province_30 Gr = tbV (V_X11_readLine Gr) (fun G_1 => tbV (V_X11_takeSign (nI 59) G_1) (fun G_2 => V_X11_province_30 G_2)) := by
        rw [e_X11_province_30, hP.2.2.1.2.2.2.1, tn0, hP.2.2.1.2.2.1, ttin (by omega) (by omega), nI_clamp (by omega), (hP.2.2.1.1 k hk).1, tz0M (by omega) hkd]
      rw [ec, er]
      rcases pair_stm hT hP hkd with ⟨Gc2, Gr2, k2, pr2, nm2, ob2, mn2, cd2, a1, a2, a3, a4, a5⟩ | ⟨Gc2, Gr2, v, a1, a2, a3, a4, a5⟩
      · rw [a1, a2, tbI_v, tbV_v, tn1]
        have hk2 := a3.2.2.1.2.1
        by_cases s : sg z k2 59
        · obtain ⟨Gc3, e3, c3, f3⟩ := c_sign1 hT a3.1 s
          obtain ⟨hP3, fp3⟩ := a3.go (hT.lt hk2 (by have := s.1; omega)) (by omega) c3 f3
          rw [e3, tbI_v, tn1, r_sign1 hT a3.2.2.1 s, tbV_v]
          exact ih (it + 1) (k2 + 1) Gc3 _ pr2 nm2 ob2 mn2 cd2 (by omega) hP3 (by omega) ((hf.tr a5).tr fp3)
        · rw [c_sign0 hT a3.1 a3.2.1 s (by omega), tbI_v, tn0, r_sign0 hT a3.2.2.1 s (by omega), tbV_v]
          have hb := RT.bad (G := Gr2) (k := k2) hT (show 1 ≤ 1 by omega) (by omega)
          exact Or.inr ⟨_, _, fv z k2 1, rfl, gI_eq, eF _ _ hb, hb, (hf.tr a5).tr (FP.small (tfr.sI (by omega)) (tfr.sI (Or.inr rfl)))⟩
      · refine Or.inr ⟨Gc2, Gr2, v, ?_, a2, ?_, a4, hf.tr a5⟩
        · rw [a1, tbI_v, tn0]
        · rw [a3, tbV_v, r_signF a4, tbV_v, eF _ _ a4]
