/-! THE LAW: its cases, on -/
set_option maxRecDepth 100000 in
theorem law_company {E : tE} {A : Nat → Prop} {p : Program} {l : Launch} {e : Env} {s : State} {m : MethodId} {below : List Frame} {meth : Method} {c : Code} {b L out i cells slots : Nat} {xs : Nat → Int32} {Q : State → Prop} {G : tH} {f : Nat → Int64} {H : Heap} {locs : List Loc} {ls : Array Slot} (hX : lwX E A p l s m c b L xs) (hi : i + 7 ≤ L) (hL : L ≤ 3584) (hG : INV G) (ht : tokG G) (hV : nV E A s (tWd E G ++ [(out, lgC E f)]) H locs) (hl : lv_has ls 7 (lwL E b out i)) (hc : cells + 1 ≤ 601024) (hs : slots + 6 ≤ 7293033) (nx : lwN E A p l e s m below meth c b out i Q (cells + 1) (slots + 6)) : W p l e room_1 s m #[Value.ref b] below meth c H locs cells slots Q (F0 m 398 ls []) := by
  obtain ⟨hX0, hAl, hXs, hbl, htr, hTh, hs1, hs2⟩ := hX
  have hx := hX0.1
  have hb := hX0.2.1
  have hbA : ¬ A b := hAl b hbl
  obtain ⟨r, G1, G2, e1, e2, hG2⟩ := p_company (xs (i + 1)) (xs (i + 2)) hG
  refine lv_aload_n hx hb (by decide +kernel : decode cL_law 398 = .ok (.aload_n 1, 1)) rfl (lv_at hl 2 rfl) ?_
  refine lv_aload_n hx hb (by decide +kernel : decode cL_law 399 = .ok (.aload_n 0, 1)) rfl (lv_at hl 1 rfl) ?_
  refine lv_iload hx hb (by decide +kernel : decode cL_law 400 = .ok (.iload 4, 2)) (lv_at hl 0 rfl) ?_
  refine lv_iconst (v := nI 1) hx hb (by decide +kernel : decode cL_law 402 = .ok (.iconst 1, 1)) (by decide +kernel) ?_
  refine lv_iadd hx hb (by decide +kernel : decode cL_law 403 = .ok (.iadd, 1)) ?_
  rw [nI_add]
  refine va_sld hx hb hXs hbl hbA hV.2.2 (i := nI (i + 1)) (vp_in_nI (by omega) (by omega)) (by decide +kernel : decode cL_law 404 = .ok (.iaload, 1)) ?_
  rw [nI_clamp (n := i + 1) (by omega)]
  refine lv_aload_n hx hb (by decide +kernel : decode cL_law 405 = .ok (.aload_n 0, 1)) rfl (lv_at hl 1 rfl) ?_
  refine lv_iload hx hb (by decide +kernel : decode cL_law 406 = .ok (.iload 4, 2)) (lv_at hl 0 rfl) ?_
  refine lv_iconst (v := nI 2) hx hb (by decide +kernel : decode cL_law 408 = .ok (.iconst 2, 1)) (by decide +kernel) ?_
  refine lv_iadd hx hb (by decide +kernel : decode cL_law 409 = .ok (.iadd, 1)) ?_
  rw [nI_add]
  refine va_sld hx hb hXs hbl hbA hV.2.2 (i := nI (i + 2)) (vp_in_nI (by omega) (by omega)) (by decide +kernel : decode cL_law 410 = .ok (.iaload, 1)) ?_
  rw [nI_clamp (n := i + 2) (by omega)]
  refine l_call (as := [vI (xs (i + 1)), vI (xs (i + 2))]) (ci := 10) (o := 0) (rest := []) (n := 2) hX0 (l_met (mid := 103) hX0.2.2.2.2.2.2.2 rfl rfl (tok_i (tok_i (tok_1 tvd_10))) ht rfl e1) tc_10 w_4_55 w_4_58 w_4_56 w_4_57 w_1_1 rfl (by decide +kernel) rfl (by decide +kernel) ⟨Nat.le_of_ble_eq_true rfl, Nat.le_of_ble_eq_true rfl⟩ hl.1 (Nat.le_of_ble_eq_true rfl) (by decide +kernel : decode cL_law 411 = .ok (.invokevirtual 40, 3)) ⟨by show cells ≤ 601024; omega, by show slots ≤ 7293033; omega⟩ hV (fun H locs ht10 hV => ?_)
  refine (?_ : W p l e room_1 s m #[Value.ref b] below meth c H locs cells slots Q (F0 m 414 ls [.int r]))
  refine lv_aload_n hx hb (by decide +kernel : decode cL_law 414 = .ok (.aload_n 2, 1)) rfl (lv_at hl 3 rfl) ?_
  refine lv_aload_n hx hb (by decide +kernel : decode cL_law 415 = .ok (.aload_n 0, 1)) rfl (lv_at hl 1 rfl) ?_
  refine lv_iload hx hb (by decide +kernel : decode cL_law 416 = .ok (.iload 4, 2)) (lv_at hl 0 rfl) ?_
  refine lv_iconst (v := nI 1) hx hb (by decide +kernel : decode cL_law 418 = .ok (.iconst 1, 1)) (by decide +kernel) ?_
  refine lv_iadd hx hb (by decide +kernel : decode cL_law 419 = .ok (.iadd, 1)) ?_
  rw [nI_add]
  refine va_sld hx hb hXs hbl hbA hV.2.2 (i := nI (i + 1)) (vp_in_nI (by omega) (by omega)) (by decide +kernel : decode cL_law 420 = .ok (.iaload, 1)) ?_
  rw [nI_clamp (n := i + 1) (by omega)]
  refine lv_aload_n hx hb (by decide +kernel : decode cL_law 421 = .ok (.aload_n 0, 1)) rfl (lv_at hl 1 rfl) ?_
  refine lv_iload hx hb (by decide +kernel : decode cL_law 422 = .ok (.iload 4, 2)) (lv_at hl 0 rfl) ?_
  refine lv_iconst (v := nI 2) hx hb (by decide +kernel : decode cL_law 424 = .ok (.iconst 2, 1)) (by decide +kernel) ?_
  refine lv_iadd hx hb (by decide +kernel : decode cL_law 425 = .ok (.iadd, 1)) ?_
  rw [nI_add]
  refine va_sld hx hb hXs hbl hbA hV.2.2 (i := nI (i + 2)) (vp_in_nI (by omega) (by omega)) (by decide +kernel : decode cL_law 426 = .ok (.iaload, 1)) ?_
  rw [nI_clamp (n := i + 2) (by omega)]
  refine l_call (as := [vI (xs (i + 1)), vI (xs (i + 2))]) (ci := 11) (o := 0) (rest := [.int r]) (n := 2) hX0 (l_met (mid := 215) hX0.2.2.2.2.2.2.2 rfl rfl (tok_i (tok_i (tok_1 tvd_11))) ht10.1 rfl e2) tc_11 w_7_147 w_7_150 w_7_148 w_7_149 w_1_13 rfl (by decide +kernel) rfl (by decide +kernel) ⟨Nat.le_of_ble_eq_true rfl, Nat.le_of_ble_eq_true rfl⟩ hl.1 (Nat.le_of_ble_eq_true rfl) (by decide +kernel : decode cL_law 427 = .ok (.invokevirtual 43, 3)) ⟨by show cells ≤ 601024; omega, by show slots ≤ 7293033; omega⟩ hV (fun H locs ht11 hV => ?_)
  refine (?_ : W p l e room_1 s m #[Value.ref b] below meth c H locs cells slots Q (F0 m 430 ls [.int r, .int r]))
  refine lv_icmp_eq (tgt := 1302) hx hb (by decide +kernel : decode cL_law 430 = .ok (.if_icmp .eq 872, 3)) (by decide) (fun _ => ?_) (fun h => absurd rfl h)
  exact W.widen (k := cells + 1) (n := slots + 6) (by omega) (by omega) (nx G2 f H locs ls hG2 ht11.1 hV hl)
set_option maxRecDepth 100000 in
theorem law_juror {E : tE} {A : Nat → Prop} {p : Program} {l : Launch} {e : Env} {s : State} {m : MethodId} {below : List Frame} {meth : Method} {c : Code} {b L out i cells slots : Nat} {xs : Nat → Int32} {Q : State → Prop} {G : tH} {f : Nat → Int64} {H : Heap} {locs : List Loc} {ls : Array Slot} (hX : lwX E A p l s m c b L xs) (hi : i + 7 ≤ L) (hL : L ≤ 3584) (hG : INV G) (ht : tokG G) (hV : nV E A s (tWd E G ++ [(out, lgC E f)]) H locs) (hl : lv_has ls 7 (lwL E b out i)) (hc : cells + 1 ≤ 601024) (hs : slots + 6 ≤ 7293033) (nx : lwN E A p l e s m below meth c b out i Q (cells + 1) (slots + 6)) : W p l e room_1 s m #[Value.ref b] below meth c H locs cells slots Q (F0 m 435 ls []) := by
  obtain ⟨hX0, hAl, hXs, hbl, htr, hTh, hs1, hs2⟩ := hX
  have hx := hX0.1
  have hb := hX0.2.1
  have hbA : ¬ A b := hAl b hbl
  obtain ⟨r, G1, G2, e1, e2, hG2⟩ := p_juror (xs (i + 1)) (xs (i + 2)) hG
  refine lv_aload_n hx hb (by decide +kernel : decode cL_law 435 = .ok (.aload_n 1, 1)) rfl (lv_at hl 2 rfl) ?_
  refine lv_aload_n hx hb (by decide +kernel : decode cL_law 436 = .ok (.aload_n 0, 1)) rfl (lv_at hl 1 rfl) ?_
  refine lv_iload hx hb (by decide +kernel : decode cL_law 437 = .ok (.iload 4, 2)) (lv_at hl 0 rfl) ?_
  refine lv_iconst (v := nI 1) hx hb (by decide +kernel : decode cL_law 439 = .ok (.iconst 1, 1)) (by decide +kernel) ?_
  refine lv_iadd hx hb (by decide +kernel : decode cL_law 440 = .ok (.iadd, 1)) ?_
  rw [nI_add]
  refine va_sld hx hb hXs hbl hbA hV.2.2 (i := nI (i + 1)) (vp_in_nI (by omega) (by omega)) (by decide +kernel : decode cL_law 441 = .ok (.iaload, 1)) ?_
  rw [nI_clamp (n := i + 1) (by omega)]
  refine lv_aload_n hx hb (by decide +kernel : decode cL_law 442 = .ok (.aload_n 0, 1)) rfl (lv_at hl 1 rfl) ?_
  refine lv_iload hx hb (by decide +kernel : decode cL_law 443 = .ok (.iload 4, 2)) (lv_at hl 0 rfl) ?_
  refine lv_iconst (v := nI 2) hx hb (by decide +kernel : decode cL_law 445 = .ok (.iconst 2, 1)) (by decide +kernel) ?_
  refine lv_iadd hx hb (by decide +kernel : decode cL_law 446 = .ok (.iadd, 1)) ?_
  rw [nI_add]
  refine va_sld hx hb hXs hbl hbA hV.2.2 (i := nI (i + 2)) (vp_in_nI (by omega) (by omega)) (by decide +kernel : decode cL_law 447 = .ok (.iaload, 1)) ?_
  rw [nI_clamp (n := i + 2) (by omega)]
  refine l_call (as := [vI (xs (i + 1)), vI (xs (i + 2))]) (ci := 10) (o := 0) (rest := []) (n := 2) hX0 (l_met (mid := 104) hX0.2.2.2.2.2.2.2 rfl rfl (tok_i (tok_i (tok_1 tvd_10))) ht rfl e1) tc_10 w_4_59 w_4_62 w_4_60 w_4_61 w_1_1 rfl (by decide +kernel) rfl (by decide +kernel) ⟨Nat.le_of_ble_eq_true rfl, Nat.le_of_ble_eq_true rfl⟩ hl.1 (Nat.le_of_ble_eq_true rfl) (by decide +kernel : decode cL_law 448 = .ok (.invokevirtual 44, 3)) ⟨by show cells ≤ 601024; omega, by show slots ≤ 7293033; omega⟩ hV (fun H locs ht10 hV => ?_)
  refine (?_ : W p l e room_1 s m #[Value.ref b] below meth c H locs cells slots Q (F0 m 451 ls [.int r]))
  refine lv_aload_n hx hb (by decide +kernel : decode cL_law 451 = .ok (.aload_n 2, 1)) rfl (lv_at hl 3 rfl) ?_
  refine lv_aload_n hx hb (by decide +kernel : decode cL_law 452 = .ok (.aload_n 0, 1)) rfl (lv_at hl 1 rfl) ?_
  refine lv_iload hx hb (by decide +kernel : decode cL_law 453 = .ok (.iload 4, 2)) (lv_at hl 0 rfl) ?_
  refine lv_iconst (v := nI 1) hx hb (by decide +kernel : decode cL_law 455 = .ok (.iconst 1, 1)) (by decide +kernel) ?_
  refine lv_iadd hx hb (by decide +kernel : decode cL_law 456 = .ok (.iadd, 1)) ?_
  rw [nI_add]
  refine va_sld hx hb hXs hbl hbA hV.2.2 (i := nI (i + 1)) (vp_in_nI (by omega) (by omega)) (by decide +kernel : decode cL_law 457 = .ok (.iaload, 1)) ?_
  rw [nI_clamp (n := i + 1) (by omega)]
  refine lv_aload_n hx hb (by decide +kernel : decode cL_law 458 = .ok (.aload_n 0, 1)) rfl (lv_at hl 1 rfl) ?_
  refine lv_iload hx hb (by decide +kernel : decode cL_law 459 = .ok (.iload 4, 2)) (lv_at hl 0 rfl) ?_
  refine lv_iconst (v := nI 2) hx hb (by decide +kernel : decode cL_law 461 = .ok (.iconst 2, 1)) (by decide +kernel) ?_
  refine lv_iadd hx hb (by decide +kernel : decode cL_law 462 = .ok (.iadd, 1)) ?_
  rw [nI_add]
  refine va_sld hx hb hXs hbl hbA hV.2.2 (i := nI (i + 2)) (vp_in_nI (by omega) (by omega)) (by decide +kernel : decode cL_law 463 = .ok (.iaload, 1)) ?_
  rw [nI_clamp (n := i + 2) (by omega)]
  refine l_call (as := [vI (xs (i + 1)), vI (xs (i + 2))]) (ci := 11) (o := 0) (rest := [.int r]) (n := 2) hX0 (l_met (mid := 216) hX0.2.2.2.2.2.2.2 rfl rfl (tok_i (tok_i (tok_1 tvd_11))) ht10.1 rfl e2) tc_11 w_7_159 w_7_162 w_7_160 w_7_161 w_1_13 rfl (by decide +kernel) rfl (by decide +kernel) ⟨Nat.le_of_ble_eq_true rfl, Nat.le_of_ble_eq_true rfl⟩ hl.1 (Nat.le_of_ble_eq_true rfl) (by decide +kernel : decode cL_law 464 = .ok (.invokevirtual 47, 3)) ⟨by show cells ≤ 601024; omega, by show slots ≤ 7293033; omega⟩ hV (fun H locs ht11 hV => ?_)
  refine (?_ : W p l e room_1 s m #[Value.ref b] below meth c H locs cells slots Q (F0 m 467 ls [.int r, .int r]))
  refine lv_icmp_eq (tgt := 1302) hx hb (by decide +kernel : decode cL_law 467 = .ok (.if_icmp .eq 835, 3)) (by decide) (fun _ => ?_) (fun h => absurd rfl h)
  exact W.widen (k := cells + 1) (n := slots + 6) (by omega) (by omega) (nx G2 f H locs ls hG2 ht11.1 hV hl)
set_option maxRecDepth 100000 in
theorem law_holder {E : tE} {A : Nat → Prop} {p : Program} {l : Launch} {e : Env} {s : State} {m : MethodId} {below : List Frame} {meth : Method} {c : Code} {b L out i cells slots : Nat} {xs : Nat → Int32} {Q : State → Prop} {G : tH} {f : Nat → Int64} {H : Heap} {locs : List Loc} {ls : Array Slot} (hX : lwX E A p l s m c b L xs) (hi : i + 7 ≤ L) (hL : L ≤ 3584) (hG : INV G) (ht : tokG G) (hV : nV E A s (tWd E G ++ [(out, lgC E f)]) H locs) (hl : lv_has ls 7 (lwL E b out i)) (hc : cells + 1 ≤ 601024) (hs : slots + 6 ≤ 7293033) (nx : lwN E A p l e s m below meth c b out i Q (cells + 1) (slots + 6)) : W p l e room_1 s m #[Value.ref b] below meth c H locs cells slots Q (F0 m 472 ls []) := by
  obtain ⟨hX0, hAl, hXs, hbl, htr, hTh, hs1, hs2⟩ := hX
  have hx := hX0.1
  have hb := hX0.2.1
  have hbA : ¬ A b := hAl b hbl
  obtain ⟨r, G1, G2, e1, e2, hG2⟩ := p_holder  hG
  refine lv_aload_n hx hb (by decide +kernel : decode cL_law 472 = .ok (.aload_n 1, 1)) rfl (lv_at hl 2 rfl) ?_
  refine l_call (as := []) (ci := 10) (o := 0) (rest := []) (n := 0) hX0 (l_met (mid := 105) hX0.2.2.2.2.2.2.2 rfl rfl (tok_1 tvd_10) ht rfl e1) tc_10 w_4_78 w_4_81 w_4_79 w_4_80 w_1_1 rfl (by decide +kernel) rfl (by decide +kernel) ⟨Nat.le_of_ble_eq_true rfl, Nat.le_of_ble_eq_true rfl⟩ hl.1 (Nat.le_of_ble_eq_true rfl) (by decide +kernel : decode cL_law 473 = .ok (.invokevirtual 48, 3)) ⟨by show cells ≤ 601024; omega, by show slots ≤ 7293033; omega⟩ hV (fun H locs ht10 hV => ?_)
  refine (?_ : W p l e room_1 s m #[Value.ref b] below meth c H locs cells slots Q (F0 m 476 ls [.int r]))
  refine lv_aload_n hx hb (by decide +kernel : decode cL_law 476 = .ok (.aload_n 2, 1)) rfl (lv_at hl 3 rfl) ?_
  refine l_call (as := []) (ci := 11) (o := 0) (rest := [.int r]) (n := 0) hX0 (l_met (mid := 217) hX0.2.2.2.2.2.2.2 rfl rfl (tok_1 tvd_11) ht10.1 rfl e2) tc_11 w_7_179 w_7_182 w_7_180 w_7_181 w_1_13 rfl (by decide +kernel) rfl (by decide +kernel) ⟨Nat.le_of_ble_eq_true rfl, Nat.le_of_ble_eq_true rfl⟩ hl.1 (Nat.le_of_ble_eq_true rfl) (by decide +kernel : decode cL_law 477 = .ok (.invokevirtual 51, 3)) ⟨by show cells ≤ 601024; omega, by show slots ≤ 7293033; omega⟩ hV (fun H locs ht11 hV => ?_)
  refine (?_ : W p l e room_1 s m #[Value.ref b] below meth c H locs cells slots Q (F0 m 480 ls [.int r, .int r]))
  refine lv_icmp_eq (tgt := 1302) hx hb (by decide +kernel : decode cL_law 480 = .ok (.if_icmp .eq 822, 3)) (by decide) (fun _ => ?_) (fun h => absurd rfl h)
  exact W.widen (k := cells + 1) (n := slots + 6) (by omega) (by omega) (nx G2 f H locs ls hG2 ht11.1 hV hl)
set_option maxRecDepth 100000 in
theorem law_bid {E : tE} {A : Nat → Prop} {p : Program} {l : Launch} {e : Env} {s : State} {m : MethodId} {below : List Frame} {meth : Method} {c : Code} {b L out i cells slots : Nat} {xs : Nat → Int32} {Q : State → Prop} {G : tH} {f : Nat → Int64} {H : Heap} {locs : List Loc} {ls : Array Slot} (hX : lwX E A p l s m c b L xs) (hi : i + 7 ≤ L) (hL : L ≤ 3584) (hG : INV G) (ht : tokG G) (hV : nV E A s (tWd E G ++ [(out, lgC E f)]) H locs) (hl : lv_has ls 7 (lwL E b out i)) (hc : cells + 1 ≤ 601024) (hs : slots + 6 ≤ 7293033) (nx : lwN E A p l e s m below meth c b out i Q (cells + 1) (slots + 6)) : W p l e room_1 s m #[Value.ref b] below meth c H locs cells slots Q (F0 m 485 ls []) := by
  obtain ⟨hX0, hAl, hXs, hbl, htr, hTh, hs1, hs2⟩ := hX
  have hx := hX0.1
  have hb := hX0.2.1
  have hbA : ¬ A b := hAl b hbl
  obtain ⟨r, G1, G2, e1, e2, hG2⟩ := p_bid (xs (i + 1)) (xs (i + 2)) hG
  refine lv_aload_n hx hb (by decide +kernel : decode cL_law 485 = .ok (.aload_n 1, 1)) rfl (lv_at hl 2 rfl) ?_
  refine lv_aload_n hx hb (by decide +kernel : decode cL_law 486 = .ok (.aload_n 0, 1)) rfl (lv_at hl 1 rfl) ?_
  refine lv_iload hx hb (by decide +kernel : decode cL_law 487 = .ok (.iload 4, 2)) (lv_at hl 0 rfl) ?_
  refine lv_iconst (v := nI 1) hx hb (by decide +kernel : decode cL_law 489 = .ok (.iconst 1, 1)) (by decide +kernel) ?_
  refine lv_iadd hx hb (by decide +kernel : decode cL_law 490 = .ok (.iadd, 1)) ?_
  rw [nI_add]
  refine va_sld hx hb hXs hbl hbA hV.2.2 (i := nI (i + 1)) (vp_in_nI (by omega) (by omega)) (by decide +kernel : decode cL_law 491 = .ok (.iaload, 1)) ?_
  rw [nI_clamp (n := i + 1) (by omega)]
  refine lv_aload_n hx hb (by decide +kernel : decode cL_law 492 = .ok (.aload_n 0, 1)) rfl (lv_at hl 1 rfl) ?_
  refine lv_iload hx hb (by decide +kernel : decode cL_law 493 = .ok (.iload 4, 2)) (lv_at hl 0 rfl) ?_
  refine lv_iconst (v := nI 2) hx hb (by decide +kernel : decode cL_law 495 = .ok (.iconst 2, 1)) (by decide +kernel) ?_
  refine lv_iadd hx hb (by decide +kernel : decode cL_law 496 = .ok (.iadd, 1)) ?_
  rw [nI_add]
  refine va_sld hx hb hXs hbl hbA hV.2.2 (i := nI (i + 2)) (vp_in_nI (by omega) (by omega)) (by decide +kernel : decode cL_law 497 = .ok (.iaload, 1)) ?_
  rw [nI_clamp (n := i + 2) (by omega)]
  refine l_call (as := [vI (xs (i + 1)), vI (xs (i + 2))]) (ci := 10) (o := 0) (rest := []) (n := 2) hX0 (l_met (mid := 106) hX0.2.2.2.2.2.2.2 rfl rfl (tok_i (tok_i (tok_1 tvd_10))) ht rfl e1) tc_10 w_4_82 w_4_85 w_4_83 w_4_84 w_1_1 rfl (by decide +kernel) rfl (by decide +kernel) ⟨Nat.le_of_ble_eq_true rfl, Nat.le_of_ble_eq_true rfl⟩ hl.1 (Nat.le_of_ble_eq_true rfl) (by decide +kernel : decode cL_law 498 = .ok (.invokevirtual 52, 3)) ⟨by show cells ≤ 601024; omega, by show slots ≤ 7293033; omega⟩ hV (fun H locs ht10 hV => ?_)
  refine (?_ : W p l e room_1 s m #[Value.ref b] below meth c H locs cells slots Q (F0 m 501 ls [.int r]))
  refine lv_aload_n hx hb (by decide +kernel : decode cL_law 501 = .ok (.aload_n 2, 1)) rfl (lv_at hl 3 rfl) ?_
  refine lv_aload_n hx hb (by decide +kernel : decode cL_law 502 = .ok (.aload_n 0, 1)) rfl (lv_at hl 1 rfl) ?_
  refine lv_iload hx hb (by decide +kernel : decode cL_law 503 = .ok (.iload 4, 2)) (lv_at hl 0 rfl) ?_
  refine lv_iconst (v := nI 1) hx hb (by decide +kernel : decode cL_law 505 = .ok (.iconst 1, 1)) (by decide +kernel) ?_
  refine lv_iadd hx hb (by decide +kernel : decode cL_law 506 = .ok (.iadd, 1)) ?_
  rw [nI_add]
  refine va_sld hx hb hXs hbl hbA hV.2.2 (i := nI (i + 1)) (vp_in_nI (by omega) (by omega)) (by decide +kernel : decode cL_law 507 = .ok (.iaload, 1)) ?_
  rw [nI_clamp (n := i + 1) (by omega)]
  refine lv_aload_n hx hb (by decide +kernel : decode cL_law 508 = .ok (.aload_n 0, 1)) rfl (lv_at hl 1 rfl) ?_
  refine lv_iload hx hb (by decide +kernel : decode cL_law 509 = .ok (.iload 4, 2)) (lv_at hl 0 rfl) ?_
  refine lv_iconst (v := nI 2) hx hb (by decide +kernel : decode cL_law 511 = .ok (.iconst 2, 1)) (by decide +kernel) ?_
  refine lv_iadd hx hb (by decide +kernel : decode cL_law 512 = .ok (.iadd, 1)) ?_
  rw [nI_add]
  refine va_sld hx hb hXs hbl hbA hV.2.2 (i := nI (i + 2)) (vp_in_nI (by omega) (by omega)) (by decide +kernel : decode cL_law 513 = .ok (.iaload, 1)) ?_
  rw [nI_clamp (n := i + 2) (by omega)]
  refine l_call (as := [vI (xs (i + 1)), vI (xs (i + 2))]) (ci := 11) (o := 0) (rest := [.int r]) (n := 2) hX0 (l_met (mid := 218) hX0.2.2.2.2.2.2.2 rfl rfl (tok_i (tok_i (tok_1 tvd_11))) ht10.1 rfl e2) tc_11 w_7_183 w_7_186 w_7_184 w_7_185 w_1_13 rfl (by decide +kernel) rfl (by decide +kernel) ⟨Nat.le_of_ble_eq_true rfl, Nat.le_of_ble_eq_true rfl⟩ hl.1 (Nat.le_of_ble_eq_true rfl) (by decide +kernel : decode cL_law 514 = .ok (.invokevirtual 56, 3)) ⟨by show cells ≤ 601024; omega, by show slots ≤ 7293033; omega⟩ hV (fun H locs ht11 hV => ?_)
  refine (?_ : W p l e room_1 s m #[Value.ref b] below meth c H locs cells slots Q (F0 m 517 ls [.int r, .int r]))
  refine lv_icmp_eq (tgt := 1302) hx hb (by decide +kernel : decode cL_law 517 = .ok (.if_icmp .eq 785, 3)) (by decide) (fun _ => ?_) (fun h => absurd rfl h)
  exact W.widen (k := cells + 1) (n := slots + 6) (by omega) (by omega) (nx G2 f H locs ls hG2 ht11.1 hV hl)
set_option maxRecDepth 100000 in
theorem law_award {E : tE} {A : Nat → Prop} {p : Program} {l : Launch} {e : Env} {s : State} {m : MethodId} {below : List Frame} {meth : Method} {c : Code} {b L out i cells slots : Nat} {xs : Nat → Int32} {Q : State → Prop} {G : tH} {f : Nat → Int64} {H : Heap} {locs : List Loc} {ls : Array Slot} (hX : lwX E A p l s m c b L xs) (hi : i + 7 ≤ L) (hL : L ≤ 3584) (hG : INV G) (ht : tokG G) (hV : nV E A s (tWd E G ++ [(out, lgC E f)]) H locs) (hl : lv_has ls 7 (lwL E b out i)) (hc : cells + 1 ≤ 601024) (hs : slots + 6 ≤ 7293033) (nx : lwN E A p l e s m below meth c b out i Q (cells + 1) (slots + 6)) : W p l e room_1 s m #[Value.ref b] below meth c H locs cells slots Q (F0 m 522 ls []) := by
  obtain ⟨hX0, hAl, hXs, hbl, htr, hTh, hs1, hs2⟩ := hX
  have hx := hX0.1
  have hb := hX0.2.1
  have hbA : ¬ A b := hAl b hbl
  obtain ⟨r, G1, G2, e1, e2, hG2⟩ := p_award  hG
  refine lv_aload_n hx hb (by decide +kernel : decode cL_law 522 = .ok (.aload_n 1, 1)) rfl (lv_at hl 2 rfl) ?_
  refine l_call (as := []) (ci := 10) (o := 0) (rest := []) (n := 0) hX0 (l_met (mid := 107) hX0.2.2.2.2.2.2.2 rfl rfl (tok_1 tvd_10) ht rfl e1) tc_10 w_4_106 w_4_109 w_4_107 w_4_108 w_1_1 rfl (by decide +kernel) rfl (by decide +kernel) ⟨Nat.le_of_ble_eq_true rfl, Nat.le_of_ble_eq_true rfl⟩ hl.1 (Nat.le_of_ble_eq_true rfl) (by decide +kernel : decode cL_law 523 = .ok (.invokevirtual 57, 3)) ⟨by show cells ≤ 601024; omega, by show slots ≤ 7293033; omega⟩ hV (fun H locs ht10 hV => ?_)
  refine (?_ : W p l e room_1 s m #[Value.ref b] below meth c H locs cells slots Q (F0 m 526 ls [.int r]))
  refine lv_aload_n hx hb (by decide +kernel : decode cL_law 526 = .ok (.aload_n 2, 1)) rfl (lv_at hl 3 rfl) ?_
  refine l_call (as := []) (ci := 11) (o := 0) (rest := [.int r]) (n := 0) hX0 (l_met (mid := 219) hX0.2.2.2.2.2.2.2 rfl rfl (tok_1 tvd_11) ht10.1 rfl e2) tc_11 w_7_199 w_7_202 w_7_200 w_7_201 w_1_13 rfl (by decide +kernel) rfl (by decide +kernel) ⟨Nat.le_of_ble_eq_true rfl, Nat.le_of_ble_eq_true rfl⟩ hl.1 (Nat.le_of_ble_eq_true rfl) (by decide +kernel : decode cL_law 527 = .ok (.invokevirtual 60, 3)) ⟨by show cells ≤ 601024; omega, by show slots ≤ 7293033; omega⟩ hV (fun H locs ht11 hV => ?_)
  refine (?_ : W p l e room_1 s m #[Value.ref b] below meth c H locs cells slots Q (F0 m 530 ls [.int r, .int r]))
  refine lv_icmp_eq (tgt := 1302) hx hb (by decide +kernel : decode cL_law 530 = .ok (.if_icmp .eq 772, 3)) (by decide) (fun _ => ?_) (fun h => absurd rfl h)
  exact W.widen (k := cells + 1) (n := slots + 6) (by omega) (by omega) (nx G2 f H locs ls hG2 ht11.1 hV hl)
set_option maxRecDepth 100000 in
theorem law_year {E : tE} {A : Nat → Prop} {p : Program} {l : Launch} {e : Env} {s : State} {m : MethodId} {below : List Frame} {meth : Method} {c : Code} {b L out i cells slots : Nat} {xs : Nat → Int32} {Q : State → Prop} {G : tH} {f : Nat → Int64} {H : Heap} {locs : List Loc} {ls : Array Slot} (hX : lwX E A p l s m c b L xs) (hi : i + 7 ≤ L) (hL : L ≤ 3584) (hG : INV G) (ht : tokG G) (hV : nV E A s (tWd E G ++ [(out, lgC E f)]) H locs) (hl : lv_has ls 7 (lwL E b out i)) (hc : cells + 1 ≤ 601024) (hs : slots + 6 ≤ 7293033) (nx : lwN E A p l e s m below meth c b out i Q (cells + 1) (slots + 6)) : W p l e room_1 s m #[Value.ref b] below meth c H locs cells slots Q (F0 m 535 ls []) := by
  obtain ⟨hX0, hAl, hXs, hbl, htr, hTh, hs1, hs2⟩ := hX
  have hx := hX0.1
  have hb := hX0.2.1
  have hbA : ¬ A b := hAl b hbl
  obtain ⟨r, G1, G2, e1, e2, hG2⟩ := p_year (xs (i + 1)) hG
  refine lv_aload_n hx hb (by decide +kernel : decode cL_law 535 = .ok (.aload_n 1, 1)) rfl (lv_at hl 2 rfl) ?_
  refine lv_aload_n hx hb (by decide +kernel : decode cL_law 536 = .ok (.aload_n 0, 1)) rfl (lv_at hl 1 rfl) ?_
  refine lv_iload hx hb (by decide +kernel : decode cL_law 537 = .ok (.iload 4, 2)) (lv_at hl 0 rfl) ?_
  refine lv_iconst (v := nI 1) hx hb (by decide +kernel : decode cL_law 539 = .ok (.iconst 1, 1)) (by decide +kernel) ?_
  refine lv_iadd hx hb (by decide +kernel : decode cL_law 540 = .ok (.iadd, 1)) ?_
  rw [nI_add]
  refine va_sld hx hb hXs hbl hbA hV.2.2 (i := nI (i + 1)) (vp_in_nI (by omega) (by omega)) (by decide +kernel : decode cL_law 541 = .ok (.iaload, 1)) ?_
  rw [nI_clamp (n := i + 1) (by omega)]
  refine l_call (as := [vI (xs (i + 1))]) (ci := 10) (o := 0) (rest := []) (n := 1) hX0 (l_met (mid := 108) hX0.2.2.2.2.2.2.2 rfl rfl (tok_i (tok_1 tvd_10)) ht rfl e1) tc_10 w_4_118 w_4_121 w_4_119 w_4_120 w_1_1 rfl (by decide +kernel) rfl (by decide +kernel) ⟨Nat.le_of_ble_eq_true rfl, Nat.le_of_ble_eq_true rfl⟩ hl.1 (Nat.le_of_ble_eq_true rfl) (by decide +kernel : decode cL_law 542 = .ok (.invokevirtual 61, 3)) ⟨by show cells ≤ 601024; omega, by show slots ≤ 7293033; omega⟩ hV (fun H locs ht10 hV => ?_)
  refine (?_ : W p l e room_1 s m #[Value.ref b] below meth c H locs cells slots Q (F0 m 545 ls [.int r]))
  refine lv_aload_n hx hb (by decide +kernel : decode cL_law 545 = .ok (.aload_n 2, 1)) rfl (lv_at hl 3 rfl) ?_
  refine lv_aload_n hx hb (by decide +kernel : decode cL_law 546 = .ok (.aload_n 0, 1)) rfl (lv_at hl 1 rfl) ?_
  refine lv_iload hx hb (by decide +kernel : decode cL_law 547 = .ok (.iload 4, 2)) (lv_at hl 0 rfl) ?_
  refine lv_iconst (v := nI 1) hx hb (by decide +kernel : decode cL_law 549 = .ok (.iconst 1, 1)) (by decide +kernel) ?_
  refine lv_iadd hx hb (by decide +kernel : decode cL_law 550 = .ok (.iadd, 1)) ?_
  rw [nI_add]
  refine va_sld hx hb hXs hbl hbA hV.2.2 (i := nI (i + 1)) (vp_in_nI (by omega) (by omega)) (by decide +kernel : decode cL_law 551 = .ok (.iaload, 1)) ?_
  rw [nI_clamp (n := i + 1) (by omega)]
  refine l_call (as := [vI (xs (i + 1))]) (ci := 11) (o := 0) (rest := [.int r]) (n := 1) hX0 (l_met (mid := 220) hX0.2.2.2.2.2.2.2 rfl rfl (tok_i (tok_1 tvd_11)) ht10.1 rfl e2) tc_11 w_7_215 w_7_218 w_7_216 w_7_217 w_1_13 rfl (by decide +kernel) rfl (by decide +kernel) ⟨Nat.le_of_ble_eq_true rfl, Nat.le_of_ble_eq_true rfl⟩ hl.1 (Nat.le_of_ble_eq_true rfl) (by decide +kernel : decode cL_law 552 = .ok (.invokevirtual 65, 3)) ⟨by show cells ≤ 601024; omega, by show slots ≤ 7293033; omega⟩ hV (fun H locs ht11 hV => ?_)
  refine (?_ : W p l e room_1 s m #[Value.ref b] below meth c H locs cells slots Q (F0 m 555 ls [.int r, .int r]))
  refine lv_icmp_eq (tgt := 1302) hx hb (by decide +kernel : decode cL_law 555 = .ok (.if_icmp .eq 747, 3)) (by decide) (fun _ => ?_) (fun h => absurd rfl h)
  exact W.widen (k := cells + 1) (n := slots + 6) (by omega) (by omega) (nx G2 f H locs ls hG2 ht11.1 hV hl)
set_option maxRecDepth 100000 in
theorem law_take {E : tE} {A : Nat → Prop} {p : Program} {l : Launch} {e : Env} {s : State} {m : MethodId} {below : List Frame} {meth : Method} {c : Code} {b L out i cells slots : Nat} {xs : Nat → Int32} {Q : State → Prop} {G : tH} {f : Nat → Int64} {H : Heap} {locs : List Loc} {ls : Array Slot} (hX : lwX E A p l s m c b L xs) (hi : i + 7 ≤ L) (hL : L ≤ 3584) (hG : INV G) (ht : tokG G) (hV : nV E A s (tWd E G ++ [(out, lgC E f)]) H locs) (hl : lv_has ls 7 (lwL E b out i)) (hc : cells + 1 ≤ 601024) (hs : slots + 6 ≤ 7293033) (nx : lwN E A p l e s m below meth c b out i Q (cells + 1) (slots + 6)) : W p l e room_1 s m #[Value.ref b] below meth c H locs cells slots Q (F0 m 560 ls []) := by
  obtain ⟨hX0, hAl, hXs, hbl, htr, hTh, hs1, hs2⟩ := hX
  have hx := hX0.1
  have hb := hX0.2.1
  have hbA : ¬ A b := hAl b hbl
  obtain ⟨r, G1, G2, e1, e2, hG2⟩ := p_take (xs (i + 1)) (xs (i + 2)) hG
  refine lv_aload_n hx hb (by decide +kernel : decode cL_law 560 = .ok (.aload_n 1, 1)) rfl (lv_at hl 2 rfl) ?_
  refine lv_aload_n hx hb (by decide +kernel : decode cL_law 561 = .ok (.aload_n 0, 1)) rfl (lv_at hl 1 rfl) ?_
  refine lv_iload hx hb (by decide +kernel : decode cL_law 562 = .ok (.iload 4, 2)) (lv_at hl 0 rfl) ?_
  refine lv_iconst (v := nI 1) hx hb (by decide +kernel : decode cL_law 564 = .ok (.iconst 1, 1)) (by decide +kernel) ?_
  refine lv_iadd hx hb (by decide +kernel : decode cL_law 565 = .ok (.iadd, 1)) ?_
  rw [nI_add]
  refine va_sld hx hb hXs hbl hbA hV.2.2 (i := nI (i + 1)) (vp_in_nI (by omega) (by omega)) (by decide +kernel : decode cL_law 566 = .ok (.iaload, 1)) ?_
  rw [nI_clamp (n := i + 1) (by omega)]
  refine lv_aload_n hx hb (by decide +kernel : decode cL_law 567 = .ok (.aload_n 0, 1)) rfl (lv_at hl 1 rfl) ?_
  refine lv_iload hx hb (by decide +kernel : decode cL_law 568 = .ok (.iload 4, 2)) (lv_at hl 0 rfl) ?_
  refine lv_iconst (v := nI 2) hx hb (by decide +kernel : decode cL_law 570 = .ok (.iconst 2, 1)) (by decide +kernel) ?_
  refine lv_iadd hx hb (by decide +kernel : decode cL_law 571 = .ok (.iadd, 1)) ?_
  rw [nI_add]
  refine va_sld hx hb hXs hbl hbA hV.2.2 (i := nI (i + 2)) (vp_in_nI (by omega) (by omega)) (by decide +kernel : decode cL_law 572 = .ok (.iaload, 1)) ?_
  rw [nI_clamp (n := i + 2) (by omega)]
  refine l_call (as := [vI (xs (i + 1)), vI (xs (i + 2))]) (ci := 10) (o := 0) (rest := []) (n := 2) hX0 (l_met (mid := 109) hX0.2.2.2.2.2.2.2 rfl rfl (tok_i (tok_i (tok_1 tvd_10))) ht rfl e1) tc_10 w_4_150 w_4_153 w_4_151 w_4_152 w_1_1 rfl (by decide +kernel) rfl (by decide +kernel) ⟨Nat.le_of_ble_eq_true rfl, Nat.le_of_ble_eq_true rfl⟩ hl.1 (Nat.le_of_ble_eq_true rfl) (by decide +kernel : decode cL_law 573 = .ok (.invokevirtual 66, 3)) ⟨by show cells ≤ 601024; omega, by show slots ≤ 7293033; omega⟩ hV (fun H locs ht10 hV => ?_)
  refine (?_ : W p l e room_1 s m #[Value.ref b] below meth c H locs cells slots Q (F0 m 576 ls [.int r]))
  refine lv_aload_n hx hb (by decide +kernel : decode cL_law 576 = .ok (.aload_n 2, 1)) rfl (lv_at hl 3 rfl) ?_
  refine lv_aload_n hx hb (by decide +kernel : decode cL_law 577 = .ok (.aload_n 0, 1)) rfl (lv_at hl 1 rfl) ?_
  refine lv_iload hx hb (by decide +kernel : decode cL_law 578 = .ok (.iload 4, 2)) (lv_at hl 0 rfl) ?_
  refine lv_iconst (v := nI 1) hx hb (by decide +kernel : decode cL_law 580 = .ok (.iconst 1, 1)) (by decide +kernel) ?_
  refine lv_iadd hx hb (by decide +kernel : decode cL_law 581 = .ok (.iadd, 1)) ?_
  rw [nI_add]
  refine va_sld hx hb hXs hbl hbA hV.2.2 (i := nI (i + 1)) (vp_in_nI (by omega) (by omega)) (by decide +kernel : decode cL_law 582 = .ok (.iaload, 1)) ?_
  rw [nI_clamp (n := i + 1) (by omega)]
  refine lv_aload_n hx hb (by decide +kernel : decode cL_law 583 = .ok (.aload_n 0, 1)) rfl (lv_at hl 1 rfl) ?_
  refine lv_iload hx hb (by decide +kernel : decode cL_law 584 = .ok (.iload 4, 2)) (lv_at hl 0 rfl) ?_
  refine lv_iconst (v := nI 2) hx hb (by decide +kernel : decode cL_law 586 = .ok (.iconst 2, 1)) (by decide +kernel) ?_
  refine lv_iadd hx hb (by decide +kernel : decode cL_law 587 = .ok (.iadd, 1)) ?_
  rw [nI_add]
  refine va_sld hx hb hXs hbl hbA hV.2.2 (i := nI (i + 2)) (vp_in_nI (by omega) (by omega)) (by decide +kernel : decode cL_law 588 = .ok (.iaload, 1)) ?_
  rw [nI_clamp (n := i + 2) (by omega)]
  refine l_call (as := [vI (xs (i + 1)), vI (xs (i + 2))]) (ci := 11) (o := 0) (rest := [.int r]) (n := 2) hX0 (l_met (mid := 221) hX0.2.2.2.2.2.2.2 rfl rfl (tok_i (tok_i (tok_1 tvd_11))) ht10.1 rfl e2) tc_11 w_8_13 w_8_16 w_8_14 w_8_15 w_1_13 rfl (by decide +kernel) rfl (by decide +kernel) ⟨Nat.le_of_ble_eq_true rfl, Nat.le_of_ble_eq_true rfl⟩ hl.1 (Nat.le_of_ble_eq_true rfl) (by decide +kernel : decode cL_law 589 = .ok (.invokevirtual 69, 3)) ⟨by show cells ≤ 601024; omega, by show slots ≤ 7293033; omega⟩ hV (fun H locs ht11 hV => ?_)
  refine (?_ : W p l e room_1 s m #[Value.ref b] below meth c H locs cells slots Q (F0 m 592 ls [.int r, .int r]))
  refine lv_icmp_eq (tgt := 1302) hx hb (by decide +kernel : decode cL_law 592 = .ok (.if_icmp .eq 710, 3)) (by decide) (fun _ => ?_) (fun h => absurd rfl h)
  exact W.widen (k := cells + 1) (n := slots + 6) (by omega) (by omega) (nx G2 f H locs ls hG2 ht11.1 hV hl)
set_option maxRecDepth 100000 in
theorem law_lend {E : tE} {A : Nat → Prop} {p : Program} {l : Launch} {e : Env} {s : State} {m : MethodId} {below : List Frame} {meth : Method} {c : Code} {b L out i cells slots : Nat} {xs : Nat → Int32} {Q : State → Prop} {G : tH} {f : Nat → Int64} {H : Heap} {locs : List Loc} {ls : Array Slot} (hX : lwX E A p l s m c b L xs) (hi : i + 7 ≤ L) (hL : L ≤ 3584) (hG : INV G) (ht : tokG G) (hV : nV E A s (tWd E G ++ [(out, lgC E f)]) H locs) (hl : lv_has ls 7 (lwL E b out i)) (hc : cells + 1 ≤ 601024) (hs : slots + 6 ≤ 7293033) (nx : lwN E A p l e s m below meth c b out i Q (cells + 1) (slots + 6)) : W p l e room_1 s m #[Value.ref b] below meth c H locs cells slots Q (F0 m 597 ls []) := by
  obtain ⟨hX0, hAl, hXs, hbl, htr, hTh, hs1, hs2⟩ := hX
  have hx := hX0.1
  have hb := hX0.2.1
  have hbA : ¬ A b := hAl b hbl
  obtain ⟨r, G1, G2, e1, e2, hG2⟩ := p_lend (xs (i + 1)) (xs (i + 2)) hG
  refine lv_aload_n hx hb (by decide +kernel : decode cL_law 597 = .ok (.aload_n 1, 1)) rfl (lv_at hl 2 rfl) ?_
  refine lv_aload_n hx hb (by decide +kernel : decode cL_law 598 = .ok (.aload_n 0, 1)) rfl (lv_at hl 1 rfl) ?_
  refine lv_iload hx hb (by decide +kernel : decode cL_law 599 = .ok (.iload 4, 2)) (lv_at hl 0 rfl) ?_
  refine lv_iconst (v := nI 1) hx hb (by decide +kernel : decode cL_law 601 = .ok (.iconst 1, 1)) (by decide +kernel) ?_
  refine lv_iadd hx hb (by decide +kernel : decode cL_law 602 = .ok (.iadd, 1)) ?_
  rw [nI_add]
  refine va_sld hx hb hXs hbl hbA hV.2.2 (i := nI (i + 1)) (vp_in_nI (by omega) (by omega)) (by decide +kernel : decode cL_law 603 = .ok (.iaload, 1)) ?_
  rw [nI_clamp (n := i + 1) (by omega)]
  refine lv_aload_n hx hb (by decide +kernel : decode cL_law 604 = .ok (.aload_n 0, 1)) rfl (lv_at hl 1 rfl) ?_
  refine lv_iload hx hb (by decide +kernel : decode cL_law 605 = .ok (.iload 4, 2)) (lv_at hl 0 rfl) ?_
  refine lv_iconst (v := nI 2) hx hb (by decide +kernel : decode cL_law 607 = .ok (.iconst 2, 1)) (by decide +kernel) ?_
  refine lv_iadd hx hb (by decide +kernel : decode cL_law 608 = .ok (.iadd, 1)) ?_
  rw [nI_add]
  refine va_sld hx hb hXs hbl hbA hV.2.2 (i := nI (i + 2)) (vp_in_nI (by omega) (by omega)) (by decide +kernel : decode cL_law 609 = .ok (.iaload, 1)) ?_
  rw [nI_clamp (n := i + 2) (by omega)]
  refine l_call (as := [vI (xs (i + 1)), vI (xs (i + 2))]) (ci := 10) (o := 0) (rest := []) (n := 2) hX0 (l_met (mid := 110) hX0.2.2.2.2.2.2.2 rfl rfl (tok_i (tok_i (tok_1 tvd_10))) ht rfl e1) tc_10 w_4_166 w_4_169 w_4_167 w_4_168 w_1_1 rfl (by decide +kernel) rfl (by decide +kernel) ⟨Nat.le_of_ble_eq_true rfl, Nat.le_of_ble_eq_true rfl⟩ hl.1 (Nat.le_of_ble_eq_true rfl) (by decide +kernel : decode cL_law 610 = .ok (.invokevirtual 70, 3)) ⟨by show cells ≤ 601024; omega, by show slots ≤ 7293033; omega⟩ hV (fun H locs ht10 hV => ?_)
  refine (?_ : W p l e room_1 s m #[Value.ref b] below meth c H locs cells slots Q (F0 m 613 ls [.int r]))
  refine lv_aload_n hx hb (by decide +kernel : decode cL_law 613 = .ok (.aload_n 2, 1)) rfl (lv_at hl 3 rfl) ?_
  refine lv_aload_n hx hb (by decide +kernel : decode cL_law 614 = .ok (.aload_n 0, 1)) rfl (lv_at hl 1 rfl) ?_
  refine lv_iload hx hb (by decide +kernel : decode cL_law 615 = .ok (.iload 4, 2)) (lv_at hl 0 rfl) ?_
  refine lv_iconst (v := nI 1) hx hb (by decide +kernel : decode cL_law 617 = .ok (.iconst 1, 1)) (by decide +kernel) ?_
  refine lv_iadd hx hb (by decide +kernel : decode cL_law 618 = .ok (.iadd, 1)) ?_
  rw [nI_add]
  refine va_sld hx hb hXs hbl hbA hV.2.2 (i := nI (i + 1)) (vp_in_nI (by omega) (by omega)) (by decide +kernel : decode cL_law 619 = .ok (.iaload, 1)) ?_
  rw [nI_clamp (n := i + 1) (by omega)]
  refine lv_aload_n hx hb (by decide +kernel : decode cL_law 620 = .ok (.aload_n 0, 1)) rfl (lv_at hl 1 rfl) ?_
  refine lv_iload hx hb (by decide +kernel : decode cL_law 621 = .ok (.iload 4, 2)) (lv_at hl 0 rfl) ?_
  refine lv_iconst (v := nI 2) hx hb (by decide +kernel : decode cL_law 623 = .ok (.iconst 2, 1)) (by decide +kernel) ?_
  refine lv_iadd hx hb (by decide +kernel : decode cL_law 624 = .ok (.iadd, 1)) ?_
  rw [nI_add]
  refine va_sld hx hb hXs hbl hbA hV.2.2 (i := nI (i + 2)) (vp_in_nI (by omega) (by omega)) (by decide +kernel : decode cL_law 625 = .ok (.iaload, 1)) ?_
  rw [nI_clamp (n := i + 2) (by omega)]
  refine l_call (as := [vI (xs (i + 1)), vI (xs (i + 2))]) (ci := 11) (o := 0) (rest := [.int r]) (n := 2) hX0 (l_met (mid := 222) hX0.2.2.2.2.2.2.2 rfl rfl (tok_i (tok_i (tok_1 tvd_11))) ht10.1 rfl e2) tc_11 w_8_32 w_8_35 w_8_33 w_8_34 w_1_13 rfl (by decide +kernel) rfl (by decide +kernel) ⟨Nat.le_of_ble_eq_true rfl, Nat.le_of_ble_eq_true rfl⟩ hl.1 (Nat.le_of_ble_eq_true rfl) (by decide +kernel : decode cL_law 626 = .ok (.invokevirtual 73, 3)) ⟨by show cells ≤ 601024; omega, by show slots ≤ 7293033; omega⟩ hV (fun H locs ht11 hV => ?_)
  refine (?_ : W p l e room_1 s m #[Value.ref b] below meth c H locs cells slots Q (F0 m 629 ls [.int r, .int r]))
  refine lv_icmp_eq (tgt := 1302) hx hb (by decide +kernel : decode cL_law 629 = .ok (.if_icmp .eq 673, 3)) (by decide) (fun _ => ?_) (fun h => absurd rfl h)
  exact W.widen (k := cells + 1) (n := slots + 6) (by omega) (by omega) (nx G2 f H locs ls hG2 ht11.1 hV hl)
