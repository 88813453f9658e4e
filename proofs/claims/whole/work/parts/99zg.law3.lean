/-! THE LAW: its cases, on -/
set_option maxRecDepth 100000 in
theorem law_call {E : tE} {A : Nat → Prop} {p : Program} {l : Launch} {e : Env} {s : State} {m : MethodId} {below : List Frame} {meth : Method} {c : Code} {b L out i cells slots : Nat} {xs : Nat → Int32} {Q : State → Prop} {G : tH} {f : Nat → Int64} {H : Heap} {locs : List Loc} {ls : Array Slot} (hX : lwX E A p l s m c b L xs) (hi : i + 7 ≤ L) (hL : L ≤ 3584) (hG : INV G) (ht : tokG G) (hV : nV E A s (tWd E G ++ [(out, lgC E f)]) H locs) (hl : lv_has ls 7 (lwL E b out i)) (hc : cells + 1 ≤ 601024) (hs : slots + 6 ≤ 7293033) (nx : lwN E A p l e s m below meth c b out i Q (cells + 1) (slots + 6)) : W p l e room_1 s m #[Value.ref b] below meth c H locs cells slots Q (F0 m 634 ls []) := by
  obtain ⟨hX0, hAl, hXs, hbl, htr, hTh, hs1, hs2⟩ := hX
  have hx := hX0.1
  have hb := hX0.2.1
  have hbA : ¬ A b := hAl b hbl
  obtain ⟨r, G1, G2, e1, e2, hG2⟩ := p_call (xs (i + 1)) (xs (i + 2)) hG
  refine lv_aload_n hx hb (by decide +kernel : decode cL_law 634 = .ok (.aload_n 1, 1)) rfl (lv_at hl 2 rfl) ?_
  refine lv_aload_n hx hb (by decide +kernel : decode cL_law 635 = .ok (.aload_n 0, 1)) rfl (lv_at hl 1 rfl) ?_
  refine lv_iload hx hb (by decide +kernel : decode cL_law 636 = .ok (.iload 4, 2)) (lv_at hl 0 rfl) ?_
  refine lv_iconst (v := nI 1) hx hb (by decide +kernel : decode cL_law 638 = .ok (.iconst 1, 1)) (by decide +kernel) ?_
  refine lv_iadd hx hb (by decide +kernel : decode cL_law 639 = .ok (.iadd, 1)) ?_
  rw [nI_add]
  refine va_sld hx hb hXs hbl hbA hV.2.2 (i := nI (i + 1)) (vp_in_nI (by omega) (by omega)) (by decide +kernel : decode cL_law 640 = .ok (.iaload, 1)) ?_
  rw [nI_clamp (n := i + 1) (by omega)]
  refine lv_aload_n hx hb (by decide +kernel : decode cL_law 641 = .ok (.aload_n 0, 1)) rfl (lv_at hl 1 rfl) ?_
  refine lv_iload hx hb (by decide +kernel : decode cL_law 642 = .ok (.iload 4, 2)) (lv_at hl 0 rfl) ?_
  refine lv_iconst (v := nI 2) hx hb (by decide +kernel : decode cL_law 644 = .ok (.iconst 2, 1)) (by decide +kernel) ?_
  refine lv_iadd hx hb (by decide +kernel : decode cL_law 645 = .ok (.iadd, 1)) ?_
  rw [nI_add]
  refine va_sld hx hb hXs hbl hbA hV.2.2 (i := nI (i + 2)) (vp_in_nI (by omega) (by omega)) (by decide +kernel : decode cL_law 646 = .ok (.iaload, 1)) ?_
  rw [nI_clamp (n := i + 2) (by omega)]
  refine l_call (as := [vI (xs (i + 1)), vI (xs (i + 2))]) (ci := 10) (o := 0) (rest := []) (n := 2) hX0 (l_met (mid := 111) hX0.2.2.2.2.2.2.2 rfl rfl (tok_i (tok_i (tok_1 tvd_10))) ht rfl e1) tc_10 w_4_175 w_4_178 w_4_176 w_4_177 w_1_1 rfl (by decide +kernel) rfl (by decide +kernel) ⟨Nat.le_of_ble_eq_true rfl, Nat.le_of_ble_eq_true rfl⟩ hl.1 (Nat.le_of_ble_eq_true rfl) (by decide +kernel : decode cL_law 647 = .ok (.invokevirtual 74, 3)) ⟨by show cells ≤ 601024; omega, by show slots ≤ 7293033; omega⟩ hV (fun H locs ht10 hV => ?_)
  refine (?_ : W p l e room_1 s m #[Value.ref b] below meth c H locs cells slots Q (F0 m 650 ls [.int r]))
  refine lv_aload_n hx hb (by decide +kernel : decode cL_law 650 = .ok (.aload_n 2, 1)) rfl (lv_at hl 3 rfl) ?_
  refine lv_aload_n hx hb (by decide +kernel : decode cL_law 651 = .ok (.aload_n 0, 1)) rfl (lv_at hl 1 rfl) ?_
  refine lv_iload hx hb (by decide +kernel : decode cL_law 652 = .ok (.iload 4, 2)) (lv_at hl 0 rfl) ?_
  refine lv_iconst (v := nI 1) hx hb (by decide +kernel : decode cL_law 654 = .ok (.iconst 1, 1)) (by decide +kernel) ?_
  refine lv_iadd hx hb (by decide +kernel : decode cL_law 655 = .ok (.iadd, 1)) ?_
  rw [nI_add]
  refine va_sld hx hb hXs hbl hbA hV.2.2 (i := nI (i + 1)) (vp_in_nI (by omega) (by omega)) (by decide +kernel : decode cL_law 656 = .ok (.iaload, 1)) ?_
  rw [nI_clamp (n := i + 1) (by omega)]
  refine lv_aload_n hx hb (by decide +kernel : decode cL_law 657 = .ok (.aload_n 0, 1)) rfl (lv_at hl 1 rfl) ?_
  refine lv_iload hx hb (by decide +kernel : decode cL_law 658 = .ok (.iload 4, 2)) (lv_at hl 0 rfl) ?_
  refine lv_iconst (v := nI 2) hx hb (by decide +kernel : decode cL_law 660 = .ok (.iconst 2, 1)) (by decide +kernel) ?_
  refine lv_iadd hx hb (by decide +kernel : decode cL_law 661 = .ok (.iadd, 1)) ?_
  rw [nI_add]
  refine va_sld hx hb hXs hbl hbA hV.2.2 (i := nI (i + 2)) (vp_in_nI (by omega) (by omega)) (by decide +kernel : decode cL_law 662 = .ok (.iaload, 1)) ?_
  rw [nI_clamp (n := i + 2) (by omega)]
  refine l_call (as := [vI (xs (i + 1)), vI (xs (i + 2))]) (ci := 11) (o := 0) (rest := [.int r]) (n := 2) hX0 (l_met (mid := 223) hX0.2.2.2.2.2.2.2 rfl rfl (tok_i (tok_i (tok_1 tvd_11))) ht10.1 rfl e2) tc_11 w_8_44 w_8_47 w_8_45 w_8_46 w_1_13 rfl (by decide +kernel) rfl (by decide +kernel) ⟨Nat.le_of_ble_eq_true rfl, Nat.le_of_ble_eq_true rfl⟩ hl.1 (Nat.le_of_ble_eq_true rfl) (by decide +kernel : decode cL_law 663 = .ok (.invokevirtual 77, 3)) ⟨by show cells ≤ 601024; omega, by show slots ≤ 7293033; omega⟩ hV (fun H locs ht11 hV => ?_)
  refine (?_ : W p l e room_1 s m #[Value.ref b] below meth c H locs cells slots Q (F0 m 666 ls [.int r, .int r]))
  refine lv_icmp_eq (tgt := 1302) hx hb (by decide +kernel : decode cL_law 666 = .ok (.if_icmp .eq 636, 3)) (by decide) (fun _ => ?_) (fun h => absurd rfl h)
  exact W.widen (k := cells + 1) (n := slots + 6) (by omega) (by omega) (nx G2 f H locs ls hG2 ht11.1 hV hl)
set_option maxRecDepth 100000 in
theorem law_spare {E : tE} {A : Nat → Prop} {p : Program} {l : Launch} {e : Env} {s : State} {m : MethodId} {below : List Frame} {meth : Method} {c : Code} {b L out i cells slots : Nat} {xs : Nat → Int32} {Q : State → Prop} {G : tH} {f : Nat → Int64} {H : Heap} {locs : List Loc} {ls : Array Slot} (hX : lwX E A p l s m c b L xs) (hi : i + 7 ≤ L) (hL : L ≤ 3584) (hG : INV G) (ht : tokG G) (hV : nV E A s (tWd E G ++ [(out, lgC E f)]) H locs) (hl : lv_has ls 7 (lwL E b out i)) (hc : cells + 1 ≤ 601024) (hs : slots + 6 ≤ 7293033) (nx : lwN E A p l e s m below meth c b out i Q (cells + 1) (slots + 6)) : W p l e room_1 s m #[Value.ref b] below meth c H locs cells slots Q (F0 m 671 ls []) := by
  obtain ⟨hX0, hAl, hXs, hbl, htr, hTh, hs1, hs2⟩ := hX
  have hx := hX0.1
  have hb := hX0.2.1
  have hbA : ¬ A b := hAl b hbl
  obtain ⟨r, G1, G2, e1, e2, hG2⟩ := p_spare (xs (i + 1)) hG
  refine lv_aload_n hx hb (by decide +kernel : decode cL_law 671 = .ok (.aload_n 1, 1)) rfl (lv_at hl 2 rfl) ?_
  refine lv_aload_n hx hb (by decide +kernel : decode cL_law 672 = .ok (.aload_n 0, 1)) rfl (lv_at hl 1 rfl) ?_
  refine lv_iload hx hb (by decide +kernel : decode cL_law 673 = .ok (.iload 4, 2)) (lv_at hl 0 rfl) ?_
  refine lv_iconst (v := nI 1) hx hb (by decide +kernel : decode cL_law 675 = .ok (.iconst 1, 1)) (by decide +kernel) ?_
  refine lv_iadd hx hb (by decide +kernel : decode cL_law 676 = .ok (.iadd, 1)) ?_
  rw [nI_add]
  refine va_sld hx hb hXs hbl hbA hV.2.2 (i := nI (i + 1)) (vp_in_nI (by omega) (by omega)) (by decide +kernel : decode cL_law 677 = .ok (.iaload, 1)) ?_
  rw [nI_clamp (n := i + 1) (by omega)]
  refine l_call (as := [vI (xs (i + 1))]) (ci := 10) (o := 0) (rest := []) (n := 1) hX0 (l_met (mid := 112) hX0.2.2.2.2.2.2.2 rfl rfl (tok_i (tok_1 tvd_10)) ht rfl e1) tc_10 w_4_183 w_4_186 w_4_184 w_4_185 w_1_1 rfl (by decide +kernel) rfl (by decide +kernel) ⟨Nat.le_of_ble_eq_true rfl, Nat.le_of_ble_eq_true rfl⟩ hl.1 (Nat.le_of_ble_eq_true rfl) (by decide +kernel : decode cL_law 678 = .ok (.invokevirtual 78, 3)) ⟨by show cells ≤ 601024; omega, by show slots ≤ 7293033; omega⟩ hV (fun H locs ht10 hV => ?_)
  refine (?_ : W p l e room_1 s m #[Value.ref b] below meth c H locs cells slots Q (F0 m 681 ls [.int r]))
  refine lv_aload_n hx hb (by decide +kernel : decode cL_law 681 = .ok (.aload_n 2, 1)) rfl (lv_at hl 3 rfl) ?_
  refine lv_aload_n hx hb (by decide +kernel : decode cL_law 682 = .ok (.aload_n 0, 1)) rfl (lv_at hl 1 rfl) ?_
  refine lv_iload hx hb (by decide +kernel : decode cL_law 683 = .ok (.iload 4, 2)) (lv_at hl 0 rfl) ?_
  refine lv_iconst (v := nI 1) hx hb (by decide +kernel : decode cL_law 685 = .ok (.iconst 1, 1)) (by decide +kernel) ?_
  refine lv_iadd hx hb (by decide +kernel : decode cL_law 686 = .ok (.iadd, 1)) ?_
  rw [nI_add]
  refine va_sld hx hb hXs hbl hbA hV.2.2 (i := nI (i + 1)) (vp_in_nI (by omega) (by omega)) (by decide +kernel : decode cL_law 687 = .ok (.iaload, 1)) ?_
  rw [nI_clamp (n := i + 1) (by omega)]
  refine l_call (as := [vI (xs (i + 1))]) (ci := 11) (o := 0) (rest := [.int r]) (n := 1) hX0 (l_met (mid := 224) hX0.2.2.2.2.2.2.2 rfl rfl (tok_i (tok_1 tvd_11)) ht10.1 rfl e2) tc_11 w_8_56 w_8_59 w_8_57 w_8_58 w_1_13 rfl (by decide +kernel) rfl (by decide +kernel) ⟨Nat.le_of_ble_eq_true rfl, Nat.le_of_ble_eq_true rfl⟩ hl.1 (Nat.le_of_ble_eq_true rfl) (by decide +kernel : decode cL_law 688 = .ok (.invokevirtual 81, 3)) ⟨by show cells ≤ 601024; omega, by show slots ≤ 7293033; omega⟩ hV (fun H locs ht11 hV => ?_)
  refine (?_ : W p l e room_1 s m #[Value.ref b] below meth c H locs cells slots Q (F0 m 691 ls [.int r, .int r]))
  refine lv_icmp_eq (tgt := 1302) hx hb (by decide +kernel : decode cL_law 691 = .ok (.if_icmp .eq 611, 3)) (by decide) (fun _ => ?_) (fun h => absurd rfl h)
  exact W.widen (k := cells + 1) (n := slots + 6) (by omega) (by omega) (nx G2 f H locs ls hG2 ht11.1 hV hl)
set_option maxRecDepth 100000 in
theorem law_bribe {E : tE} {A : Nat → Prop} {p : Program} {l : Launch} {e : Env} {s : State} {m : MethodId} {below : List Frame} {meth : Method} {c : Code} {b L out i cells slots : Nat} {xs : Nat → Int32} {Q : State → Prop} {G : tH} {f : Nat → Int64} {H : Heap} {locs : List Loc} {ls : Array Slot} (hX : lwX E A p l s m c b L xs) (hi : i + 7 ≤ L) (hL : L ≤ 3584) (hG : INV G) (ht : tokG G) (hV : nV E A s (tWd E G ++ [(out, lgC E f)]) H locs) (hl : lv_has ls 7 (lwL E b out i)) (hc : cells + 1 ≤ 601024) (hs : slots + 6 ≤ 7293033) (nx : lwN E A p l e s m below meth c b out i Q (cells + 1) (slots + 6)) : W p l e room_1 s m #[Value.ref b] below meth c H locs cells slots Q (F0 m 696 ls []) := by
  obtain ⟨hX0, hAl, hXs, hbl, htr, hTh, hs1, hs2⟩ := hX
  have hx := hX0.1
  have hb := hX0.2.1
  have hbA : ¬ A b := hAl b hbl
  obtain ⟨r, G1, G2, e1, e2, hG2⟩ := p_bribe (xs (i + 1)) hG
  refine lv_aload_n hx hb (by decide +kernel : decode cL_law 696 = .ok (.aload_n 1, 1)) rfl (lv_at hl 2 rfl) ?_
  refine lv_aload_n hx hb (by decide +kernel : decode cL_law 697 = .ok (.aload_n 0, 1)) rfl (lv_at hl 1 rfl) ?_
  refine lv_iload hx hb (by decide +kernel : decode cL_law 698 = .ok (.iload 4, 2)) (lv_at hl 0 rfl) ?_
  refine lv_iconst (v := nI 1) hx hb (by decide +kernel : decode cL_law 700 = .ok (.iconst 1, 1)) (by decide +kernel) ?_
  refine lv_iadd hx hb (by decide +kernel : decode cL_law 701 = .ok (.iadd, 1)) ?_
  rw [nI_add]
  refine va_sld hx hb hXs hbl hbA hV.2.2 (i := nI (i + 1)) (vp_in_nI (by omega) (by omega)) (by decide +kernel : decode cL_law 702 = .ok (.iaload, 1)) ?_
  rw [nI_clamp (n := i + 1) (by omega)]
  refine l_call (as := [vI (xs (i + 1))]) (ci := 10) (o := 0) (rest := []) (n := 1) hX0 (l_met (mid := 113) hX0.2.2.2.2.2.2.2 rfl rfl (tok_i (tok_1 tvd_10)) ht rfl e1) tc_10 w_4_191 w_4_194 w_4_192 w_4_193 w_1_1 rfl (by decide +kernel) rfl (by decide +kernel) ⟨Nat.le_of_ble_eq_true rfl, Nat.le_of_ble_eq_true rfl⟩ hl.1 (Nat.le_of_ble_eq_true rfl) (by decide +kernel : decode cL_law 703 = .ok (.invokevirtual 82, 3)) ⟨by show cells ≤ 601024; omega, by show slots ≤ 7293033; omega⟩ hV (fun H locs ht10 hV => ?_)
  refine (?_ : W p l e room_1 s m #[Value.ref b] below meth c H locs cells slots Q (F0 m 706 ls [.int r]))
  refine lv_aload_n hx hb (by decide +kernel : decode cL_law 706 = .ok (.aload_n 2, 1)) rfl (lv_at hl 3 rfl) ?_
  refine lv_aload_n hx hb (by decide +kernel : decode cL_law 707 = .ok (.aload_n 0, 1)) rfl (lv_at hl 1 rfl) ?_
  refine lv_iload hx hb (by decide +kernel : decode cL_law 708 = .ok (.iload 4, 2)) (lv_at hl 0 rfl) ?_
  refine lv_iconst (v := nI 1) hx hb (by decide +kernel : decode cL_law 710 = .ok (.iconst 1, 1)) (by decide +kernel) ?_
  refine lv_iadd hx hb (by decide +kernel : decode cL_law 711 = .ok (.iadd, 1)) ?_
  rw [nI_add]
  refine va_sld hx hb hXs hbl hbA hV.2.2 (i := nI (i + 1)) (vp_in_nI (by omega) (by omega)) (by decide +kernel : decode cL_law 712 = .ok (.iaload, 1)) ?_
  rw [nI_clamp (n := i + 1) (by omega)]
  refine l_call (as := [vI (xs (i + 1))]) (ci := 11) (o := 0) (rest := [.int r]) (n := 1) hX0 (l_met (mid := 225) hX0.2.2.2.2.2.2.2 rfl rfl (tok_i (tok_1 tvd_11)) ht10.1 rfl e2) tc_11 w_8_68 w_8_71 w_8_69 w_8_70 w_1_13 rfl (by decide +kernel) rfl (by decide +kernel) ⟨Nat.le_of_ble_eq_true rfl, Nat.le_of_ble_eq_true rfl⟩ hl.1 (Nat.le_of_ble_eq_true rfl) (by decide +kernel : decode cL_law 713 = .ok (.invokevirtual 86, 3)) ⟨by show cells ≤ 601024; omega, by show slots ≤ 7293033; omega⟩ hV (fun H locs ht11 hV => ?_)
  refine (?_ : W p l e room_1 s m #[Value.ref b] below meth c H locs cells slots Q (F0 m 716 ls [.int r, .int r]))
  refine lv_icmp_eq (tgt := 1302) hx hb (by decide +kernel : decode cL_law 716 = .ok (.if_icmp .eq 586, 3)) (by decide) (fun _ => ?_) (fun h => absurd rfl h)
  exact W.widen (k := cells + 1) (n := slots + 6) (by omega) (by omega) (nx G2 f H locs ls hG2 ht11.1 hV hl)
set_option maxRecDepth 100000 in
theorem law_sue {E : tE} {A : Nat → Prop} {p : Program} {l : Launch} {e : Env} {s : State} {m : MethodId} {below : List Frame} {meth : Method} {c : Code} {b L out i cells slots : Nat} {xs : Nat → Int32} {Q : State → Prop} {G : tH} {f : Nat → Int64} {H : Heap} {locs : List Loc} {ls : Array Slot} (hX : lwX E A p l s m c b L xs) (hi : i + 7 ≤ L) (hL : L ≤ 3584) (hG : INV G) (ht : tokG G) (hV : nV E A s (tWd E G ++ [(out, lgC E f)]) H locs) (hl : lv_has ls 7 (lwL E b out i)) (hc : cells + 1 ≤ 601024) (hs : slots + 6 ≤ 7293033) (nx : lwN E A p l e s m below meth c b out i Q (cells + 1) (slots + 6)) : W p l e room_1 s m #[Value.ref b] below meth c H locs cells slots Q (F0 m 721 ls []) := by
  obtain ⟨hX0, hAl, hXs, hbl, htr, hTh, hs1, hs2⟩ := hX
  have hx := hX0.1
  have hb := hX0.2.1
  have hbA : ¬ A b := hAl b hbl
  obtain ⟨r, G1, G2, e1, e2, hG2⟩ := p_sue  hG
  refine lv_aload_n hx hb (by decide +kernel : decode cL_law 721 = .ok (.aload_n 1, 1)) rfl (lv_at hl 2 rfl) ?_
  refine l_call (as := []) (ci := 10) (o := 0) (rest := []) (n := 0) hX0 (l_met (mid := 114) hX0.2.2.2.2.2.2.2 rfl rfl (tok_1 tvd_10) ht rfl e1) tc_10 w_4_199 w_4_202 w_4_200 w_4_201 w_1_1 rfl (by decide +kernel) rfl (by decide +kernel) ⟨Nat.le_of_ble_eq_true rfl, Nat.le_of_ble_eq_true rfl⟩ hl.1 (Nat.le_of_ble_eq_true rfl) (by decide +kernel : decode cL_law 722 = .ok (.invokevirtual 87, 3)) ⟨by show cells ≤ 601024; omega, by show slots ≤ 7293033; omega⟩ hV (fun H locs ht10 hV => ?_)
  refine (?_ : W p l e room_1 s m #[Value.ref b] below meth c H locs cells slots Q (F0 m 725 ls [.int r]))
  refine lv_aload_n hx hb (by decide +kernel : decode cL_law 725 = .ok (.aload_n 2, 1)) rfl (lv_at hl 3 rfl) ?_
  refine l_call (as := []) (ci := 11) (o := 0) (rest := [.int r]) (n := 0) hX0 (l_met (mid := 226) hX0.2.2.2.2.2.2.2 rfl rfl (tok_1 tvd_11) ht10.1 rfl e2) tc_11 w_8_80 w_8_83 w_8_81 w_8_82 w_1_13 rfl (by decide +kernel) rfl (by decide +kernel) ⟨Nat.le_of_ble_eq_true rfl, Nat.le_of_ble_eq_true rfl⟩ hl.1 (Nat.le_of_ble_eq_true rfl) (by decide +kernel : decode cL_law 726 = .ok (.invokevirtual 90, 3)) ⟨by show cells ≤ 601024; omega, by show slots ≤ 7293033; omega⟩ hV (fun H locs ht11 hV => ?_)
  refine (?_ : W p l e room_1 s m #[Value.ref b] below meth c H locs cells slots Q (F0 m 729 ls [.int r, .int r]))
  refine lv_icmp_eq (tgt := 1302) hx hb (by decide +kernel : decode cL_law 729 = .ok (.if_icmp .eq 573, 3)) (by decide) (fun _ => ?_) (fun h => absurd rfl h)
  exact W.widen (k := cells + 1) (n := slots + 6) (by omega) (by omega) (nx G2 f H locs ls hG2 ht11.1 hV hl)
set_option maxRecDepth 100000 in
theorem law_close {E : tE} {A : Nat → Prop} {p : Program} {l : Launch} {e : Env} {s : State} {m : MethodId} {below : List Frame} {meth : Method} {c : Code} {b L out i cells slots : Nat} {xs : Nat → Int32} {Q : State → Prop} {G : tH} {f : Nat → Int64} {H : Heap} {locs : List Loc} {ls : Array Slot} (hX : lwX E A p l s m c b L xs) (hi : i + 7 ≤ L) (hL : L ≤ 3584) (hG : INV G) (ht : tokG G) (hV : nV E A s (tWd E G ++ [(out, lgC E f)]) H locs) (hl : lv_has ls 7 (lwL E b out i)) (hc : cells + 1 ≤ 601024) (hs : slots + 6 ≤ 7293033) (nx : lwN E A p l e s m below meth c b out i Q (cells + 1) (slots + 6)) : W p l e room_1 s m #[Value.ref b] below meth c H locs cells slots Q (F0 m 734 ls []) := by
  obtain ⟨hX0, hAl, hXs, hbl, htr, hTh, hs1, hs2⟩ := hX
  have hx := hX0.1
  have hb := hX0.2.1
  have hbA : ¬ A b := hAl b hbl
  obtain ⟨r, G1, G2, e1, e2, hG2⟩ := p_close  hG
  refine lv_aload_n hx hb (by decide +kernel : decode cL_law 734 = .ok (.aload_n 1, 1)) rfl (lv_at hl 2 rfl) ?_
  refine l_call (as := []) (ci := 10) (o := 0) (rest := []) (n := 0) hX0 (l_met (mid := 115) hX0.2.2.2.2.2.2.2 rfl rfl (tok_1 tvd_10) ht rfl e1) tc_10 w_4_222 w_4_225 w_4_223 w_4_224 w_1_1 rfl (by decide +kernel) rfl (by decide +kernel) ⟨Nat.le_of_ble_eq_true rfl, Nat.le_of_ble_eq_true rfl⟩ hl.1 (Nat.le_of_ble_eq_true rfl) (by decide +kernel : decode cL_law 735 = .ok (.invokevirtual 91, 3)) ⟨by show cells ≤ 601024; omega, by show slots ≤ 7293033; omega⟩ hV (fun H locs ht10 hV => ?_)
  refine (?_ : W p l e room_1 s m #[Value.ref b] below meth c H locs cells slots Q (F0 m 738 ls [.int r]))
  refine lv_aload_n hx hb (by decide +kernel : decode cL_law 738 = .ok (.aload_n 2, 1)) rfl (lv_at hl 3 rfl) ?_
  refine l_call (as := []) (ci := 11) (o := 0) (rest := [.int r]) (n := 0) hX0 (l_met (mid := 227) hX0.2.2.2.2.2.2.2 rfl rfl (tok_1 tvd_11) ht10.1 rfl e2) tc_11 w_8_92 w_8_95 w_8_93 w_8_94 w_1_13 rfl (by decide +kernel) rfl (by decide +kernel) ⟨Nat.le_of_ble_eq_true rfl, Nat.le_of_ble_eq_true rfl⟩ hl.1 (Nat.le_of_ble_eq_true rfl) (by decide +kernel : decode cL_law 739 = .ok (.invokevirtual 95, 3)) ⟨by show cells ≤ 601024; omega, by show slots ≤ 7293033; omega⟩ hV (fun H locs ht11 hV => ?_)
  refine (?_ : W p l e room_1 s m #[Value.ref b] below meth c H locs cells slots Q (F0 m 742 ls [.int r, .int r]))
  refine lv_icmp_eq (tgt := 1302) hx hb (by decide +kernel : decode cL_law 742 = .ok (.if_icmp .eq 560, 3)) (by decide) (fun _ => ?_) (fun h => absurd rfl h)
  exact W.widen (k := cells + 1) (n := slots + 6) (by omega) (by omega) (nx G2 f H locs ls hG2 ht11.1 hV hl)
set_option maxRecDepth 100000 in
theorem law_undo {E : tE} {A : Nat → Prop} {p : Program} {l : Launch} {e : Env} {s : State} {m : MethodId} {below : List Frame} {meth : Method} {c : Code} {b L out i cells slots : Nat} {xs : Nat → Int32} {Q : State → Prop} {G : tH} {f : Nat → Int64} {H : Heap} {locs : List Loc} {ls : Array Slot} (hX : lwX E A p l s m c b L xs) (hi : i + 7 ≤ L) (hL : L ≤ 3584) (hG : INV G) (ht : tokG G) (hV : nV E A s (tWd E G ++ [(out, lgC E f)]) H locs) (hl : lv_has ls 7 (lwL E b out i)) (hc : cells + 1 ≤ 601024) (hs : slots + 6 ≤ 7293033) (nx : lwN E A p l e s m below meth c b out i Q (cells + 1) (slots + 6)) : W p l e room_1 s m #[Value.ref b] below meth c H locs cells slots Q (F0 m 747 ls []) := by
  obtain ⟨hX0, hAl, hXs, hbl, htr, hTh, hs1, hs2⟩ := hX
  have hx := hX0.1
  have hb := hX0.2.1
  have hbA : ¬ A b := hAl b hbl
  obtain ⟨r, G1, G2, e1, e2, hG2⟩ := p_undo  hG
  refine lv_aload_n hx hb (by decide +kernel : decode cL_law 747 = .ok (.aload_n 1, 1)) rfl (lv_at hl 2 rfl) ?_
  refine l_call (as := []) (ci := 10) (o := 0) (rest := []) (n := 0) hX0 (l_met (mid := 116) hX0.2.2.2.2.2.2.2 rfl rfl (tok_1 tvd_10) ht rfl e1) tc_10 w_4_230 w_4_233 w_4_231 w_4_232 w_1_1 rfl (by decide +kernel) rfl (by decide +kernel) ⟨Nat.le_of_ble_eq_true rfl, Nat.le_of_ble_eq_true rfl⟩ hl.1 (Nat.le_of_ble_eq_true rfl) (by decide +kernel : decode cL_law 748 = .ok (.invokevirtual 96, 3)) ⟨by show cells ≤ 601024; omega, by show slots ≤ 7293033; omega⟩ hV (fun H locs ht10 hV => ?_)
  refine (?_ : W p l e room_1 s m #[Value.ref b] below meth c H locs cells slots Q (F0 m 751 ls [.int r]))
  refine lv_aload_n hx hb (by decide +kernel : decode cL_law 751 = .ok (.aload_n 2, 1)) rfl (lv_at hl 3 rfl) ?_
  refine l_call (as := []) (ci := 11) (o := 0) (rest := [.int r]) (n := 0) hX0 (l_met (mid := 228) hX0.2.2.2.2.2.2.2 rfl rfl (tok_1 tvd_11) ht10.1 rfl e2) tc_11 w_8_100 w_8_103 w_8_101 w_8_102 w_1_13 rfl (by decide +kernel) rfl (by decide +kernel) ⟨Nat.le_of_ble_eq_true rfl, Nat.le_of_ble_eq_true rfl⟩ hl.1 (Nat.le_of_ble_eq_true rfl) (by decide +kernel : decode cL_law 752 = .ok (.invokevirtual 99, 3)) ⟨by show cells ≤ 601024; omega, by show slots ≤ 7293033; omega⟩ hV (fun H locs ht11 hV => ?_)
  refine (?_ : W p l e room_1 s m #[Value.ref b] below meth c H locs cells slots Q (F0 m 755 ls [.int r, .int r]))
  refine lv_icmp_eq (tgt := 1302) hx hb (by decide +kernel : decode cL_law 755 = .ok (.if_icmp .eq 547, 3)) (by decide) (fun _ => ?_) (fun h => absurd rfl h)
  exact W.widen (k := cells + 1) (n := slots + 6) (by omega) (by omega) (nx G2 f H locs ls hG2 ht11.1 hV hl)
set_option maxRecDepth 100000 in
theorem law_judged {E : tE} {A : Nat → Prop} {p : Program} {l : Launch} {e : Env} {s : State} {m : MethodId} {below : List Frame} {meth : Method} {c : Code} {b L out i cells slots : Nat} {xs : Nat → Int32} {Q : State → Prop} {G : tH} {f : Nat → Int64} {H : Heap} {locs : List Loc} {ls : Array Slot} (hX : lwX E A p l s m c b L xs) (hi : i + 7 ≤ L) (hL : L ≤ 3584) (hG : INV G) (ht : tokG G) (hV : nV E A s (tWd E G ++ [(out, lgC E f)]) H locs) (hl : lv_has ls 7 (lwL E b out i)) (hc : cells + 1 ≤ 601024) (hs : slots + 6 ≤ 7293033) (nx : lwN E A p l e s m below meth c b out i Q (cells + 1) (slots + 6)) : W p l e room_1 s m #[Value.ref b] below meth c H locs cells slots Q (F0 m 760 ls []) := by
  obtain ⟨hX0, hAl, hXs, hbl, htr, hTh, hs1, hs2⟩ := hX
  have hx := hX0.1
  have hb := hX0.2.1
  have hbA : ¬ A b := hAl b hbl
  obtain ⟨r, G1, G2, e1, e2, hG2⟩ := p_judged (xs (i + 1)) hG
  refine lv_aload_n hx hb (by decide +kernel : decode cL_law 760 = .ok (.aload_n 1, 1)) rfl (lv_at hl 2 rfl) ?_
  refine lv_aload_n hx hb (by decide +kernel : decode cL_law 761 = .ok (.aload_n 0, 1)) rfl (lv_at hl 1 rfl) ?_
  refine lv_iload hx hb (by decide +kernel : decode cL_law 762 = .ok (.iload 4, 2)) (lv_at hl 0 rfl) ?_
  refine lv_iconst (v := nI 1) hx hb (by decide +kernel : decode cL_law 764 = .ok (.iconst 1, 1)) (by decide +kernel) ?_
  refine lv_iadd hx hb (by decide +kernel : decode cL_law 765 = .ok (.iadd, 1)) ?_
  rw [nI_add]
  refine va_sld hx hb hXs hbl hbA hV.2.2 (i := nI (i + 1)) (vp_in_nI (by omega) (by omega)) (by decide +kernel : decode cL_law 766 = .ok (.iaload, 1)) ?_
  rw [nI_clamp (n := i + 1) (by omega)]
  refine l_call (as := [vI (xs (i + 1))]) (ci := 10) (o := 0) (rest := []) (n := 1) hX0 (l_met (mid := 117) hX0.2.2.2.2.2.2.2 rfl rfl (tok_i (tok_1 tvd_10)) ht rfl e1) tc_10 w_4_238 w_5_1 w_4_239 w_5_0 w_1_1 rfl (by decide +kernel) rfl (by decide +kernel) ⟨Nat.le_of_ble_eq_true rfl, Nat.le_of_ble_eq_true rfl⟩ hl.1 (Nat.le_of_ble_eq_true rfl) (by decide +kernel : decode cL_law 767 = .ok (.invokevirtual 100, 3)) ⟨by show cells ≤ 601024; omega, by show slots ≤ 7293033; omega⟩ hV (fun H locs ht10 hV => ?_)
  refine (?_ : W p l e room_1 s m #[Value.ref b] below meth c H locs cells slots Q (F0 m 770 ls [.int r]))
  refine lv_aload_n hx hb (by decide +kernel : decode cL_law 770 = .ok (.aload_n 2, 1)) rfl (lv_at hl 3 rfl) ?_
  refine lv_aload_n hx hb (by decide +kernel : decode cL_law 771 = .ok (.aload_n 0, 1)) rfl (lv_at hl 1 rfl) ?_
  refine lv_iload hx hb (by decide +kernel : decode cL_law 772 = .ok (.iload 4, 2)) (lv_at hl 0 rfl) ?_
  refine lv_iconst (v := nI 1) hx hb (by decide +kernel : decode cL_law 774 = .ok (.iconst 1, 1)) (by decide +kernel) ?_
  refine lv_iadd hx hb (by decide +kernel : decode cL_law 775 = .ok (.iadd, 1)) ?_
  rw [nI_add]
  refine va_sld hx hb hXs hbl hbA hV.2.2 (i := nI (i + 1)) (vp_in_nI (by omega) (by omega)) (by decide +kernel : decode cL_law 776 = .ok (.iaload, 1)) ?_
  rw [nI_clamp (n := i + 1) (by omega)]
  refine l_call (as := [vI (xs (i + 1))]) (ci := 11) (o := 0) (rest := [.int r]) (n := 1) hX0 (l_met (mid := 232) hX0.2.2.2.2.2.2.2 rfl rfl (tok_i (tok_1 tvd_11)) ht10.1 rfl e2) tc_11 w_8_104 w_8_107 w_8_105 w_8_106 w_1_13 rfl (by decide +kernel) rfl (by decide +kernel) ⟨Nat.le_of_ble_eq_true rfl, Nat.le_of_ble_eq_true rfl⟩ hl.1 (Nat.le_of_ble_eq_true rfl) (by decide +kernel : decode cL_law 777 = .ok (.invokevirtual 103, 3)) ⟨by show cells ≤ 601024; omega, by show slots ≤ 7293033; omega⟩ hV (fun H locs ht11 hV => ?_)
  refine (?_ : W p l e room_1 s m #[Value.ref b] below meth c H locs cells slots Q (F0 m 780 ls [.int r, .int r]))
  refine lv_icmp_eq (tgt := 1302) hx hb (by decide +kernel : decode cL_law 780 = .ok (.if_icmp .eq 522, 3)) (by decide) (fun _ => ?_) (fun h => absurd rfl h)
  exact W.widen (k := cells + 1) (n := slots + 6) (by omega) (by omega) (nx G2 f H locs ls hG2 ht11.1 hV hl)
set_option maxRecDepth 100000 in
theorem law_worth {E : tE} {A : Nat → Prop} {p : Program} {l : Launch} {e : Env} {s : State} {m : MethodId} {below : List Frame} {meth : Method} {c : Code} {b L out i cells slots : Nat} {xs : Nat → Int32} {Q : State → Prop} {G : tH} {f : Nat → Int64} {H : Heap} {locs : List Loc} {ls : Array Slot} (hX : lwX E A p l s m c b L xs) (hi : i + 7 ≤ L) (hL : L ≤ 3584) (hG : INV G) (ht : tokG G) (hV : nV E A s (tWd E G ++ [(out, lgC E f)]) H locs) (hl : lv_has ls 7 (lwL E b out i)) (hc : cells + 1 ≤ 601024) (hs : slots + 6 ≤ 7293033) (nx : lwN E A p l e s m below meth c b out i Q (cells + 1) (slots + 6)) : W p l e room_1 s m #[Value.ref b] below meth c H locs cells slots Q (F0 m 785 ls []) := by
  obtain ⟨hX0, hAl, hXs, hbl, htr, hTh, hs1, hs2⟩ := hX
  have hx := hX0.1
  have hb := hX0.2.1
  have hbA : ¬ A b := hAl b hbl
  obtain ⟨r, G1, G2, e1, e2, hG2⟩ := p_worth (xs (i + 1)) hG
  refine lv_aload_n hx hb (by decide +kernel : decode cL_law 785 = .ok (.aload_n 1, 1)) rfl (lv_at hl 2 rfl) ?_
  refine lv_aload_n hx hb (by decide +kernel : decode cL_law 786 = .ok (.aload_n 0, 1)) rfl (lv_at hl 1 rfl) ?_
  refine lv_iload hx hb (by decide +kernel : decode cL_law 787 = .ok (.iload 4, 2)) (lv_at hl 0 rfl) ?_
  refine lv_iconst (v := nI 1) hx hb (by decide +kernel : decode cL_law 789 = .ok (.iconst 1, 1)) (by decide +kernel) ?_
  refine lv_iadd hx hb (by decide +kernel : decode cL_law 790 = .ok (.iadd, 1)) ?_
  rw [nI_add]
  refine va_sld hx hb hXs hbl hbA hV.2.2 (i := nI (i + 1)) (vp_in_nI (by omega) (by omega)) (by decide +kernel : decode cL_law 791 = .ok (.iaload, 1)) ?_
  rw [nI_clamp (n := i + 1) (by omega)]
  refine l_call (as := [vI (xs (i + 1))]) (ci := 10) (o := 0) (rest := []) (n := 1) hX0 (l_met (mid := 118) hX0.2.2.2.2.2.2.2 rfl rfl (tok_i (tok_1 tvd_10)) ht rfl e1) tc_10 w_5_23 w_5_26 w_5_24 w_5_25 w_1_1 rfl (by decide +kernel) rfl (by decide +kernel) ⟨Nat.le_of_ble_eq_true rfl, Nat.le_of_ble_eq_true rfl⟩ hl.1 (Nat.le_of_ble_eq_true rfl) (by decide +kernel : decode cL_law 792 = .ok (.invokevirtual 104, 3)) ⟨by show cells ≤ 601024; omega, by show slots ≤ 7293033; omega⟩ hV (fun H locs ht10 hV => ?_)
  refine (?_ : W p l e room_1 s m #[Value.ref b] below meth c H locs cells slots Q (F0 m 795 ls [.int r]))
  refine lv_aload_n hx hb (by decide +kernel : decode cL_law 795 = .ok (.aload_n 2, 1)) rfl (lv_at hl 3 rfl) ?_
  refine lv_aload_n hx hb (by decide +kernel : decode cL_law 796 = .ok (.aload_n 0, 1)) rfl (lv_at hl 1 rfl) ?_
  refine lv_iload hx hb (by decide +kernel : decode cL_law 797 = .ok (.iload 4, 2)) (lv_at hl 0 rfl) ?_
  refine lv_iconst (v := nI 1) hx hb (by decide +kernel : decode cL_law 799 = .ok (.iconst 1, 1)) (by decide +kernel) ?_
  refine lv_iadd hx hb (by decide +kernel : decode cL_law 800 = .ok (.iadd, 1)) ?_
  rw [nI_add]
  refine va_sld hx hb hXs hbl hbA hV.2.2 (i := nI (i + 1)) (vp_in_nI (by omega) (by omega)) (by decide +kernel : decode cL_law 801 = .ok (.iaload, 1)) ?_
  rw [nI_clamp (n := i + 1) (by omega)]
  refine l_call (as := [vI (xs (i + 1))]) (ci := 11) (o := 0) (rest := [.int r]) (n := 1) hX0 (l_met (mid := 235) hX0.2.2.2.2.2.2.2 rfl rfl (tok_i (tok_1 tvd_11)) ht10.1 rfl e2) tc_11 w_8_120 w_8_123 w_8_121 w_8_122 w_1_13 rfl (by decide +kernel) rfl (by decide +kernel) ⟨Nat.le_of_ble_eq_true rfl, Nat.le_of_ble_eq_true rfl⟩ hl.1 (Nat.le_of_ble_eq_true rfl) (by decide +kernel : decode cL_law 802 = .ok (.invokevirtual 107, 3)) ⟨by show cells ≤ 601024; omega, by show slots ≤ 7293033; omega⟩ hV (fun H locs ht11 hV => ?_)
  refine (?_ : W p l e room_1 s m #[Value.ref b] below meth c H locs cells slots Q (F0 m 805 ls [.int r, .int r]))
  refine lv_icmp_eq (tgt := 1302) hx hb (by decide +kernel : decode cL_law 805 = .ok (.if_icmp .eq 497, 3)) (by decide) (fun _ => ?_) (fun h => absurd rfl h)
  exact W.widen (k := cells + 1) (n := slots + 6) (by omega) (by omega) (nx G2 f H locs ls hG2 ht11.1 hV hl)
set_option maxRecDepth 100000 in
theorem law_news {E : tE} {A : Nat → Prop} {p : Program} {l : Launch} {e : Env} {s : State} {m : MethodId} {below : List Frame} {meth : Method} {c : Code} {b L out i cells slots : Nat} {xs : Nat → Int32} {Q : State → Prop} {G : tH} {f : Nat → Int64} {H : Heap} {locs : List Loc} {ls : Array Slot} (hX : lwX E A p l s m c b L xs) (hi : i + 7 ≤ L) (hL : L ≤ 3584) (hG : INV G) (ht : tokG G) (hV : nV E A s (tWd E G ++ [(out, lgC E f)]) H locs) (hl : lv_has ls 7 (lwL E b out i)) (hc : cells + 1 ≤ 601024) (hs : slots + 6 ≤ 7293033) (nx : lwN E A p l e s m below meth c b out i Q (cells + 1) (slots + 6)) : W p l e room_1 s m #[Value.ref b] below meth c H locs cells slots Q (F0 m 810 ls []) := by
  obtain ⟨hX0, hAl, hXs, hbl, htr, hTh, hs1, hs2⟩ := hX
  have hx := hX0.1
  have hb := hX0.2.1
  have hbA : ¬ A b := hAl b hbl
  obtain ⟨r, G1, G2, e1, e2, hG2⟩ := p_news  hG
  refine lv_aload_n hx hb (by decide +kernel : decode cL_law 810 = .ok (.aload_n 1, 1)) rfl (lv_at hl 2 rfl) ?_
  refine l_call (as := []) (ci := 10) (o := 0) (rest := []) (n := 0) hX0 (l_met (mid := 119) hX0.2.2.2.2.2.2.2 rfl rfl (tok_1 tvd_10) ht rfl e1) tc_10 w_5_44 w_5_47 w_5_45 w_5_46 w_1_1 rfl (by decide +kernel) rfl (by decide +kernel) ⟨Nat.le_of_ble_eq_true rfl, Nat.le_of_ble_eq_true rfl⟩ hl.1 (Nat.le_of_ble_eq_true rfl) (by decide +kernel : decode cL_law 811 = .ok (.invokevirtual 108, 3)) ⟨by show cells ≤ 601024; omega, by show slots ≤ 7293033; omega⟩ hV (fun H locs ht10 hV => ?_)
  refine (?_ : W p l e room_1 s m #[Value.ref b] below meth c H locs cells slots Q (F0 m 814 ls [.int r]))
  refine lv_aload_n hx hb (by decide +kernel : decode cL_law 814 = .ok (.aload_n 2, 1)) rfl (lv_at hl 3 rfl) ?_
  refine l_call (as := []) (ci := 11) (o := 0) (rest := [.int r]) (n := 0) hX0 (l_met (mid := 236) hX0.2.2.2.2.2.2.2 rfl rfl (tok_1 tvd_11) ht10.1 rfl e2) tc_11 w_8_132 w_8_135 w_8_133 w_8_134 w_1_13 rfl (by decide +kernel) rfl (by decide +kernel) ⟨Nat.le_of_ble_eq_true rfl, Nat.le_of_ble_eq_true rfl⟩ hl.1 (Nat.le_of_ble_eq_true rfl) (by decide +kernel : decode cL_law 815 = .ok (.invokevirtual 111, 3)) ⟨by show cells ≤ 601024; omega, by show slots ≤ 7293033; omega⟩ hV (fun H locs ht11 hV => ?_)
  refine (?_ : W p l e room_1 s m #[Value.ref b] below meth c H locs cells slots Q (F0 m 818 ls [.int r, .int r]))
  refine lv_icmp_eq (tgt := 1302) hx hb (by decide +kernel : decode cL_law 818 = .ok (.if_icmp .eq 484, 3)) (by decide) (fun _ => ?_) (fun h => absurd rfl h)
  exact W.widen (k := cells + 1) (n := slots + 6) (by omega) (by omega) (nx G2 f H locs ls hG2 ht11.1 hV hl)
