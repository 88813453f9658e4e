/-! THE LAW: its cases, on -/
set_option maxRecDepth 100000 in
theorem law_gather {E : tE} {A : Nat → Prop} {p : Program} {l : Launch} {e : Env} {s : State} {m : MethodId} {below : List Frame} {meth : Method} {c : Code} {b L out i cells slots : Nat} {xs : Nat → Int32} {Q : State → Prop} {G : tH} {f : Nat → Int64} {H : Heap} {locs : List Loc} {ls : Array Slot} (hX : lwX E A p l s m c b L xs) (hi : i + 7 ≤ L) (hL : L ≤ 3584) (hG : INV G) (ht : tokG G) (hV : nV E A s (tWd E G ++ [(out, lgC E f)]) H locs) (hl : lv_has ls 7 (lwL E b out i)) (hc : cells + 1 ≤ 601024) (hs : slots + 6 ≤ 7293033) (nx : lwN E A p l e s m below meth c b out i Q (cells + 1) (slots + 6)) : W p l e room_1 s m #[Value.ref b] below meth c H locs cells slots Q (F0 m 823 ls []) := by
  obtain ⟨hX0, hAl, hXs, hbl, htr, hTh, hs1, hs2⟩ := hX
  have hx := hX0.1
  have hb := hX0.2.1
  have hbA : ¬ A b := hAl b hbl
  obtain ⟨r, G1, G2, e1, e2, hG2⟩ := p_gather (xs (i + 1)) (xs (i + 2)) (xs (i + 3)) (xs (i + 4)) hG
  refine lv_aload_n hx hb (by decide +kernel : decode cL_law 823 = .ok (.aload_n 1, 1)) rfl (lv_at hl 2 rfl) ?_
  refine lv_aload_n hx hb (by decide +kernel : decode cL_law 824 = .ok (.aload_n 0, 1)) rfl (lv_at hl 1 rfl) ?_
  refine lv_iload hx hb (by decide +kernel : decode cL_law 825 = .ok (.iload 4, 2)) (lv_at hl 0 rfl) ?_
  refine lv_iconst (v := nI 1) hx hb (by decide +kernel : decode cL_law 827 = .ok (.iconst 1, 1)) (by decide +kernel) ?_
  refine lv_iadd hx hb (by decide +kernel : decode cL_law 828 = .ok (.iadd, 1)) ?_
  rw [nI_add]
  refine va_sld hx hb hXs hbl hbA hV.2.2 (i := nI (i + 1)) (vp_in_nI (by omega) (by omega)) (by decide +kernel : decode cL_law 829 = .ok (.iaload, 1)) ?_
  rw [nI_clamp (n := i + 1) (by omega)]
  refine lv_aload_n hx hb (by decide +kernel : decode cL_law 830 = .ok (.aload_n 0, 1)) rfl (lv_at hl 1 rfl) ?_
  refine lv_iload hx hb (by decide +kernel : decode cL_law 831 = .ok (.iload 4, 2)) (lv_at hl 0 rfl) ?_
  refine lv_iconst (v := nI 2) hx hb (by decide +kernel : decode cL_law 833 = .ok (.iconst 2, 1)) (by decide +kernel) ?_
  refine lv_iadd hx hb (by decide +kernel : decode cL_law 834 = .ok (.iadd, 1)) ?_
  rw [nI_add]
  refine va_sld hx hb hXs hbl hbA hV.2.2 (i := nI (i + 2)) (vp_in_nI (by omega) (by omega)) (by decide +kernel : decode cL_law 835 = .ok (.iaload, 1)) ?_
  rw [nI_clamp (n := i + 2) (by omega)]
  refine lv_aload_n hx hb (by decide +kernel : decode cL_law 836 = .ok (.aload_n 0, 1)) rfl (lv_at hl 1 rfl) ?_
  refine lv_iload hx hb (by decide +kernel : decode cL_law 837 = .ok (.iload 4, 2)) (lv_at hl 0 rfl) ?_
  refine lv_iconst (v := nI 3) hx hb (by decide +kernel : decode cL_law 839 = .ok (.iconst 3, 1)) (by decide +kernel) ?_
  refine lv_iadd hx hb (by decide +kernel : decode cL_law 840 = .ok (.iadd, 1)) ?_
  rw [nI_add]
  refine va_sld hx hb hXs hbl hbA hV.2.2 (i := nI (i + 3)) (vp_in_nI (by omega) (by omega)) (by decide +kernel : decode cL_law 841 = .ok (.iaload, 1)) ?_
  rw [nI_clamp (n := i + 3) (by omega)]
  refine lv_aload_n hx hb (by decide +kernel : decode cL_law 842 = .ok (.aload_n 0, 1)) rfl (lv_at hl 1 rfl) ?_
  refine lv_iload hx hb (by decide +kernel : decode cL_law 843 = .ok (.iload 4, 2)) (lv_at hl 0 rfl) ?_
  refine lv_iconst (v := nI 4) hx hb (by decide +kernel : decode cL_law 845 = .ok (.iconst 4, 1)) (by decide +kernel) ?_
  refine lv_iadd hx hb (by decide +kernel : decode cL_law 846 = .ok (.iadd, 1)) ?_
  rw [nI_add]
  refine va_sld hx hb hXs hbl hbA hV.2.2 (i := nI (i + 4)) (vp_in_nI (by omega) (by omega)) (by decide +kernel : decode cL_law 847 = .ok (.iaload, 1)) ?_
  rw [nI_clamp (n := i + 4) (by omega)]
  refine l_call (as := [vI (xs (i + 1)), vI (xs (i + 2)), vI (xs (i + 3)), vI (xs (i + 4))]) (ci := 10) (o := 0) (rest := []) (n := 4) hX0 (l_met (mid := 120) hX0.2.2.2.2.2.2.2 rfl rfl (tok_i (tok_i (tok_i (tok_i (tok_1 tvd_10))))) ht rfl e1) tc_10 w_5_56 w_5_59 w_5_57 w_5_58 w_1_1 rfl (by decide +kernel) rfl (by decide +kernel) ⟨Nat.le_of_ble_eq_true rfl, Nat.le_of_ble_eq_true rfl⟩ hl.1 (Nat.le_of_ble_eq_true rfl) (by decide +kernel : decode cL_law 848 = .ok (.invokevirtual 112, 3)) ⟨by show cells ≤ 601024; omega, by show slots ≤ 7293033; omega⟩ hV (fun H locs ht10 hV => ?_)
  refine (?_ : W p l e room_1 s m #[Value.ref b] below meth c H locs cells slots Q (F0 m 851 ls [.int r]))
  refine lv_aload_n hx hb (by decide +kernel : decode cL_law 851 = .ok (.aload_n 2, 1)) rfl (lv_at hl 3 rfl) ?_
  refine lv_aload_n hx hb (by decide +kernel : decode cL_law 852 = .ok (.aload_n 0, 1)) rfl (lv_at hl 1 rfl) ?_
  refine lv_iload hx hb (by decide +kernel : decode cL_law 853 = .ok (.iload 4, 2)) (lv_at hl 0 rfl) ?_
  refine lv_iconst (v := nI 1) hx hb (by decide +kernel : decode cL_law 855 = .ok (.iconst 1, 1)) (by decide +kernel) ?_
  refine lv_iadd hx hb (by decide +kernel : decode cL_law 856 = .ok (.iadd, 1)) ?_
  rw [nI_add]
  refine va_sld hx hb hXs hbl hbA hV.2.2 (i := nI (i + 1)) (vp_in_nI (by omega) (by omega)) (by decide +kernel : decode cL_law 857 = .ok (.iaload, 1)) ?_
  rw [nI_clamp (n := i + 1) (by omega)]
  refine lv_aload_n hx hb (by decide +kernel : decode cL_law 858 = .ok (.aload_n 0, 1)) rfl (lv_at hl 1 rfl) ?_
  refine lv_iload hx hb (by decide +kernel : decode cL_law 859 = .ok (.iload 4, 2)) (lv_at hl 0 rfl) ?_
  refine lv_iconst (v := nI 2) hx hb (by decide +kernel : decode cL_law 861 = .ok (.iconst 2, 1)) (by decide +kernel) ?_
  refine lv_iadd hx hb (by decide +kernel : decode cL_law 862 = .ok (.iadd, 1)) ?_
  rw [nI_add]
  refine va_sld hx hb hXs hbl hbA hV.2.2 (i := nI (i + 2)) (vp_in_nI (by omega) (by omega)) (by decide +kernel : decode cL_law 863 = .ok (.iaload, 1)) ?_
  rw [nI_clamp (n := i + 2) (by omega)]
  refine lv_aload_n hx hb (by decide +kernel : decode cL_law 864 = .ok (.aload_n 0, 1)) rfl (lv_at hl 1 rfl) ?_
  refine lv_iload hx hb (by decide +kernel : decode cL_law 865 = .ok (.iload 4, 2)) (lv_at hl 0 rfl) ?_
  refine lv_iconst (v := nI 3) hx hb (by decide +kernel : decode cL_law 867 = .ok (.iconst 3, 1)) (by decide +kernel) ?_
  refine lv_iadd hx hb (by decide +kernel : decode cL_law 868 = .ok (.iadd, 1)) ?_
  rw [nI_add]
  refine va_sld hx hb hXs hbl hbA hV.2.2 (i := nI (i + 3)) (vp_in_nI (by omega) (by omega)) (by decide +kernel : decode cL_law 869 = .ok (.iaload, 1)) ?_
  rw [nI_clamp (n := i + 3) (by omega)]
  refine lv_aload_n hx hb (by decide +kernel : decode cL_law 870 = .ok (.aload_n 0, 1)) rfl (lv_at hl 1 rfl) ?_
  refine lv_iload hx hb (by decide +kernel : decode cL_law 871 = .ok (.iload 4, 2)) (lv_at hl 0 rfl) ?_
  refine lv_iconst (v := nI 4) hx hb (by decide +kernel : decode cL_law 873 = .ok (.iconst 4, 1)) (by decide +kernel) ?_
  refine lv_iadd hx hb (by decide +kernel : decode cL_law 874 = .ok (.iadd, 1)) ?_
  rw [nI_add]
  refine va_sld hx hb hXs hbl hbA hV.2.2 (i := nI (i + 4)) (vp_in_nI (by omega) (by omega)) (by decide +kernel : decode cL_law 875 = .ok (.iaload, 1)) ?_
  rw [nI_clamp (n := i + 4) (by omega)]
  refine l_call (as := [vI (xs (i + 1)), vI (xs (i + 2)), vI (xs (i + 3)), vI (xs (i + 4))]) (ci := 11) (o := 0) (rest := [.int r]) (n := 4) hX0 (l_met (mid := 238) hX0.2.2.2.2.2.2.2 rfl rfl (tok_i (tok_i (tok_i (tok_i (tok_1 tvd_11))))) ht10.1 rfl e2) tc_11 w_8_136 w_8_139 w_8_137 w_8_138 w_1_13 rfl (by decide +kernel) rfl (by decide +kernel) ⟨Nat.le_of_ble_eq_true rfl, Nat.le_of_ble_eq_true rfl⟩ hl.1 (Nat.le_of_ble_eq_true rfl) (by decide +kernel : decode cL_law 876 = .ok (.invokevirtual 116, 3)) ⟨by show cells ≤ 601024; omega, by show slots ≤ 7293033; omega⟩ hV (fun H locs ht11 hV => ?_)
  refine (?_ : W p l e room_1 s m #[Value.ref b] below meth c H locs cells slots Q (F0 m 879 ls [.int r, .int r]))
  refine lv_icmp_eq (tgt := 1302) hx hb (by decide +kernel : decode cL_law 879 = .ok (.if_icmp .eq 423, 3)) (by decide) (fun _ => ?_) (fun h => absurd rfl h)
  exact W.widen (k := cells + 1) (n := slots + 6) (by omega) (by omega) (nx G2 f H locs ls hG2 ht11.1 hV hl)
set_option maxRecDepth 100000 in
theorem law_rate {E : tE} {A : Nat → Prop} {p : Program} {l : Launch} {e : Env} {s : State} {m : MethodId} {below : List Frame} {meth : Method} {c : Code} {b L out i cells slots : Nat} {xs : Nat → Int32} {Q : State → Prop} {G : tH} {f : Nat → Int64} {H : Heap} {locs : List Loc} {ls : Array Slot} (hX : lwX E A p l s m c b L xs) (hi : i + 7 ≤ L) (hL : L ≤ 3584) (hG : INV G) (ht : tokG G) (hV : nV E A s (tWd E G ++ [(out, lgC E f)]) H locs) (hl : lv_has ls 7 (lwL E b out i)) (hc : cells + 1 ≤ 601024) (hs : slots + 6 ≤ 7293033) (nx : lwN E A p l e s m below meth c b out i Q (cells + 1) (slots + 6)) : W p l e room_1 s m #[Value.ref b] below meth c H locs cells slots Q (F0 m 884 ls []) := by
  obtain ⟨hX0, hAl, hXs, hbl, htr, hTh, hs1, hs2⟩ := hX
  have hx := hX0.1
  have hb := hX0.2.1
  have hbA : ¬ A b := hAl b hbl
  obtain ⟨r, G1, G2, e1, e2, hG2⟩ := p_rate (xs (i + 1)) (xs (i + 2)) (xs (i + 3)) hG
  refine lv_aload_n hx hb (by decide +kernel : decode cL_law 884 = .ok (.aload_n 1, 1)) rfl (lv_at hl 2 rfl) ?_
  refine lv_aload_n hx hb (by decide +kernel : decode cL_law 885 = .ok (.aload_n 0, 1)) rfl (lv_at hl 1 rfl) ?_
  refine lv_iload hx hb (by decide +kernel : decode cL_law 886 = .ok (.iload 4, 2)) (lv_at hl 0 rfl) ?_
  refine lv_iconst (v := nI 1) hx hb (by decide +kernel : decode cL_law 888 = .ok (.iconst 1, 1)) (by decide +kernel) ?_
  refine lv_iadd hx hb (by decide +kernel : decode cL_law 889 = .ok (.iadd, 1)) ?_
  rw [nI_add]
  refine va_sld hx hb hXs hbl hbA hV.2.2 (i := nI (i + 1)) (vp_in_nI (by omega) (by omega)) (by decide +kernel : decode cL_law 890 = .ok (.iaload, 1)) ?_
  rw [nI_clamp (n := i + 1) (by omega)]
  refine lv_aload_n hx hb (by decide +kernel : decode cL_law 891 = .ok (.aload_n 0, 1)) rfl (lv_at hl 1 rfl) ?_
  refine lv_iload hx hb (by decide +kernel : decode cL_law 892 = .ok (.iload 4, 2)) (lv_at hl 0 rfl) ?_
  refine lv_iconst (v := nI 2) hx hb (by decide +kernel : decode cL_law 894 = .ok (.iconst 2, 1)) (by decide +kernel) ?_
  refine lv_iadd hx hb (by decide +kernel : decode cL_law 895 = .ok (.iadd, 1)) ?_
  rw [nI_add]
  refine va_sld hx hb hXs hbl hbA hV.2.2 (i := nI (i + 2)) (vp_in_nI (by omega) (by omega)) (by decide +kernel : decode cL_law 896 = .ok (.iaload, 1)) ?_
  rw [nI_clamp (n := i + 2) (by omega)]
  refine lv_aload_n hx hb (by decide +kernel : decode cL_law 897 = .ok (.aload_n 0, 1)) rfl (lv_at hl 1 rfl) ?_
  refine lv_iload hx hb (by decide +kernel : decode cL_law 898 = .ok (.iload 4, 2)) (lv_at hl 0 rfl) ?_
  refine lv_iconst (v := nI 3) hx hb (by decide +kernel : decode cL_law 900 = .ok (.iconst 3, 1)) (by decide +kernel) ?_
  refine lv_iadd hx hb (by decide +kernel : decode cL_law 901 = .ok (.iadd, 1)) ?_
  rw [nI_add]
  refine va_sld hx hb hXs hbl hbA hV.2.2 (i := nI (i + 3)) (vp_in_nI (by omega) (by omega)) (by decide +kernel : decode cL_law 902 = .ok (.iaload, 1)) ?_
  rw [nI_clamp (n := i + 3) (by omega)]
  refine l_call (as := [vI (xs (i + 1)), vI (xs (i + 2)), vI (xs (i + 3))]) (ci := 10) (o := 0) (rest := []) (n := 3) hX0 (l_met (mid := 121) hX0.2.2.2.2.2.2.2 rfl rfl (tok_i (tok_i (tok_i (tok_1 tvd_10)))) ht rfl e1) tc_10 w_5_83 w_5_86 w_5_84 w_5_85 w_1_1 rfl (by decide +kernel) rfl (by decide +kernel) ⟨Nat.le_of_ble_eq_true rfl, Nat.le_of_ble_eq_true rfl⟩ hl.1 (Nat.le_of_ble_eq_true rfl) (by decide +kernel : decode cL_law 903 = .ok (.invokevirtual 117, 3)) ⟨by show cells ≤ 601024; omega, by show slots ≤ 7293033; omega⟩ hV (fun H locs ht10 hV => ?_)
  refine (?_ : W p l e room_1 s m #[Value.ref b] below meth c H locs cells slots Q (F0 m 906 ls [.int r]))
  refine lv_aload_n hx hb (by decide +kernel : decode cL_law 906 = .ok (.aload_n 2, 1)) rfl (lv_at hl 3 rfl) ?_
  refine lv_aload_n hx hb (by decide +kernel : decode cL_law 907 = .ok (.aload_n 0, 1)) rfl (lv_at hl 1 rfl) ?_
  refine lv_iload hx hb (by decide +kernel : decode cL_law 908 = .ok (.iload 4, 2)) (lv_at hl 0 rfl) ?_
  refine lv_iconst (v := nI 1) hx hb (by decide +kernel : decode cL_law 910 = .ok (.iconst 1, 1)) (by decide +kernel) ?_
  refine lv_iadd hx hb (by decide +kernel : decode cL_law 911 = .ok (.iadd, 1)) ?_
  rw [nI_add]
  refine va_sld hx hb hXs hbl hbA hV.2.2 (i := nI (i + 1)) (vp_in_nI (by omega) (by omega)) (by decide +kernel : decode cL_law 912 = .ok (.iaload, 1)) ?_
  rw [nI_clamp (n := i + 1) (by omega)]
  refine lv_aload_n hx hb (by decide +kernel : decode cL_law 913 = .ok (.aload_n 0, 1)) rfl (lv_at hl 1 rfl) ?_
  refine lv_iload hx hb (by decide +kernel : decode cL_law 914 = .ok (.iload 4, 2)) (lv_at hl 0 rfl) ?_
  refine lv_iconst (v := nI 2) hx hb (by decide +kernel : decode cL_law 916 = .ok (.iconst 2, 1)) (by decide +kernel) ?_
  refine lv_iadd hx hb (by decide +kernel : decode cL_law 917 = .ok (.iadd, 1)) ?_
  rw [nI_add]
  refine va_sld hx hb hXs hbl hbA hV.2.2 (i := nI (i + 2)) (vp_in_nI (by omega) (by omega)) (by decide +kernel : decode cL_law 918 = .ok (.iaload, 1)) ?_
  rw [nI_clamp (n := i + 2) (by omega)]
  refine lv_aload_n hx hb (by decide +kernel : decode cL_law 919 = .ok (.aload_n 0, 1)) rfl (lv_at hl 1 rfl) ?_
  refine lv_iload hx hb (by decide +kernel : decode cL_law 920 = .ok (.iload 4, 2)) (lv_at hl 0 rfl) ?_
  refine lv_iconst (v := nI 3) hx hb (by decide +kernel : decode cL_law 922 = .ok (.iconst 3, 1)) (by decide +kernel) ?_
  refine lv_iadd hx hb (by decide +kernel : decode cL_law 923 = .ok (.iadd, 1)) ?_
  rw [nI_add]
  refine va_sld hx hb hXs hbl hbA hV.2.2 (i := nI (i + 3)) (vp_in_nI (by omega) (by omega)) (by decide +kernel : decode cL_law 924 = .ok (.iaload, 1)) ?_
  rw [nI_clamp (n := i + 3) (by omega)]
  refine l_call (as := [vI (xs (i + 1)), vI (xs (i + 2)), vI (xs (i + 3))]) (ci := 11) (o := 0) (rest := [.int r]) (n := 3) hX0 (l_met (mid := 240) hX0.2.2.2.2.2.2.2 rfl rfl (tok_i (tok_i (tok_i (tok_1 tvd_11)))) ht10.1 rfl e2) tc_11 w_8_144 w_8_147 w_8_145 w_8_146 w_1_13 rfl (by decide +kernel) rfl (by decide +kernel) ⟨Nat.le_of_ble_eq_true rfl, Nat.le_of_ble_eq_true rfl⟩ hl.1 (Nat.le_of_ble_eq_true rfl) (by decide +kernel : decode cL_law 925 = .ok (.invokevirtual 120, 3)) ⟨by show cells ≤ 601024; omega, by show slots ≤ 7293033; omega⟩ hV (fun H locs ht11 hV => ?_)
  refine (?_ : W p l e room_1 s m #[Value.ref b] below meth c H locs cells slots Q (F0 m 928 ls [.int r, .int r]))
  refine lv_icmp_eq (tgt := 1302) hx hb (by decide +kernel : decode cL_law 928 = .ok (.if_icmp .eq 374, 3)) (by decide) (fun _ => ?_) (fun h => absurd rfl h)
  exact W.widen (k := cells + 1) (n := slots + 6) (by omega) (by omega) (nx G2 f H locs ls hG2 ht11.1 hV hl)
set_option maxRecDepth 100000 in
theorem law_free {E : tE} {A : Nat → Prop} {p : Program} {l : Launch} {e : Env} {s : State} {m : MethodId} {below : List Frame} {meth : Method} {c : Code} {b L out i cells slots : Nat} {xs : Nat → Int32} {Q : State → Prop} {G : tH} {f : Nat → Int64} {H : Heap} {locs : List Loc} {ls : Array Slot} (hX : lwX E A p l s m c b L xs) (hi : i + 7 ≤ L) (hL : L ≤ 3584) (hG : INV G) (ht : tokG G) (hV : nV E A s (tWd E G ++ [(out, lgC E f)]) H locs) (hl : lv_has ls 7 (lwL E b out i)) (hc : cells + 1 ≤ 601024) (hs : slots + 6 ≤ 7293033) (nx : lwN E A p l e s m below meth c b out i Q (cells + 1) (slots + 6)) : W p l e room_1 s m #[Value.ref b] below meth c H locs cells slots Q (F0 m 933 ls []) := by
  obtain ⟨hX0, hAl, hXs, hbl, htr, hTh, hs1, hs2⟩ := hX
  have hx := hX0.1
  have hb := hX0.2.1
  have hbA : ¬ A b := hAl b hbl
  obtain ⟨r, G1, G2, e1, e2, hG2⟩ := p_free (xs (i + 1)) hG
  refine lv_aload_n hx hb (by decide +kernel : decode cL_law 933 = .ok (.aload_n 1, 1)) rfl (lv_at hl 2 rfl) ?_
  refine lv_aload_n hx hb (by decide +kernel : decode cL_law 934 = .ok (.aload_n 0, 1)) rfl (lv_at hl 1 rfl) ?_
  refine lv_iload hx hb (by decide +kernel : decode cL_law 935 = .ok (.iload 4, 2)) (lv_at hl 0 rfl) ?_
  refine lv_iconst (v := nI 1) hx hb (by decide +kernel : decode cL_law 937 = .ok (.iconst 1, 1)) (by decide +kernel) ?_
  refine lv_iadd hx hb (by decide +kernel : decode cL_law 938 = .ok (.iadd, 1)) ?_
  rw [nI_add]
  refine va_sld hx hb hXs hbl hbA hV.2.2 (i := nI (i + 1)) (vp_in_nI (by omega) (by omega)) (by decide +kernel : decode cL_law 939 = .ok (.iaload, 1)) ?_
  rw [nI_clamp (n := i + 1) (by omega)]
  refine l_call (as := [vI (xs (i + 1))]) (ci := 10) (o := 0) (rest := []) (n := 1) hX0 (l_met (mid := 122) hX0.2.2.2.2.2.2.2 rfl rfl (tok_i (tok_1 tvd_10)) ht rfl e1) tc_10 w_5_95 w_5_98 w_5_96 w_5_97 w_1_1 rfl (by decide +kernel) rfl (by decide +kernel) ⟨Nat.le_of_ble_eq_true rfl, Nat.le_of_ble_eq_true rfl⟩ hl.1 (Nat.le_of_ble_eq_true rfl) (by decide +kernel : decode cL_law 940 = .ok (.invokevirtual 121, 3)) ⟨by show cells ≤ 601024; omega, by show slots ≤ 7293033; omega⟩ hV (fun H locs ht10 hV => ?_)
  refine (?_ : W p l e room_1 s m #[Value.ref b] below meth c H locs cells slots Q (F0 m 943 ls [.int r]))
  refine lv_aload_n hx hb (by decide +kernel : decode cL_law 943 = .ok (.aload_n 2, 1)) rfl (lv_at hl 3 rfl) ?_
  refine lv_aload_n hx hb (by decide +kernel : decode cL_law 944 = .ok (.aload_n 0, 1)) rfl (lv_at hl 1 rfl) ?_
  refine lv_iload hx hb (by decide +kernel : decode cL_law 945 = .ok (.iload 4, 2)) (lv_at hl 0 rfl) ?_
  refine lv_iconst (v := nI 1) hx hb (by decide +kernel : decode cL_law 947 = .ok (.iconst 1, 1)) (by decide +kernel) ?_
  refine lv_iadd hx hb (by decide +kernel : decode cL_law 948 = .ok (.iadd, 1)) ?_
  rw [nI_add]
  refine va_sld hx hb hXs hbl hbA hV.2.2 (i := nI (i + 1)) (vp_in_nI (by omega) (by omega)) (by decide +kernel : decode cL_law 949 = .ok (.iaload, 1)) ?_
  rw [nI_clamp (n := i + 1) (by omega)]
  refine l_call (as := [vI (xs (i + 1))]) (ci := 11) (o := 0) (rest := [.int r]) (n := 1) hX0 (l_met (mid := 242) hX0.2.2.2.2.2.2.2 rfl rfl (tok_i (tok_1 tvd_11)) ht10.1 rfl e2) tc_11 w_8_152 w_8_155 w_8_153 w_8_154 w_1_13 rfl (by decide +kernel) rfl (by decide +kernel) ⟨Nat.le_of_ble_eq_true rfl, Nat.le_of_ble_eq_true rfl⟩ hl.1 (Nat.le_of_ble_eq_true rfl) (by decide +kernel : decode cL_law 950 = .ok (.invokevirtual 124, 3)) ⟨by show cells ≤ 601024; omega, by show slots ≤ 7293033; omega⟩ hV (fun H locs ht11 hV => ?_)
  refine (?_ : W p l e room_1 s m #[Value.ref b] below meth c H locs cells slots Q (F0 m 953 ls [.int r, .int r]))
  refine lv_icmp_eq (tgt := 1302) hx hb (by decide +kernel : decode cL_law 953 = .ok (.if_icmp .eq 349, 3)) (by decide) (fun _ => ?_) (fun h => absurd rfl h)
  exact W.widen (k := cells + 1) (n := slots + 6) (by omega) (by omega) (nx G2 f H locs ls hG2 ht11.1 hV hl)
set_option maxRecDepth 100000 in
theorem law_agree {E : tE} {A : Nat → Prop} {p : Program} {l : Launch} {e : Env} {s : State} {m : MethodId} {below : List Frame} {meth : Method} {c : Code} {b L out i cells slots : Nat} {xs : Nat → Int32} {Q : State → Prop} {G : tH} {f : Nat → Int64} {H : Heap} {locs : List Loc} {ls : Array Slot} (hX : lwX E A p l s m c b L xs) (hi : i + 7 ≤ L) (hL : L ≤ 3584) (hG : INV G) (ht : tokG G) (hV : nV E A s (tWd E G ++ [(out, lgC E f)]) H locs) (hl : lv_has ls 7 (lwL E b out i)) (hc : cells + 1 ≤ 601024) (hs : slots + 6 ≤ 7293033) (nx : lwN E A p l e s m below meth c b out i Q (cells + 1) (slots + 6)) : W p l e room_1 s m #[Value.ref b] below meth c H locs cells slots Q (F0 m 958 ls []) := by
  obtain ⟨hX0, hAl, hXs, hbl, htr, hTh, hs1, hs2⟩ := hX
  have hx := hX0.1
  have hb := hX0.2.1
  have hbA : ¬ A b := hAl b hbl
  obtain ⟨r, G1, G2, e1, e2, hG2⟩ := p_agree (xs (i + 1)) (xs (i + 2)) hG
  refine lv_aload_n hx hb (by decide +kernel : decode cL_law 958 = .ok (.aload_n 1, 1)) rfl (lv_at hl 2 rfl) ?_
  refine lv_aload_n hx hb (by decide +kernel : decode cL_law 959 = .ok (.aload_n 0, 1)) rfl (lv_at hl 1 rfl) ?_
  refine lv_iload hx hb (by decide +kernel : decode cL_law 960 = .ok (.iload 4, 2)) (lv_at hl 0 rfl) ?_
  refine lv_iconst (v := nI 1) hx hb (by decide +kernel : decode cL_law 962 = .ok (.iconst 1, 1)) (by decide +kernel) ?_
  refine lv_iadd hx hb (by decide +kernel : decode cL_law 963 = .ok (.iadd, 1)) ?_
  rw [nI_add]
  refine va_sld hx hb hXs hbl hbA hV.2.2 (i := nI (i + 1)) (vp_in_nI (by omega) (by omega)) (by decide +kernel : decode cL_law 964 = .ok (.iaload, 1)) ?_
  rw [nI_clamp (n := i + 1) (by omega)]
  refine lv_aload_n hx hb (by decide +kernel : decode cL_law 965 = .ok (.aload_n 0, 1)) rfl (lv_at hl 1 rfl) ?_
  refine lv_iload hx hb (by decide +kernel : decode cL_law 966 = .ok (.iload 4, 2)) (lv_at hl 0 rfl) ?_
  refine lv_iconst (v := nI 2) hx hb (by decide +kernel : decode cL_law 968 = .ok (.iconst 2, 1)) (by decide +kernel) ?_
  refine lv_iadd hx hb (by decide +kernel : decode cL_law 969 = .ok (.iadd, 1)) ?_
  rw [nI_add]
  refine va_sld hx hb hXs hbl hbA hV.2.2 (i := nI (i + 2)) (vp_in_nI (by omega) (by omega)) (by decide +kernel : decode cL_law 970 = .ok (.iaload, 1)) ?_
  rw [nI_clamp (n := i + 2) (by omega)]
  refine l_call (as := [vI (xs (i + 1)), vI (xs (i + 2))]) (ci := 10) (o := 0) (rest := []) (n := 2) hX0 (l_met (mid := 123) hX0.2.2.2.2.2.2.2 rfl rfl (tok_i (tok_i (tok_1 tvd_10))) ht rfl e1) tc_10 w_5_108 w_5_111 w_5_109 w_5_110 w_1_1 rfl (by decide +kernel) rfl (by decide +kernel) ⟨Nat.le_of_ble_eq_true rfl, Nat.le_of_ble_eq_true rfl⟩ hl.1 (Nat.le_of_ble_eq_true rfl) (by decide +kernel : decode cL_law 971 = .ok (.invokevirtual 125, 3)) ⟨by show cells ≤ 601024; omega, by show slots ≤ 7293033; omega⟩ hV (fun H locs ht10 hV => ?_)
  refine (?_ : W p l e room_1 s m #[Value.ref b] below meth c H locs cells slots Q (F0 m 974 ls [.int r]))
  refine lv_aload_n hx hb (by decide +kernel : decode cL_law 974 = .ok (.aload_n 2, 1)) rfl (lv_at hl 3 rfl) ?_
  refine lv_aload_n hx hb (by decide +kernel : decode cL_law 975 = .ok (.aload_n 0, 1)) rfl (lv_at hl 1 rfl) ?_
  refine lv_iload hx hb (by decide +kernel : decode cL_law 976 = .ok (.iload 4, 2)) (lv_at hl 0 rfl) ?_
  refine lv_iconst (v := nI 1) hx hb (by decide +kernel : decode cL_law 978 = .ok (.iconst 1, 1)) (by decide +kernel) ?_
  refine lv_iadd hx hb (by decide +kernel : decode cL_law 979 = .ok (.iadd, 1)) ?_
  rw [nI_add]
  refine va_sld hx hb hXs hbl hbA hV.2.2 (i := nI (i + 1)) (vp_in_nI (by omega) (by omega)) (by decide +kernel : decode cL_law 980 = .ok (.iaload, 1)) ?_
  rw [nI_clamp (n := i + 1) (by omega)]
  refine lv_aload_n hx hb (by decide +kernel : decode cL_law 981 = .ok (.aload_n 0, 1)) rfl (lv_at hl 1 rfl) ?_
  refine lv_iload hx hb (by decide +kernel : decode cL_law 982 = .ok (.iload 4, 2)) (lv_at hl 0 rfl) ?_
  refine lv_iconst (v := nI 2) hx hb (by decide +kernel : decode cL_law 984 = .ok (.iconst 2, 1)) (by decide +kernel) ?_
  refine lv_iadd hx hb (by decide +kernel : decode cL_law 985 = .ok (.iadd, 1)) ?_
  rw [nI_add]
  refine va_sld hx hb hXs hbl hbA hV.2.2 (i := nI (i + 2)) (vp_in_nI (by omega) (by omega)) (by decide +kernel : decode cL_law 986 = .ok (.iaload, 1)) ?_
  rw [nI_clamp (n := i + 2) (by omega)]
  refine l_call (as := [vI (xs (i + 1)), vI (xs (i + 2))]) (ci := 11) (o := 0) (rest := [.int r]) (n := 2) hX0 (l_met (mid := 243) hX0.2.2.2.2.2.2.2 rfl rfl (tok_i (tok_i (tok_1 tvd_11))) ht10.1 rfl e2) tc_11 w_8_160 w_8_163 w_8_161 w_8_162 w_1_13 rfl (by decide +kernel) rfl (by decide +kernel) ⟨Nat.le_of_ble_eq_true rfl, Nat.le_of_ble_eq_true rfl⟩ hl.1 (Nat.le_of_ble_eq_true rfl) (by decide +kernel : decode cL_law 987 = .ok (.invokevirtual 128, 3)) ⟨by show cells ≤ 601024; omega, by show slots ≤ 7293033; omega⟩ hV (fun H locs ht11 hV => ?_)
  refine (?_ : W p l e room_1 s m #[Value.ref b] below meth c H locs cells slots Q (F0 m 990 ls [.int r, .int r]))
  refine lv_icmp_eq (tgt := 1302) hx hb (by decide +kernel : decode cL_law 990 = .ok (.if_icmp .eq 312, 3)) (by decide) (fun _ => ?_) (fun h => absurd rfl h)
  exact W.widen (k := cells + 1) (n := slots + 6) (by omega) (by omega) (nx G2 f H locs ls hG2 ht11.1 hV hl)
set_option maxRecDepth 100000 in
theorem law_tale {E : tE} {A : Nat → Prop} {p : Program} {l : Launch} {e : Env} {s : State} {m : MethodId} {below : List Frame} {meth : Method} {c : Code} {b L out i cells slots : Nat} {xs : Nat → Int32} {Q : State → Prop} {G : tH} {f : Nat → Int64} {H : Heap} {locs : List Loc} {ls : Array Slot} (hX : lwX E A p l s m c b L xs) (hi : i + 7 ≤ L) (hL : L ≤ 3584) (hG : INV G) (ht : tokG G) (hV : nV E A s (tWd E G ++ [(out, lgC E f)]) H locs) (hl : lv_has ls 7 (lwL E b out i)) (hc : cells + 1 ≤ 601024) (hs : slots + 6 ≤ 7293033) (nx : lwN E A p l e s m below meth c b out i Q (cells + 1) (slots + 6)) : W p l e room_1 s m #[Value.ref b] below meth c H locs cells slots Q (F0 m 995 ls []) := by
  obtain ⟨hX0, hAl, hXs, hbl, htr, hTh, hs1, hs2⟩ := hX
  have hx := hX0.1
  have hb := hX0.2.1
  have hbA : ¬ A b := hAl b hbl
  obtain ⟨r, G1, G2, e1, e2, hG2⟩ := p_tale (xs (i + 1)) (xs (i + 2)) hG
  refine lv_aload_n hx hb (by decide +kernel : decode cL_law 995 = .ok (.aload_n 1, 1)) rfl (lv_at hl 2 rfl) ?_
  refine lv_aload_n hx hb (by decide +kernel : decode cL_law 996 = .ok (.aload_n 0, 1)) rfl (lv_at hl 1 rfl) ?_
  refine lv_iload hx hb (by decide +kernel : decode cL_law 997 = .ok (.iload 4, 2)) (lv_at hl 0 rfl) ?_
  refine lv_iconst (v := nI 1) hx hb (by decide +kernel : decode cL_law 999 = .ok (.iconst 1, 1)) (by decide +kernel) ?_
  refine lv_iadd hx hb (by decide +kernel : decode cL_law 1000 = .ok (.iadd, 1)) ?_
  rw [nI_add]
  refine va_sld hx hb hXs hbl hbA hV.2.2 (i := nI (i + 1)) (vp_in_nI (by omega) (by omega)) (by decide +kernel : decode cL_law 1001 = .ok (.iaload, 1)) ?_
  rw [nI_clamp (n := i + 1) (by omega)]
  refine lv_aload_n hx hb (by decide +kernel : decode cL_law 1002 = .ok (.aload_n 0, 1)) rfl (lv_at hl 1 rfl) ?_
  refine lv_iload hx hb (by decide +kernel : decode cL_law 1003 = .ok (.iload 4, 2)) (lv_at hl 0 rfl) ?_
  refine lv_iconst (v := nI 2) hx hb (by decide +kernel : decode cL_law 1005 = .ok (.iconst 2, 1)) (by decide +kernel) ?_
  refine lv_iadd hx hb (by decide +kernel : decode cL_law 1006 = .ok (.iadd, 1)) ?_
  rw [nI_add]
  refine va_sld hx hb hXs hbl hbA hV.2.2 (i := nI (i + 2)) (vp_in_nI (by omega) (by omega)) (by decide +kernel : decode cL_law 1007 = .ok (.iaload, 1)) ?_
  rw [nI_clamp (n := i + 2) (by omega)]
  refine l_call (as := [vI (xs (i + 1)), vI (xs (i + 2))]) (ci := 10) (o := 0) (rest := []) (n := 2) hX0 (l_met (mid := 124) hX0.2.2.2.2.2.2.2 rfl rfl (tok_i (tok_i (tok_1 tvd_10))) ht rfl e1) tc_10 w_5_116 w_5_119 w_5_117 w_5_118 w_1_1 rfl (by decide +kernel) rfl (by decide +kernel) ⟨Nat.le_of_ble_eq_true rfl, Nat.le_of_ble_eq_true rfl⟩ hl.1 (Nat.le_of_ble_eq_true rfl) (by decide +kernel : decode cL_law 1008 = .ok (.invokevirtual 129, 3)) ⟨by show cells ≤ 601024; omega, by show slots ≤ 7293033; omega⟩ hV (fun H locs ht10 hV => ?_)
  refine (?_ : W p l e room_1 s m #[Value.ref b] below meth c H locs cells slots Q (F0 m 1011 ls [.int r]))
  refine lv_aload_n hx hb (by decide +kernel : decode cL_law 1011 = .ok (.aload_n 2, 1)) rfl (lv_at hl 3 rfl) ?_
  refine lv_aload_n hx hb (by decide +kernel : decode cL_law 1012 = .ok (.aload_n 0, 1)) rfl (lv_at hl 1 rfl) ?_
  refine lv_iload hx hb (by decide +kernel : decode cL_law 1013 = .ok (.iload 4, 2)) (lv_at hl 0 rfl) ?_
  refine lv_iconst (v := nI 1) hx hb (by decide +kernel : decode cL_law 1015 = .ok (.iconst 1, 1)) (by decide +kernel) ?_
  refine lv_iadd hx hb (by decide +kernel : decode cL_law 1016 = .ok (.iadd, 1)) ?_
  rw [nI_add]
  refine va_sld hx hb hXs hbl hbA hV.2.2 (i := nI (i + 1)) (vp_in_nI (by omega) (by omega)) (by decide +kernel : decode cL_law 1017 = .ok (.iaload, 1)) ?_
  rw [nI_clamp (n := i + 1) (by omega)]
  refine lv_aload_n hx hb (by decide +kernel : decode cL_law 1018 = .ok (.aload_n 0, 1)) rfl (lv_at hl 1 rfl) ?_
  refine lv_iload hx hb (by decide +kernel : decode cL_law 1019 = .ok (.iload 4, 2)) (lv_at hl 0 rfl) ?_
  refine lv_iconst (v := nI 2) hx hb (by decide +kernel : decode cL_law 1021 = .ok (.iconst 2, 1)) (by decide +kernel) ?_
  refine lv_iadd hx hb (by decide +kernel : decode cL_law 1022 = .ok (.iadd, 1)) ?_
  rw [nI_add]
  refine va_sld hx hb hXs hbl hbA hV.2.2 (i := nI (i + 2)) (vp_in_nI (by omega) (by omega)) (by decide +kernel : decode cL_law 1023 = .ok (.iaload, 1)) ?_
  rw [nI_clamp (n := i + 2) (by omega)]
  refine l_call (as := [vI (xs (i + 1)), vI (xs (i + 2))]) (ci := 11) (o := 0) (rest := [.int r]) (n := 2) hX0 (l_met (mid := 244) hX0.2.2.2.2.2.2.2 rfl rfl (tok_i (tok_i (tok_1 tvd_11))) ht10.1 rfl e2) tc_11 w_8_164 w_8_167 w_8_165 w_8_166 w_1_13 rfl (by decide +kernel) rfl (by decide +kernel) ⟨Nat.le_of_ble_eq_true rfl, Nat.le_of_ble_eq_true rfl⟩ hl.1 (Nat.le_of_ble_eq_true rfl) (by decide +kernel : decode cL_law 1024 = .ok (.invokevirtual 132, 3)) ⟨by show cells ≤ 601024; omega, by show slots ≤ 7293033; omega⟩ hV (fun H locs ht11 hV => ?_)
  refine (?_ : W p l e room_1 s m #[Value.ref b] below meth c H locs cells slots Q (F0 m 1027 ls [.int r, .int r]))
  refine lv_icmp_eq (tgt := 1302) hx hb (by decide +kernel : decode cL_law 1027 = .ok (.if_icmp .eq 275, 3)) (by decide) (fun _ => ?_) (fun h => absurd rfl h)
  exact W.widen (k := cells + 1) (n := slots + 6) (by omega) (by omega) (nx G2 f H locs ls hG2 ht11.1 hV hl)
