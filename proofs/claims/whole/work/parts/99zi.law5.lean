/-! THE LAW: its cases, on -/
set_option maxRecDepth 100000 in
theorem law_knew {E : tE} {A : Nat → Prop} {p : Program} {l : Launch} {e : Env} {s : State} {m : MethodId} {below : List Frame} {meth : Method} {c : Code} {b L out i cells slots : Nat} {xs : Nat → Int32} {Q : State → Prop} {G : tH} {f : Nat → Int64} {H : Heap} {locs : List Loc} {ls : Array Slot} (hX : lwX E A p l s m c b L xs) (hi : i + 7 ≤ L) (hL : L ≤ 3584) (hG : INV G) (ht : tokG G) (hV : nV E A s (tWd E G ++ [(out, lgC E f)]) H locs) (hl : lv_has ls 7 (lwL E b out i)) (hc : cells + 1 ≤ 601024) (hs : slots + 6 ≤ 7293033) (nx : lwN E A p l e s m below meth c b out i Q (cells + 1) (slots + 6)) : W p l e room_1 s m #[Value.ref b] below meth c H locs cells slots Q (F0 m 1032 ls []) := by
  obtain ⟨hX0, hAl, hXs, hbl, htr, hTh, hs1, hs2⟩ := hX
  have hx := hX0.1
  have hb := hX0.2.1
  have hbA : ¬ A b := hAl b hbl
  obtain ⟨r, G1, G2, e1, e2, hG2⟩ := p_knew (xs (i + 1)) (xs (i + 2)) hG
  refine lv_aload_n hx hb (by decide +kernel : decode cL_law 1032 = .ok (.aload_n 1, 1)) rfl (lv_at hl 2 rfl) ?_
  refine lv_aload_n hx hb (by decide +kernel : decode cL_law 1033 = .ok (.aload_n 0, 1)) rfl (lv_at hl 1 rfl) ?_
  refine lv_iload hx hb (by decide +kernel : decode cL_law 1034 = .ok (.iload 4, 2)) (lv_at hl 0 rfl) ?_
  refine lv_iconst (v := nI 1) hx hb (by decide +kernel : decode cL_law 1036 = .ok (.iconst 1, 1)) (by decide +kernel) ?_
  refine lv_iadd hx hb (by decide +kernel : decode cL_law 1037 = .ok (.iadd, 1)) ?_
  rw [nI_add]
  refine va_sld hx hb hXs hbl hbA hV.2.2 (i := nI (i + 1)) (vp_in_nI (by omega) (by omega)) (by decide +kernel : decode cL_law 1038 = .ok (.iaload, 1)) ?_
  rw [nI_clamp (n := i + 1) (by omega)]
  refine lv_aload_n hx hb (by decide +kernel : decode cL_law 1039 = .ok (.aload_n 0, 1)) rfl (lv_at hl 1 rfl) ?_
  refine lv_iload hx hb (by decide +kernel : decode cL_law 1040 = .ok (.iload 4, 2)) (lv_at hl 0 rfl) ?_
  refine lv_iconst (v := nI 2) hx hb (by decide +kernel : decode cL_law 1042 = .ok (.iconst 2, 1)) (by decide +kernel) ?_
  refine lv_iadd hx hb (by decide +kernel : decode cL_law 1043 = .ok (.iadd, 1)) ?_
  rw [nI_add]
  refine va_sld hx hb hXs hbl hbA hV.2.2 (i := nI (i + 2)) (vp_in_nI (by omega) (by omega)) (by decide +kernel : decode cL_law 1044 = .ok (.iaload, 1)) ?_
  rw [nI_clamp (n := i + 2) (by omega)]
  refine l_call (as := [vI (xs (i + 1)), vI (xs (i + 2))]) (ci := 10) (o := 0) (rest := []) (n := 2) hX0 (l_met (mid := 125) hX0.2.2.2.2.2.2.2 rfl rfl (tok_i (tok_i (tok_1 tvd_10))) ht rfl e1) tc_10 w_5_121 w_5_124 w_5_122 w_5_123 w_1_1 rfl (by decide +kernel) rfl (by decide +kernel) ⟨Nat.le_of_ble_eq_true rfl, Nat.le_of_ble_eq_true rfl⟩ hl.1 (Nat.le_of_ble_eq_true rfl) (by decide +kernel : decode cL_law 1045 = .ok (.invokevirtual 133, 3)) ⟨by show cells ≤ 601024; omega, by show slots ≤ 7293033; omega⟩ hV (fun H locs ht10 hV => ?_)
  refine (?_ : W p l e room_1 s m #[Value.ref b] below meth c H locs cells slots Q (F0 m 1048 ls [.int r]))
  refine lv_aload_n hx hb (by decide +kernel : decode cL_law 1048 = .ok (.aload_n 2, 1)) rfl (lv_at hl 3 rfl) ?_
  refine lv_aload_n hx hb (by decide +kernel : decode cL_law 1049 = .ok (.aload_n 0, 1)) rfl (lv_at hl 1 rfl) ?_
  refine lv_iload hx hb (by decide +kernel : decode cL_law 1050 = .ok (.iload 4, 2)) (lv_at hl 0 rfl) ?_
  refine lv_iconst (v := nI 1) hx hb (by decide +kernel : decode cL_law 1052 = .ok (.iconst 1, 1)) (by decide +kernel) ?_
  refine lv_iadd hx hb (by decide +kernel : decode cL_law 1053 = .ok (.iadd, 1)) ?_
  rw [nI_add]
  refine va_sld hx hb hXs hbl hbA hV.2.2 (i := nI (i + 1)) (vp_in_nI (by omega) (by omega)) (by decide +kernel : decode cL_law 1054 = .ok (.iaload, 1)) ?_
  rw [nI_clamp (n := i + 1) (by omega)]
  refine lv_aload_n hx hb (by decide +kernel : decode cL_law 1055 = .ok (.aload_n 0, 1)) rfl (lv_at hl 1 rfl) ?_
  refine lv_iload hx hb (by decide +kernel : decode cL_law 1056 = .ok (.iload 4, 2)) (lv_at hl 0 rfl) ?_
  refine lv_iconst (v := nI 2) hx hb (by decide +kernel : decode cL_law 1058 = .ok (.iconst 2, 1)) (by decide +kernel) ?_
  refine lv_iadd hx hb (by decide +kernel : decode cL_law 1059 = .ok (.iadd, 1)) ?_
  rw [nI_add]
  refine va_sld hx hb hXs hbl hbA hV.2.2 (i := nI (i + 2)) (vp_in_nI (by omega) (by omega)) (by decide +kernel : decode cL_law 1060 = .ok (.iaload, 1)) ?_
  rw [nI_clamp (n := i + 2) (by omega)]
  refine l_call (as := [vI (xs (i + 1)), vI (xs (i + 2))]) (ci := 11) (o := 0) (rest := [.int r]) (n := 2) hX0 (l_met (mid := 246) hX0.2.2.2.2.2.2.2 rfl rfl (tok_i (tok_i (tok_1 tvd_11))) ht10.1 rfl e2) tc_11 w_8_169 w_8_172 w_8_170 w_8_171 w_1_13 rfl (by decide +kernel) rfl (by decide +kernel) ⟨Nat.le_of_ble_eq_true rfl, Nat.le_of_ble_eq_true rfl⟩ hl.1 (Nat.le_of_ble_eq_true rfl) (by decide +kernel : decode cL_law 1061 = .ok (.invokevirtual 136, 3)) ⟨by show cells ≤ 601024; omega, by show slots ≤ 7293033; omega⟩ hV (fun H locs ht11 hV => ?_)
  refine (?_ : W p l e room_1 s m #[Value.ref b] below meth c H locs cells slots Q (F0 m 1064 ls [.int r, .int r]))
  refine lv_icmp_eq (tgt := 1302) hx hb (by decide +kernel : decode cL_law 1064 = .ok (.if_icmp .eq 238, 3)) (by decide) (fun _ => ?_) (fun h => absurd rfl h)
  exact W.widen (k := cells + 1) (n := slots + 6) (by omega) (by omega) (nx G2 f H locs ls hG2 ht11.1 hV hl)
set_option maxRecDepth 100000 in
theorem law_secret {E : tE} {A : Nat → Prop} {p : Program} {l : Launch} {e : Env} {s : State} {m : MethodId} {below : List Frame} {meth : Method} {c : Code} {b L out i cells slots : Nat} {xs : Nat → Int32} {Q : State → Prop} {G : tH} {f : Nat → Int64} {H : Heap} {locs : List Loc} {ls : Array Slot} (hX : lwX E A p l s m c b L xs) (hi : i + 7 ≤ L) (hL : L ≤ 3584) (hG : INV G) (ht : tokG G) (hV : nV E A s (tWd E G ++ [(out, lgC E f)]) H locs) (hl : lv_has ls 7 (lwL E b out i)) (hc : cells + 1 ≤ 601024) (hs : slots + 6 ≤ 7293033) (nx : lwN E A p l e s m below meth c b out i Q (cells + 1) (slots + 6)) : W p l e room_1 s m #[Value.ref b] below meth c H locs cells slots Q (F0 m 1069 ls []) := by
  obtain ⟨hX0, hAl, hXs, hbl, htr, hTh, hs1, hs2⟩ := hX
  have hx := hX0.1
  have hb := hX0.2.1
  have hbA : ¬ A b := hAl b hbl
  obtain ⟨r, G1, G2, e1, e2, hG2⟩ := p_secret  hG
  refine lv_aload_n hx hb (by decide +kernel : decode cL_law 1069 = .ok (.aload_n 1, 1)) rfl (lv_at hl 2 rfl) ?_
  refine l_call (as := []) (ci := 10) (o := 0) (rest := []) (n := 0) hX0 (l_met (mid := 126) hX0.2.2.2.2.2.2.2 rfl rfl (tok_1 tvd_10) ht rfl e1) tc_10 w_5_138 w_5_141 w_5_139 w_5_140 w_1_1 rfl (by decide +kernel) rfl (by decide +kernel) ⟨Nat.le_of_ble_eq_true rfl, Nat.le_of_ble_eq_true rfl⟩ hl.1 (Nat.le_of_ble_eq_true rfl) (by decide +kernel : decode cL_law 1070 = .ok (.invokevirtual 137, 3)) ⟨by show cells ≤ 601024; omega, by show slots ≤ 7293033; omega⟩ hV (fun H locs ht10 hV => ?_)
  refine (?_ : W p l e room_1 s m #[Value.ref b] below meth c H locs cells slots Q (F0 m 1073 ls [.int r]))
  refine lv_aload_n hx hb (by decide +kernel : decode cL_law 1073 = .ok (.aload_n 2, 1)) rfl (lv_at hl 3 rfl) ?_
  refine l_call (as := []) (ci := 11) (o := 0) (rest := [.int r]) (n := 0) hX0 (l_met (mid := 247) hX0.2.2.2.2.2.2.2 rfl rfl (tok_1 tvd_11) ht10.1 rfl e2) tc_11 w_8_177 w_8_180 w_8_178 w_8_179 w_1_13 rfl (by decide +kernel) rfl (by decide +kernel) ⟨Nat.le_of_ble_eq_true rfl, Nat.le_of_ble_eq_true rfl⟩ hl.1 (Nat.le_of_ble_eq_true rfl) (by decide +kernel : decode cL_law 1074 = .ok (.invokevirtual 140, 3)) ⟨by show cells ≤ 601024; omega, by show slots ≤ 7293033; omega⟩ hV (fun H locs ht11 hV => ?_)
  refine (?_ : W p l e room_1 s m #[Value.ref b] below meth c H locs cells slots Q (F0 m 1077 ls [.int r, .int r]))
  refine lv_icmp_eq (tgt := 1302) hx hb (by decide +kernel : decode cL_law 1077 = .ok (.if_icmp .eq 225, 3)) (by decide) (fun _ => ?_) (fun h => absurd rfl h)
  exact W.widen (k := cells + 1) (n := slots + 6) (by omega) (by omega) (nx G2 f H locs ls hG2 ht11.1 hV hl)
set_option maxRecDepth 100000 in
theorem law_next {E : tE} {A : Nat → Prop} {p : Program} {l : Launch} {e : Env} {s : State} {m : MethodId} {below : List Frame} {meth : Method} {c : Code} {b L out i cells slots : Nat} {xs : Nat → Int32} {Q : State → Prop} {G : tH} {f : Nat → Int64} {H : Heap} {locs : List Loc} {ls : Array Slot} (hX : lwX E A p l s m c b L xs) (hi : i + 7 ≤ L) (hL : L ≤ 3584) (hG : INV G) (ht : tokG G) (hV : nV E A s (tWd E G ++ [(out, lgC E f)]) H locs) (hl : lv_has ls 7 (lwL E b out i)) (hc : cells + 1 ≤ 601024) (hs : slots + 6 ≤ 7293033) (nx : lwN E A p l e s m below meth c b out i Q (cells + 1) (slots + 6)) : W p l e room_1 s m #[Value.ref b] below meth c H locs cells slots Q (F0 m 1082 ls []) := by
  obtain ⟨hX0, hAl, hXs, hbl, htr, hTh, hs1, hs2⟩ := hX
  have hx := hX0.1
  have hb := hX0.2.1
  have hbA : ¬ A b := hAl b hbl
  obtain ⟨r, G1, G2, e1, e2, hG2⟩ := p_next  hG
  refine lv_aload_n hx hb (by decide +kernel : decode cL_law 1082 = .ok (.aload_n 1, 1)) rfl (lv_at hl 2 rfl) ?_
  refine l_call (as := []) (ci := 10) (o := 0) (rest := []) (n := 0) hX0 (l_met (mid := 127) hX0.2.2.2.2.2.2.2 rfl rfl (tok_1 tvd_10) ht rfl e1) tc_10 w_5_142 w_5_145 w_5_143 w_5_144 w_1_1 rfl (by decide +kernel) rfl (by decide +kernel) ⟨Nat.le_of_ble_eq_true rfl, Nat.le_of_ble_eq_true rfl⟩ hl.1 (Nat.le_of_ble_eq_true rfl) (by decide +kernel : decode cL_law 1083 = .ok (.invokevirtual 141, 3)) ⟨by show cells ≤ 601024; omega, by show slots ≤ 7293033; omega⟩ hV (fun H locs ht10 hV => ?_)
  refine (?_ : W p l e room_1 s m #[Value.ref b] below meth c H locs cells slots Q (F0 m 1086 ls [.int r]))
  refine lv_aload_n hx hb (by decide +kernel : decode cL_law 1086 = .ok (.aload_n 2, 1)) rfl (lv_at hl 3 rfl) ?_
  refine l_call (as := []) (ci := 11) (o := 0) (rest := [.int r]) (n := 0) hX0 (l_met (mid := 249) hX0.2.2.2.2.2.2.2 rfl rfl (tok_1 tvd_11) ht10.1 rfl e2) tc_11 w_8_181 w_8_184 w_8_182 w_8_183 w_1_13 rfl (by decide +kernel) rfl (by decide +kernel) ⟨Nat.le_of_ble_eq_true rfl, Nat.le_of_ble_eq_true rfl⟩ hl.1 (Nat.le_of_ble_eq_true rfl) (by decide +kernel : decode cL_law 1087 = .ok (.invokevirtual 144, 3)) ⟨by show cells ≤ 601024; omega, by show slots ≤ 7293033; omega⟩ hV (fun H locs ht11 hV => ?_)
  refine (?_ : W p l e room_1 s m #[Value.ref b] below meth c H locs cells slots Q (F0 m 1090 ls [.int r, .int r]))
  refine lv_icmp_eq (tgt := 1302) hx hb (by decide +kernel : decode cL_law 1090 = .ok (.if_icmp .eq 212, 3)) (by decide) (fun _ => ?_) (fun h => absurd rfl h)
  exact W.widen (k := cells + 1) (n := slots + 6) (by omega) (by omega) (nx G2 f H locs ls hG2 ht11.1 hV hl)
set_option maxRecDepth 100000 in
theorem law_rests {E : tE} {A : Nat → Prop} {p : Program} {l : Launch} {e : Env} {s : State} {m : MethodId} {below : List Frame} {meth : Method} {c : Code} {b L out i cells slots : Nat} {xs : Nat → Int32} {Q : State → Prop} {G : tH} {f : Nat → Int64} {H : Heap} {locs : List Loc} {ls : Array Slot} (hX : lwX E A p l s m c b L xs) (hi : i + 7 ≤ L) (hL : L ≤ 3584) (hG : INV G) (ht : tokG G) (hV : nV E A s (tWd E G ++ [(out, lgC E f)]) H locs) (hl : lv_has ls 7 (lwL E b out i)) (hc : cells + 1 ≤ 601024) (hs : slots + 6 ≤ 7293033) (nx : lwN E A p l e s m below meth c b out i Q (cells + 1) (slots + 6)) : W p l e room_1 s m #[Value.ref b] below meth c H locs cells slots Q (F0 m 1095 ls []) := by
  obtain ⟨hX0, hAl, hXs, hbl, htr, hTh, hs1, hs2⟩ := hX
  have hx := hX0.1
  have hb := hX0.2.1
  have hbA : ¬ A b := hAl b hbl
  refine lv_aload_n hx hb (by decide +kernel : decode cL_law 1095 = .ok (.aload_n 1, 1)) rfl (lv_at hl 2 rfl) ?_
  refine lv_aload_n hx hb (by decide +kernel : decode cL_law 1096 = .ok (.aload_n 0, 1)) rfl (lv_at hl 1 rfl) ?_
  refine lv_iload hx hb (by decide +kernel : decode cL_law 1097 = .ok (.iload 4, 2)) (lv_at hl 0 rfl) ?_
  refine lv_iconst (v := nI 1) hx hb (by decide +kernel : decode cL_law 1099 = .ok (.iconst 1, 1)) (by decide +kernel) ?_
  refine lv_iadd hx hb (by decide +kernel : decode cL_law 1100 = .ok (.iadd, 1)) ?_
  rw [nI_add]
  refine va_sld hx hb hXs hbl hbA hV.2.2 (i := nI (i + 1)) (vp_in_nI (by omega) (by omega)) (by decide +kernel : decode cL_law 1101 = .ok (.iaload, 1)) ?_
  rw [nI_clamp (n := i + 1) (by omega)]
  refine lv_aload_n hx hb (by decide +kernel : decode cL_law 1102 = .ok (.aload_n 0, 1)) rfl (lv_at hl 1 rfl) ?_
  refine lv_iload hx hb (by decide +kernel : decode cL_law 1103 = .ok (.iload 4, 2)) (lv_at hl 0 rfl) ?_
  refine lv_iconst (v := nI 2) hx hb (by decide +kernel : decode cL_law 1105 = .ok (.iconst 2, 1)) (by decide +kernel) ?_
  refine lv_iadd hx hb (by decide +kernel : decode cL_law 1106 = .ok (.iadd, 1)) ?_
  rw [nI_add]
  refine va_sld hx hb hXs hbl hbA hV.2.2 (i := nI (i + 2)) (vp_in_nI (by omega) (by omega)) (by decide +kernel : decode cL_law 1107 = .ok (.iaload, 1)) ?_
  rw [nI_clamp (n := i + 2) (by omega)]
  refine lv_aload_n hx hb (by decide +kernel : decode cL_law 1108 = .ok (.aload_n 0, 1)) rfl (lv_at hl 1 rfl) ?_
  refine lv_iload hx hb (by decide +kernel : decode cL_law 1109 = .ok (.iload 4, 2)) (lv_at hl 0 rfl) ?_
  refine lv_iconst (v := nI 3) hx hb (by decide +kernel : decode cL_law 1111 = .ok (.iconst 3, 1)) (by decide +kernel) ?_
  refine lv_iadd hx hb (by decide +kernel : decode cL_law 1112 = .ok (.iadd, 1)) ?_
  rw [nI_add]
  refine va_sld hx hb hXs hbl hbA hV.2.2 (i := nI (i + 3)) (vp_in_nI (by omega) (by omega)) (by decide +kernel : decode cL_law 1113 = .ok (.iaload, 1)) ?_
  rw [nI_clamp (n := i + 3) (by omega)]
  refine lv_aload_n hx hb (by decide +kernel : decode cL_law 1114 = .ok (.aload_n 3, 1)) rfl (lv_at hl 4 rfl) ?_
  refine l_rests (v := xs (i + 1)) (w := xs (i + 2)) (x := xs (i + 3)) (rest := []) hX0 htr ht hTh hs1 hs2 hAl ⟨Nat.le_of_ble_eq_true rfl, Nat.le_of_ble_eq_true rfl⟩ hl.1 (Nat.le_of_ble_eq_true rfl) (by decide +kernel : decode cL_law 1115 = .ok (.invokestatic 145, 3)) ⟨hc, hs⟩ hV (fun H locs hV => ?_)
  obtain ⟨kz, hkz⟩ : ∃ z, z = zk (rsR (xs (i + 1)) (xs (i + 2)) (xs (i + 3))) := ⟨_, rfl⟩
  rw [← hkz]
  refine lv_istore (lv' := (5, .int kz) :: lwL E b out i) hx hb (by decide +kernel : decode cL_law 1118 = .ok (.istore 5, 2)) hl (by decide) rfl (fun ls hl => ?_)
  have e2 := r_rests (xs (i + 1)) (xs (i + 2)) (xs (i + 3)) G
  obtain ⟨rv, tv, e3, h3⟩ : ∃ rv tv : Int32, V_X11_rests (xs (i + 1)) (xs (i + 2)) (xs (i + 3)) G = some (some (vI rv), sI G 1100 0 tv) ∧ tv = kz ∧ (kz = 0 → zf f (rsR (xs (i + 1)) (xs (i + 2)) (xs (i + 3))) 0 = rv.toInt64) := by
    rw [e2, hkz]
    cases hz : rsR (xs (i + 1)) (xs (i + 2)) (xs (i + 3)) with
    | some r => exact ⟨r, nI 0, rfl, (by decide +kernel : nI 0 = 0), fun _ => (if_pos rfl : (if 0 = 0 then r.toInt64 else f 0) = r.toInt64)⟩
    | none => exact ⟨nI 0, nI 1, rfl, (by decide +kernel : nI 1 = 1), fun h => absurd h (by decide)⟩
  obtain ⟨rfl, h4⟩ := h3
  refine lv_aload_n hx hb (by decide +kernel : decode cL_law 1120 = .ok (.aload_n 2, 1)) rfl (lv_at hl 4 rfl) ?_
  refine lv_aload_n hx hb (by decide +kernel : decode cL_law 1121 = .ok (.aload_n 0, 1)) rfl (lv_at hl 2 rfl) ?_
  refine lv_iload hx hb (by decide +kernel : decode cL_law 1122 = .ok (.iload 4, 2)) (lv_at hl 1 rfl) ?_
  refine lv_iconst (v := nI 1) hx hb (by decide +kernel : decode cL_law 1124 = .ok (.iconst 1, 1)) (by decide +kernel) ?_
  refine lv_iadd hx hb (by decide +kernel : decode cL_law 1125 = .ok (.iadd, 1)) ?_
  rw [nI_add]
  refine va_sld hx hb hXs hbl hbA hV.2.2 (i := nI (i + 1)) (vp_in_nI (by omega) (by omega)) (by decide +kernel : decode cL_law 1126 = .ok (.iaload, 1)) ?_
  rw [nI_clamp (n := i + 1) (by omega)]
  refine lv_aload_n hx hb (by decide +kernel : decode cL_law 1127 = .ok (.aload_n 0, 1)) rfl (lv_at hl 2 rfl) ?_
  refine lv_iload hx hb (by decide +kernel : decode cL_law 1128 = .ok (.iload 4, 2)) (lv_at hl 1 rfl) ?_
  refine lv_iconst (v := nI 2) hx hb (by decide +kernel : decode cL_law 1130 = .ok (.iconst 2, 1)) (by decide +kernel) ?_
  refine lv_iadd hx hb (by decide +kernel : decode cL_law 1131 = .ok (.iadd, 1)) ?_
  rw [nI_add]
  refine va_sld hx hb hXs hbl hbA hV.2.2 (i := nI (i + 2)) (vp_in_nI (by omega) (by omega)) (by decide +kernel : decode cL_law 1132 = .ok (.iaload, 1)) ?_
  rw [nI_clamp (n := i + 2) (by omega)]
  refine lv_aload_n hx hb (by decide +kernel : decode cL_law 1133 = .ok (.aload_n 0, 1)) rfl (lv_at hl 2 rfl) ?_
  refine lv_iload hx hb (by decide +kernel : decode cL_law 1134 = .ok (.iload 4, 2)) (lv_at hl 1 rfl) ?_
  refine lv_iconst (v := nI 3) hx hb (by decide +kernel : decode cL_law 1136 = .ok (.iconst 3, 1)) (by decide +kernel) ?_
  refine lv_iadd hx hb (by decide +kernel : decode cL_law 1137 = .ok (.iadd, 1)) ?_
  rw [nI_add]
  refine va_sld hx hb hXs hbl hbA hV.2.2 (i := nI (i + 3)) (vp_in_nI (by omega) (by omega)) (by decide +kernel : decode cL_law 1138 = .ok (.iaload, 1)) ?_
  rw [nI_clamp (n := i + 3) (by omega)]
  refine l_call (as := [vI (xs (i + 1)), vI (xs (i + 2)), vI (xs (i + 3))]) (ci := 11) (o := 0) (rest := []) (n := 3) hX0 (l_met (mid := 251) hX0.2.2.2.2.2.2.2 rfl rfl (tok_i (tok_i (tok_i (tok_1 tvd_11)))) ht rfl e3) tc_11 w_8_189 w_8_192 w_8_190 w_8_191 w_1_13 rfl (by decide +kernel) rfl (by decide +kernel) ⟨Nat.le_of_ble_eq_true rfl, Nat.le_of_ble_eq_true rfl⟩ hl.1 (Nat.le_of_ble_eq_true rfl) (by decide +kernel : decode cL_law 1139 = .ok (.invokevirtual 150, 3)) ⟨by show (cells + 1) ≤ 601024; omega, by show (slots + 6) ≤ 7293033; omega⟩ hV (fun H locs ht11 hV => ?_)
  refine (?_ : W p l e room_1 s m #[Value.ref b] below meth c H locs (cells + 1) (slots + 6) Q (F0 m 1142 ls [.int rv]))
  refine lv_istore (lv' := (6, .int rv) :: (5, .int tv) :: lwL E b out i) hx hb (by decide +kernel : decode cL_law 1142 = .ok (.istore 6, 2)) hl (by decide) rfl (fun ls hl => ?_)
  refine lv_aload_n hx hb (by decide +kernel : decode cL_law 1144 = .ok (.aload_n 2, 1)) rfl (lv_at hl 5 rfl) ?_
  refine l_call (as := []) (ci := 11) (o := 0) (rest := []) (n := 0) hX0 (l_met (mid := 135) hX0.2.2.2.2.2.2.2 rfl rfl (tok_1 tvd_11) ht11.1 rfl (e_X11_thrown _)) tc_11 w_6_53 w_6_56 w_6_54 w_6_55 w_1_13 rfl (by decide +kernel) rfl (by decide +kernel) ⟨Nat.le_of_ble_eq_true rfl, Nat.le_of_ble_eq_true rfl⟩ hl.1 (Nat.le_of_ble_eq_true rfl) (by decide +kernel : decode cL_law 1145 = .ok (.invokevirtual 151, 3)) ⟨by show (cells + 1) ≤ 601024; omega, by show (slots + 6) ≤ 7293033; omega⟩ hV (fun H locs ht11 hV => ?_)
  rw [gI_eq]
  refine (?_ : W p l e room_1 s m #[Value.ref b] below meth c H locs (cells + 1) (slots + 6) Q (F0 m 1148 ls [.int tv]))
  refine lv_iload hx hb (by decide +kernel : decode cL_law 1148 = .ok (.iload 5, 2)) (lv_at hl 1 rfl) ?_
  refine lv_icmp_eq (tgt := 1155) hx hb (by decide +kernel : decode cL_law 1150 = .ok (.if_icmp .eq 5, 3)) (by decide) (fun _ => ?_) (fun h => absurd rfl h)
  refine lv_iload hx hb (by decide +kernel : decode cL_law 1155 = .ok (.iload 5, 2)) (lv_at hl 1 rfl) ?_
  have fin : ∀ ls : Array Slot, lv_has ls 7 ((6, .int rv) :: (5, .int tv) :: lwL E b out i) → W p l e room_1 s m #[Value.ref b] below meth c H locs (cells + 1) (slots + 6) Q (F0 m 1172 ls []) := fun ls hl => lv_goto (tgt := 1302) hx hb (by decide +kernel : decode cL_law 1172 = .ok (.goto 130, 3)) (by decide) (nx _ _ H locs ls hG.thr2 ht11.1 hV (lv_sub hl [2, 3, 4, 5, 6] rfl))
  refine lv_if_ne (tgt := 1172) hx hb (by decide +kernel : decode cL_law 1157 = .ok (.ifCond .ne 15, 3)) (by decide) (fun _ => fin ls hl) (fun h0 => ?_)
  refine lv_aload_n hx hb (by decide +kernel : decode cL_law 1160 = .ok (.aload_n 3, 1)) rfl (lv_at hl 6 rfl) ?_
  refine lv_iconst (v := 0) hx hb (by decide +kernel : decode cL_law 1161 = .ok (.iconst 0, 1)) (by decide) ?_
  have hVp := hV.perm List.perm_append_comm
  refine va_lald hx hb hX0.2.2.2.2.2.1.1 hVp.1 0 1 (cA := E.2.1 1) (n := 1) (f := zf f (rsR (xs (i + 1)) (xs (i + 2)) (xs (i + 3)))) rfl rfl (tin_vp (by decide +kernel)) (by decide +kernel : decode cL_law 1162 = .ok (.laload, 1)) ?_
  refine lv_iload hx hb (by decide +kernel : decode cL_law 1163 = .ok (.iload 6, 2)) (lv_at hl 0 rfl) ?_
  refine lv_i2l (v := rv.toInt64) hx hb (by decide +kernel : decode cL_law 1165 = .ok (.i2l, 1)) rfl ?_
  refine W.lcmp hx hb (by decide +kernel : decode cL_law 1166 = .ok (.lcmp, 1)) ?_
  have h5 : zf f (rsR (xs (i + 1)) (xs (i + 2)) (xs (i + 3))) (0 : Int32).toNatClampNeg = rv.toInt64 := h4 h0
  rw [h5]
  refine lv_if_eq (tgt := 1172) hx hb (by decide +kernel : decode cL_law 1167 = .ok (.ifCond .eq 5, 3)) (by decide) (fun _ => fin ls hl) (fun h => absurd (by unfold lg_cmp; rw [if_neg (Int64.lt_irrefl), if_pos rfl]) h)
set_option maxRecDepth 100000 in
theorem law_lustra {E : tE} {A : Nat → Prop} {p : Program} {l : Launch} {e : Env} {s : State} {m : MethodId} {below : List Frame} {meth : Method} {c : Code} {b L out i cells slots : Nat} {xs : Nat → Int32} {Q : State → Prop} {G : tH} {f : Nat → Int64} {H : Heap} {locs : List Loc} {ls : Array Slot} (hX : lwX E A p l s m c b L xs) (hi : i + 7 ≤ L) (hL : L ≤ 3584) (hG : INV G) (ht : tokG G) (hV : nV E A s (tWd E G ++ [(out, lgC E f)]) H locs) (hl : lv_has ls 7 (lwL E b out i)) (hc : cells + 1 ≤ 601024) (hs : slots + 6 ≤ 7293033) (nx : lwN E A p l e s m below meth c b out i Q (cells + 1) (slots + 6)) : W p l e room_1 s m #[Value.ref b] below meth c H locs cells slots Q (F0 m 1175 ls []) := by
  obtain ⟨hX0, hAl, hXs, hbl, htr, hTh, hs1, hs2⟩ := hX
  have hx := hX0.1
  have hb := hX0.2.1
  have hbA : ¬ A b := hAl b hbl
  obtain ⟨r, G1, G2, e1, e2, hG2⟩ := p_lustra (xs (i + 1)) (xs (i + 2)) (xs (i + 3)) hG
  refine lv_aload_n hx hb (by decide +kernel : decode cL_law 1175 = .ok (.aload_n 1, 1)) rfl (lv_at hl 2 rfl) ?_
  refine lv_aload_n hx hb (by decide +kernel : decode cL_law 1176 = .ok (.aload_n 0, 1)) rfl (lv_at hl 1 rfl) ?_
  refine lv_iload hx hb (by decide +kernel : decode cL_law 1177 = .ok (.iload 4, 2)) (lv_at hl 0 rfl) ?_
  refine lv_iconst (v := nI 1) hx hb (by decide +kernel : decode cL_law 1179 = .ok (.iconst 1, 1)) (by decide +kernel) ?_
  refine lv_iadd hx hb (by decide +kernel : decode cL_law 1180 = .ok (.iadd, 1)) ?_
  rw [nI_add]
  refine va_sld hx hb hXs hbl hbA hV.2.2 (i := nI (i + 1)) (vp_in_nI (by omega) (by omega)) (by decide +kernel : decode cL_law 1181 = .ok (.iaload, 1)) ?_
  rw [nI_clamp (n := i + 1) (by omega)]
  refine lv_aload_n hx hb (by decide +kernel : decode cL_law 1182 = .ok (.aload_n 0, 1)) rfl (lv_at hl 1 rfl) ?_
  refine lv_iload hx hb (by decide +kernel : decode cL_law 1183 = .ok (.iload 4, 2)) (lv_at hl 0 rfl) ?_
  refine lv_iconst (v := nI 2) hx hb (by decide +kernel : decode cL_law 1185 = .ok (.iconst 2, 1)) (by decide +kernel) ?_
  refine lv_iadd hx hb (by decide +kernel : decode cL_law 1186 = .ok (.iadd, 1)) ?_
  rw [nI_add]
  refine va_sld hx hb hXs hbl hbA hV.2.2 (i := nI (i + 2)) (vp_in_nI (by omega) (by omega)) (by decide +kernel : decode cL_law 1187 = .ok (.iaload, 1)) ?_
  rw [nI_clamp (n := i + 2) (by omega)]
  refine lv_aload_n hx hb (by decide +kernel : decode cL_law 1188 = .ok (.aload_n 0, 1)) rfl (lv_at hl 1 rfl) ?_
  refine lv_iload hx hb (by decide +kernel : decode cL_law 1189 = .ok (.iload 4, 2)) (lv_at hl 0 rfl) ?_
  refine lv_iconst (v := nI 3) hx hb (by decide +kernel : decode cL_law 1191 = .ok (.iconst 3, 1)) (by decide +kernel) ?_
  refine lv_iadd hx hb (by decide +kernel : decode cL_law 1192 = .ok (.iadd, 1)) ?_
  rw [nI_add]
  refine va_sld hx hb hXs hbl hbA hV.2.2 (i := nI (i + 3)) (vp_in_nI (by omega) (by omega)) (by decide +kernel : decode cL_law 1193 = .ok (.iaload, 1)) ?_
  rw [nI_clamp (n := i + 3) (by omega)]
  refine l_call (as := [vI (xs (i + 1)), vI (xs (i + 2)), vI (xs (i + 3))]) (ci := 10) (o := 0) (rest := []) (n := 3) hX0 (l_met (mid := 130) hX0.2.2.2.2.2.2.2 rfl rfl (tok_i (tok_i (tok_i (tok_1 tvd_10)))) ht rfl e1) tc_10 w_5_158 w_5_161 w_5_159 w_5_160 w_1_1 rfl (by decide +kernel) rfl (by decide +kernel) ⟨Nat.le_of_ble_eq_true rfl, Nat.le_of_ble_eq_true rfl⟩ hl.1 (Nat.le_of_ble_eq_true rfl) (by decide +kernel : decode cL_law 1194 = .ok (.invokevirtual 154, 3)) ⟨by show cells ≤ 601024; omega, by show slots ≤ 7293033; omega⟩ hV (fun H locs ht10 hV => ?_)
  refine (?_ : W p l e room_1 s m #[Value.ref b] below meth c H locs cells slots Q (F0 m 1197 ls [.int r]))
  refine lv_aload_n hx hb (by decide +kernel : decode cL_law 1197 = .ok (.aload_n 2, 1)) rfl (lv_at hl 3 rfl) ?_
  refine lv_aload_n hx hb (by decide +kernel : decode cL_law 1198 = .ok (.aload_n 0, 1)) rfl (lv_at hl 1 rfl) ?_
  refine lv_iload hx hb (by decide +kernel : decode cL_law 1199 = .ok (.iload 4, 2)) (lv_at hl 0 rfl) ?_
  refine lv_iconst (v := nI 1) hx hb (by decide +kernel : decode cL_law 1201 = .ok (.iconst 1, 1)) (by decide +kernel) ?_
  refine lv_iadd hx hb (by decide +kernel : decode cL_law 1202 = .ok (.iadd, 1)) ?_
  rw [nI_add]
  refine va_sld hx hb hXs hbl hbA hV.2.2 (i := nI (i + 1)) (vp_in_nI (by omega) (by omega)) (by decide +kernel : decode cL_law 1203 = .ok (.iaload, 1)) ?_
  rw [nI_clamp (n := i + 1) (by omega)]
  refine lv_aload_n hx hb (by decide +kernel : decode cL_law 1204 = .ok (.aload_n 0, 1)) rfl (lv_at hl 1 rfl) ?_
  refine lv_iload hx hb (by decide +kernel : decode cL_law 1205 = .ok (.iload 4, 2)) (lv_at hl 0 rfl) ?_
  refine lv_iconst (v := nI 2) hx hb (by decide +kernel : decode cL_law 1207 = .ok (.iconst 2, 1)) (by decide +kernel) ?_
  refine lv_iadd hx hb (by decide +kernel : decode cL_law 1208 = .ok (.iadd, 1)) ?_
  rw [nI_add]
  refine va_sld hx hb hXs hbl hbA hV.2.2 (i := nI (i + 2)) (vp_in_nI (by omega) (by omega)) (by decide +kernel : decode cL_law 1209 = .ok (.iaload, 1)) ?_
  rw [nI_clamp (n := i + 2) (by omega)]
  refine lv_aload_n hx hb (by decide +kernel : decode cL_law 1210 = .ok (.aload_n 0, 1)) rfl (lv_at hl 1 rfl) ?_
  refine lv_iload hx hb (by decide +kernel : decode cL_law 1211 = .ok (.iload 4, 2)) (lv_at hl 0 rfl) ?_
  refine lv_iconst (v := nI 3) hx hb (by decide +kernel : decode cL_law 1213 = .ok (.iconst 3, 1)) (by decide +kernel) ?_
  refine lv_iadd hx hb (by decide +kernel : decode cL_law 1214 = .ok (.iadd, 1)) ?_
  rw [nI_add]
  refine va_sld hx hb hXs hbl hbA hV.2.2 (i := nI (i + 3)) (vp_in_nI (by omega) (by omega)) (by decide +kernel : decode cL_law 1215 = .ok (.iaload, 1)) ?_
  rw [nI_clamp (n := i + 3) (by omega)]
  refine l_call (as := [vI (xs (i + 1)), vI (xs (i + 2)), vI (xs (i + 3))]) (ci := 11) (o := 0) (rest := [.int r]) (n := 3) hX0 (l_met (mid := 255) hX0.2.2.2.2.2.2.2 rfl rfl (tok_i (tok_i (tok_i (tok_1 tvd_11)))) ht10.1 rfl e2) tc_11 w_8_196 w_8_199 w_8_197 w_8_198 w_1_13 rfl (by decide +kernel) rfl (by decide +kernel) ⟨Nat.le_of_ble_eq_true rfl, Nat.le_of_ble_eq_true rfl⟩ hl.1 (Nat.le_of_ble_eq_true rfl) (by decide +kernel : decode cL_law 1216 = .ok (.invokevirtual 157, 3)) ⟨by show cells ≤ 601024; omega, by show slots ≤ 7293033; omega⟩ hV (fun H locs ht11 hV => ?_)
  refine (?_ : W p l e room_1 s m #[Value.ref b] below meth c H locs cells slots Q (F0 m 1219 ls [.int r, .int r]))
  refine lv_icmp_eq (tgt := 1302) hx hb (by decide +kernel : decode cL_law 1219 = .ok (.if_icmp .eq 83, 3)) (by decide) (fun _ => ?_) (fun h => absurd rfl h)
  exact W.widen (k := cells + 1) (n := slots + 6) (by omega) (by omega) (nx G2 f H locs ls hG2 ht11.1 hV hl)
set_option maxRecDepth 100000 in
theorem law_mark {E : tE} {A : Nat → Prop} {p : Program} {l : Launch} {e : Env} {s : State} {m : MethodId} {below : List Frame} {meth : Method} {c : Code} {b L out i cells slots : Nat} {xs : Nat → Int32} {Q : State → Prop} {G : tH} {f : Nat → Int64} {H : Heap} {locs : List Loc} {ls : Array Slot} (hX : lwX E A p l s m c b L xs) (hi : i + 7 ≤ L) (hL : L ≤ 3584) (hG : INV G) (ht : tokG G) (hV : nV E A s (tWd E G ++ [(out, lgC E f)]) H locs) (hl : lv_has ls 7 (lwL E b out i)) (hc : cells + 1 ≤ 601024) (hs : slots + 6 ≤ 7293033) (nx : lwN E A p l e s m below meth c b out i Q (cells + 1) (slots + 6)) : W p l e room_1 s m #[Value.ref b] below meth c H locs cells slots Q (F0 m 1224 ls []) := by
  obtain ⟨hX0, hAl, hXs, hbl, htr, hTh, hs1, hs2⟩ := hX
  have hx := hX0.1
  have hb := hX0.2.1
  have hbA : ¬ A b := hAl b hbl
  by_cases h0 : xs (i + 2) = 0
  · obtain ⟨r, G1, G2, e1, e2, hG2⟩ := p_mark (xs (i + 1)) 0 (by omega) hG
    refine lv_aload_n hx hb (by decide +kernel : decode cL_law 1224 = .ok (.aload_n 1, 1)) rfl (lv_at hl 2 rfl) ?_
    refine lv_aload_n hx hb (by decide +kernel : decode cL_law 1225 = .ok (.aload_n 0, 1)) rfl (lv_at hl 1 rfl) ?_
    refine lv_iload hx hb (by decide +kernel : decode cL_law 1226 = .ok (.iload 4, 2)) (lv_at hl 0 rfl) ?_
    refine lv_iconst (v := nI 1) hx hb (by decide +kernel : decode cL_law 1228 = .ok (.iconst 1, 1)) (by decide +kernel) ?_
    refine lv_iadd hx hb (by decide +kernel : decode cL_law 1229 = .ok (.iadd, 1)) ?_
    rw [nI_add]
    refine va_sld hx hb hXs hbl hbA hV.2.2 (i := nI (i + 1)) (vp_in_nI (by omega) (by omega)) (by decide +kernel : decode cL_law 1230 = .ok (.iaload, 1)) ?_
    rw [nI_clamp (n := i + 1) (by omega)]
    refine lv_aload_n hx hb (by decide +kernel : decode cL_law 1231 = .ok (.aload_n 0, 1)) rfl (lv_at hl 1 rfl) ?_
    refine lv_iload hx hb (by decide +kernel : decode cL_law 1232 = .ok (.iload 4, 2)) (lv_at hl 0 rfl) ?_
    refine lv_iconst (v := nI 2) hx hb (by decide +kernel : decode cL_law 1234 = .ok (.iconst 2, 1)) (by decide +kernel) ?_
    refine lv_iadd hx hb (by decide +kernel : decode cL_law 1235 = .ok (.iadd, 1)) ?_
    rw [nI_add]
    refine va_sld hx hb hXs hbl hbA hV.2.2 (i := nI (i + 2)) (vp_in_nI (by omega) (by omega)) (by decide +kernel : decode cL_law 1236 = .ok (.iaload, 1)) ?_
    rw [nI_clamp (n := i + 2) (by omega)]
    refine lv_if_eq (tgt := 1244) hx hb (by decide +kernel : decode cL_law 1237 = .ok (.ifCond .eq 7, 3)) (by decide) (fun _ => ?_) (fun h => absurd h0 h)
    refine lv_iconst (v := nI 0) hx hb (by decide +kernel : decode cL_law 1244 = .ok (.iconst 0, 1)) (by decide +kernel) ?_
    refine l_call (as := [vI (xs (i + 1)), vI (nI 0)]) (ci := 10) (o := 0) (rest := []) (n := 2) hX0 (l_met (mid := 131) hX0.2.2.2.2.2.2.2 rfl rfl (tok_i (tok_i (tok_1 tvd_10))) ht rfl e1) tc_10 w_5_200 w_5_203 w_5_201 w_5_202 w_1_1 rfl (by decide +kernel) rfl (by decide +kernel) ⟨Nat.le_of_ble_eq_true rfl, Nat.le_of_ble_eq_true rfl⟩ hl.1 (Nat.le_of_ble_eq_true rfl) (by decide +kernel : decode cL_law 1245 = .ok (.invokevirtual 158, 3)) ⟨by show cells ≤ 601024; omega, by show slots ≤ 7293033; omega⟩ hV (fun H locs ht10 hV => ?_)
    refine (?_ : W p l e room_1 s m #[Value.ref b] below meth c H locs cells slots Q (F0 m 1248 ls [.int r]))
    refine lv_aload_n hx hb (by decide +kernel : decode cL_law 1248 = .ok (.aload_n 2, 1)) rfl (lv_at hl 3 rfl) ?_
    refine lv_aload_n hx hb (by decide +kernel : decode cL_law 1249 = .ok (.aload_n 0, 1)) rfl (lv_at hl 1 rfl) ?_
    refine lv_iload hx hb (by decide +kernel : decode cL_law 1250 = .ok (.iload 4, 2)) (lv_at hl 0 rfl) ?_
    refine lv_iconst (v := nI 1) hx hb (by decide +kernel : decode cL_law 1252 = .ok (.iconst 1, 1)) (by decide +kernel) ?_
    refine lv_iadd hx hb (by decide +kernel : decode cL_law 1253 = .ok (.iadd, 1)) ?_
    rw [nI_add]
    refine va_sld hx hb hXs hbl hbA hV.2.2 (i := nI (i + 1)) (vp_in_nI (by omega) (by omega)) (by decide +kernel : decode cL_law 1254 = .ok (.iaload, 1)) ?_
    rw [nI_clamp (n := i + 1) (by omega)]
    refine lv_aload_n hx hb (by decide +kernel : decode cL_law 1255 = .ok (.aload_n 0, 1)) rfl (lv_at hl 1 rfl) ?_
    refine lv_iload hx hb (by decide +kernel : decode cL_law 1256 = .ok (.iload 4, 2)) (lv_at hl 0 rfl) ?_
    refine lv_iconst (v := nI 2) hx hb (by decide +kernel : decode cL_law 1258 = .ok (.iconst 2, 1)) (by decide +kernel) ?_
    refine lv_iadd hx hb (by decide +kernel : decode cL_law 1259 = .ok (.iadd, 1)) ?_
    rw [nI_add]
    refine va_sld hx hb hXs hbl hbA hV.2.2 (i := nI (i + 2)) (vp_in_nI (by omega) (by omega)) (by decide +kernel : decode cL_law 1260 = .ok (.iaload, 1)) ?_
    rw [nI_clamp (n := i + 2) (by omega)]
    refine lv_if_eq (tgt := 1268) hx hb (by decide +kernel : decode cL_law 1261 = .ok (.ifCond .eq 7, 3)) (by decide) (fun _ => ?_) (fun h => absurd h0 h)
    refine lv_iconst (v := nI 0) hx hb (by decide +kernel : decode cL_law 1268 = .ok (.iconst 0, 1)) (by decide +kernel) ?_
    refine l_call (as := [vI (xs (i + 1)), vI (nI 0)]) (ci := 11) (o := 0) (rest := [.int r]) (n := 2) hX0 (l_met (mid := 256) hX0.2.2.2.2.2.2.2 rfl rfl (tok_i (tok_i (tok_1 tvd_11))) ht10.1 rfl e2) tc_11 w_8_216 w_8_219 w_8_217 w_8_218 w_1_13 rfl (by decide +kernel) rfl (by decide +kernel) ⟨Nat.le_of_ble_eq_true rfl, Nat.le_of_ble_eq_true rfl⟩ hl.1 (Nat.le_of_ble_eq_true rfl) (by decide +kernel : decode cL_law 1269 = .ok (.invokevirtual 162, 3)) ⟨by show cells ≤ 601024; omega, by show slots ≤ 7293033; omega⟩ hV (fun H locs ht11 hV => ?_)
    refine (?_ : W p l e room_1 s m #[Value.ref b] below meth c H locs cells slots Q (F0 m 1272 ls [.int r, .int r]))
    refine lv_icmp_eq (tgt := 1302) hx hb (by decide +kernel : decode cL_law 1272 = .ok (.if_icmp .eq 30, 3)) (by decide) (fun _ => ?_) (fun h => absurd rfl h)
    exact W.widen (k := cells + 1) (n := slots + 6) (by omega) (by omega) (nx G2 f H locs ls hG2 ht11.1 hV hl)
  · obtain ⟨r, G1, G2, e1, e2, hG2⟩ := p_mark (xs (i + 1)) 1 (by omega) hG
    refine lv_aload_n hx hb (by decide +kernel : decode cL_law 1224 = .ok (.aload_n 1, 1)) rfl (lv_at hl 2 rfl) ?_
    refine lv_aload_n hx hb (by decide +kernel : decode cL_law 1225 = .ok (.aload_n 0, 1)) rfl (lv_at hl 1 rfl) ?_
    refine lv_iload hx hb (by decide +kernel : decode cL_law 1226 = .ok (.iload 4, 2)) (lv_at hl 0 rfl) ?_
    refine lv_iconst (v := nI 1) hx hb (by decide +kernel : decode cL_law 1228 = .ok (.iconst 1, 1)) (by decide +kernel) ?_
    refine lv_iadd hx hb (by decide +kernel : decode cL_law 1229 = .ok (.iadd, 1)) ?_
    rw [nI_add]
    refine va_sld hx hb hXs hbl hbA hV.2.2 (i := nI (i + 1)) (vp_in_nI (by omega) (by omega)) (by decide +kernel : decode cL_law 1230 = .ok (.iaload, 1)) ?_
    rw [nI_clamp (n := i + 1) (by omega)]
    refine lv_aload_n hx hb (by decide +kernel : decode cL_law 1231 = .ok (.aload_n 0, 1)) rfl (lv_at hl 1 rfl) ?_
    refine lv_iload hx hb (by decide +kernel : decode cL_law 1232 = .ok (.iload 4, 2)) (lv_at hl 0 rfl) ?_
    refine lv_iconst (v := nI 2) hx hb (by decide +kernel : decode cL_law 1234 = .ok (.iconst 2, 1)) (by decide +kernel) ?_
    refine lv_iadd hx hb (by decide +kernel : decode cL_law 1235 = .ok (.iadd, 1)) ?_
    rw [nI_add]
    refine va_sld hx hb hXs hbl hbA hV.2.2 (i := nI (i + 2)) (vp_in_nI (by omega) (by omega)) (by decide +kernel : decode cL_law 1236 = .ok (.iaload, 1)) ?_
    rw [nI_clamp (n := i + 2) (by omega)]
    refine lv_if_eq (tgt := 1244) hx hb (by decide +kernel : decode cL_law 1237 = .ok (.ifCond .eq 7, 3)) (by decide) (fun h => absurd h h0) (fun _ => ?_)
    refine lv_iconst (v := nI 1) hx hb (by decide +kernel : decode cL_law 1240 = .ok (.iconst 1, 1)) (by decide +kernel) ?_
    refine lv_goto (tgt := 1245) hx hb (by decide +kernel : decode cL_law 1241 = .ok (.goto 4, 3)) (by decide) ?_
    refine l_call (as := [vI (xs (i + 1)), vI (nI 1)]) (ci := 10) (o := 0) (rest := []) (n := 2) hX0 (l_met (mid := 131) hX0.2.2.2.2.2.2.2 rfl rfl (tok_i (tok_i (tok_1 tvd_10))) ht rfl e1) tc_10 w_5_200 w_5_203 w_5_201 w_5_202 w_1_1 rfl (by decide +kernel) rfl (by decide +kernel) ⟨Nat.le_of_ble_eq_true rfl, Nat.le_of_ble_eq_true rfl⟩ hl.1 (Nat.le_of_ble_eq_true rfl) (by decide +kernel : decode cL_law 1245 = .ok (.invokevirtual 158, 3)) ⟨by show cells ≤ 601024; omega, by show slots ≤ 7293033; omega⟩ hV (fun H locs ht10 hV => ?_)
    refine (?_ : W p l e room_1 s m #[Value.ref b] below meth c H locs cells slots Q (F0 m 1248 ls [.int r]))
    refine lv_aload_n hx hb (by decide +kernel : decode cL_law 1248 = .ok (.aload_n 2, 1)) rfl (lv_at hl 3 rfl) ?_
    refine lv_aload_n hx hb (by decide +kernel : decode cL_law 1249 = .ok (.aload_n 0, 1)) rfl (lv_at hl 1 rfl) ?_
    refine lv_iload hx hb (by decide +kernel : decode cL_law 1250 = .ok (.iload 4, 2)) (lv_at hl 0 rfl) ?_
    refine lv_iconst (v := nI 1) hx hb (by decide +kernel : decode cL_law 1252 = .ok (.iconst 1, 1)) (by decide +kernel) ?_
    refine lv_iadd hx hb (by decide +kernel : decode cL_law 1253 = .ok (.iadd, 1)) ?_
    rw [nI_add]
    refine va_sld hx hb hXs hbl hbA hV.2.2 (i := nI (i + 1)) (vp_in_nI (by omega) (by omega)) (by decide +kernel : decode cL_law 1254 = .ok (.iaload, 1)) ?_
    rw [nI_clamp (n := i + 1) (by omega)]
    refine lv_aload_n hx hb (by decide +kernel : decode cL_law 1255 = .ok (.aload_n 0, 1)) rfl (lv_at hl 1 rfl) ?_
    refine lv_iload hx hb (by decide +kernel : decode cL_law 1256 = .ok (.iload 4, 2)) (lv_at hl 0 rfl) ?_
    refine lv_iconst (v := nI 2) hx hb (by decide +kernel : decode cL_law 1258 = .ok (.iconst 2, 1)) (by decide +kernel) ?_
    refine lv_iadd hx hb (by decide +kernel : decode cL_law 1259 = .ok (.iadd, 1)) ?_
    rw [nI_add]
    refine va_sld hx hb hXs hbl hbA hV.2.2 (i := nI (i + 2)) (vp_in_nI (by omega) (by omega)) (by decide +kernel : decode cL_law 1260 = .ok (.iaload, 1)) ?_
    rw [nI_clamp (n := i + 2) (by omega)]
    refine lv_if_eq (tgt := 1268) hx hb (by decide +kernel : decode cL_law 1261 = .ok (.ifCond .eq 7, 3)) (by decide) (fun h => absurd h h0) (fun _ => ?_)
    refine lv_iconst (v := nI 1) hx hb (by decide +kernel : decode cL_law 1264 = .ok (.iconst 1, 1)) (by decide +kernel) ?_
    refine lv_goto (tgt := 1269) hx hb (by decide +kernel : decode cL_law 1265 = .ok (.goto 4, 3)) (by decide) ?_
    refine l_call (as := [vI (xs (i + 1)), vI (nI 1)]) (ci := 11) (o := 0) (rest := [.int r]) (n := 2) hX0 (l_met (mid := 256) hX0.2.2.2.2.2.2.2 rfl rfl (tok_i (tok_i (tok_1 tvd_11))) ht10.1 rfl e2) tc_11 w_8_216 w_8_219 w_8_217 w_8_218 w_1_13 rfl (by decide +kernel) rfl (by decide +kernel) ⟨Nat.le_of_ble_eq_true rfl, Nat.le_of_ble_eq_true rfl⟩ hl.1 (Nat.le_of_ble_eq_true rfl) (by decide +kernel : decode cL_law 1269 = .ok (.invokevirtual 162, 3)) ⟨by show cells ≤ 601024; omega, by show slots ≤ 7293033; omega⟩ hV (fun H locs ht11 hV => ?_)
    refine (?_ : W p l e room_1 s m #[Value.ref b] below meth c H locs cells slots Q (F0 m 1272 ls [.int r, .int r]))
    refine lv_icmp_eq (tgt := 1302) hx hb (by decide +kernel : decode cL_law 1272 = .ok (.if_icmp .eq 30, 3)) (by decide) (fun _ => ?_) (fun h => absurd rfl h)
    exact W.widen (k := cells + 1) (n := slots + 6) (by omega) (by omega) (nx G2 f H locs ls hG2 ht11.1 hV hl)
set_option maxRecDepth 100000 in
theorem law_count {E : tE} {A : Nat → Prop} {p : Program} {l : Launch} {e : Env} {s : State} {m : MethodId} {below : List Frame} {meth : Method} {c : Code} {b L out i cells slots : Nat} {xs : Nat → Int32} {Q : State → Prop} {G : tH} {f : Nat → Int64} {H : Heap} {locs : List Loc} {ls : Array Slot} (hX : lwX E A p l s m c b L xs) (hi : i + 7 ≤ L) (hL : L ≤ 3584) (hG : INV G) (ht : tokG G) (hV : nV E A s (tWd E G ++ [(out, lgC E f)]) H locs) (hl : lv_has ls 7 (lwL E b out i)) (hc : cells + 1 ≤ 601024) (hs : slots + 6 ≤ 7293033) (nx : lwN E A p l e s m below meth c b out i Q (cells + 1) (slots + 6)) : W p l e room_1 s m #[Value.ref b] below meth c H locs cells slots Q (F0 m 1277 ls []) := by
  obtain ⟨hX0, hAl, hXs, hbl, htr, hTh, hs1, hs2⟩ := hX
  have hx := hX0.1
  have hb := hX0.2.1
  have hbA : ¬ A b := hAl b hbl
  obtain ⟨r, G1, G2, e1, e2, hG2⟩ := p_count (xs (i + 1)) hG
  refine lv_aload_n hx hb (by decide +kernel : decode cL_law 1277 = .ok (.aload_n 1, 1)) rfl (lv_at hl 2 rfl) ?_
  refine lv_aload_n hx hb (by decide +kernel : decode cL_law 1278 = .ok (.aload_n 0, 1)) rfl (lv_at hl 1 rfl) ?_
  refine lv_iload hx hb (by decide +kernel : decode cL_law 1279 = .ok (.iload 4, 2)) (lv_at hl 0 rfl) ?_
  refine lv_iconst (v := nI 1) hx hb (by decide +kernel : decode cL_law 1281 = .ok (.iconst 1, 1)) (by decide +kernel) ?_
  refine lv_iadd hx hb (by decide +kernel : decode cL_law 1282 = .ok (.iadd, 1)) ?_
  rw [nI_add]
  refine va_sld hx hb hXs hbl hbA hV.2.2 (i := nI (i + 1)) (vp_in_nI (by omega) (by omega)) (by decide +kernel : decode cL_law 1283 = .ok (.iaload, 1)) ?_
  rw [nI_clamp (n := i + 1) (by omega)]
  refine l_call (as := [vI (xs (i + 1))]) (ci := 10) (o := 0) (rest := []) (n := 1) hX0 (l_met (mid := 132) hX0.2.2.2.2.2.2.2 rfl rfl (tok_i (tok_1 tvd_10)) ht rfl e1) tc_10 w_5_205 w_5_208 w_5_206 w_5_207 w_1_1 rfl (by decide +kernel) rfl (by decide +kernel) ⟨Nat.le_of_ble_eq_true rfl, Nat.le_of_ble_eq_true rfl⟩ hl.1 (Nat.le_of_ble_eq_true rfl) (by decide +kernel : decode cL_law 1284 = .ok (.invokevirtual 163, 3)) ⟨by show cells ≤ 601024; omega, by show slots ≤ 7293033; omega⟩ hV (fun H locs ht10 hV => ?_)
  refine (?_ : W p l e room_1 s m #[Value.ref b] below meth c H locs cells slots Q (F0 m 1287 ls [.int r]))
  refine lv_aload_n hx hb (by decide +kernel : decode cL_law 1287 = .ok (.aload_n 2, 1)) rfl (lv_at hl 3 rfl) ?_
  refine lv_aload_n hx hb (by decide +kernel : decode cL_law 1288 = .ok (.aload_n 0, 1)) rfl (lv_at hl 1 rfl) ?_
  refine lv_iload hx hb (by decide +kernel : decode cL_law 1289 = .ok (.iload 4, 2)) (lv_at hl 0 rfl) ?_
  refine lv_iconst (v := nI 1) hx hb (by decide +kernel : decode cL_law 1291 = .ok (.iconst 1, 1)) (by decide +kernel) ?_
  refine lv_iadd hx hb (by decide +kernel : decode cL_law 1292 = .ok (.iadd, 1)) ?_
  rw [nI_add]
  refine va_sld hx hb hXs hbl hbA hV.2.2 (i := nI (i + 1)) (vp_in_nI (by omega) (by omega)) (by decide +kernel : decode cL_law 1293 = .ok (.iaload, 1)) ?_
  rw [nI_clamp (n := i + 1) (by omega)]
  refine l_call (as := [vI (xs (i + 1))]) (ci := 11) (o := 0) (rest := [.int r]) (n := 1) hX0 (l_met (mid := 258) hX0.2.2.2.2.2.2.2 rfl rfl (tok_i (tok_1 tvd_11)) ht10.1 rfl e2) tc_11 w_8_220 w_8_223 w_8_221 w_8_222 w_1_13 rfl (by decide +kernel) rfl (by decide +kernel) ⟨Nat.le_of_ble_eq_true rfl, Nat.le_of_ble_eq_true rfl⟩ hl.1 (Nat.le_of_ble_eq_true rfl) (by decide +kernel : decode cL_law 1294 = .ok (.invokevirtual 166, 3)) ⟨by show cells ≤ 601024; omega, by show slots ≤ 7293033; omega⟩ hV (fun H locs ht11 hV => ?_)
  refine (?_ : W p l e room_1 s m #[Value.ref b] below meth c H locs cells slots Q (F0 m 1297 ls [.int r, .int r]))
  refine lv_icmp_eq (tgt := 1302) hx hb (by decide +kernel : decode cL_law 1297 = .ok (.if_icmp .eq 5, 3)) (by decide) (fun _ => ?_) (fun h => absurd rfl h)
  exact W.widen (k := cells + 1) (n := slots + 6) (by omega) (by omega) (nx G2 f H locs ls hG2 ht11.1 hV hl)
