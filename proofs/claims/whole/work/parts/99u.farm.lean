/-! CONSTRUCTORS: TaxFarm -/
theorem w_1_215 : (Jvm.Cond.classLink "TaxFarm" (26 : Nat) "TaxFarm$Past") ∈ tW := tWm (tm1 (List.mem_of_getElem? (i := 215) rfl)) rfl
theorem w_1_216 : (Jvm.Cond.instantiable "TaxFarm$Past" (4 : Nat)) ∈ tW := tWm (tm1 (List.mem_of_getElem? (i := 216) rfl)) rfl
theorem w_1_218 : (Jvm.Cond.instanceMethod ({ cls := "TaxFarm$Past", name := "<init>", desc := "()V" } : Jvm.MethodName)) ∈ tW := tWm (tm1 (List.mem_of_getElem? (i := 218) rfl)) rfl
theorem w_1_219 : (Jvm.Cond.code ({ cls := "TaxFarm$Past", name := "<init>", desc := "()V" } : Jvm.MethodName) prog_6_method_1_code (1 : Nat) (Option.none : Option Jvm.ClassFile.FieldType)) ∈ tW := tWm (tm1 (List.mem_of_getElem? (i := 219) rfl)) rfl
theorem w_1_235 : (Jvm.Cond.classLink "TaxFarm" (36 : Nat) "TaxFarm$State") ∈ tW := tWm (tm1 (List.mem_of_getElem? (i := 235) rfl)) rfl
theorem w_1_237 : (Jvm.Cond.methodLink "TaxFarm" (38 : Nat) ({ cls := "TaxFarm$State", name := "<init>", desc := "(LTaxFarm$Province;)V" } : Jvm.MethodName)) ∈ tW := tWm (tm1 (List.mem_of_getElem? (i := 237) rfl)) rfl
theorem w_1_30 : (Jvm.Cond.methodLink "TaxFarm" (3 : Nat) ({ cls := "java/lang/Object", name := "<init>", desc := "()V" } : Jvm.MethodName)) ∈ tW := tWm (tm1 (List.mem_of_getElem? (i := 30) rfl)) rfl
theorem w_1_33 : (Jvm.Cond.classLink "TaxFarm" (9 : Nat) "TaxFarm$Tape") ∈ tW := tWm (tm1 (List.mem_of_getElem? (i := 33) rfl)) rfl
theorem w_1_34 : (Jvm.Cond.instantiable "TaxFarm$Tape" (9 : Nat)) ∈ tW := tWm (tm1 (List.mem_of_getElem? (i := 34) rfl)) rfl
theorem w_1_36 : (Jvm.Cond.instanceMethod ({ cls := "TaxFarm$Tape", name := "<init>", desc := "()V" } : Jvm.MethodName)) ∈ tW := tWm (tm1 (List.mem_of_getElem? (i := 36) rfl)) rfl
theorem w_1_37 : (Jvm.Cond.code ({ cls := "TaxFarm$Tape", name := "<init>", desc := "()V" } : Jvm.MethodName) prog_10_method_1_code (1 : Nat) (Option.none : Option Jvm.ClassFile.FieldType)) ∈ tW := tWm (tm1 (List.mem_of_getElem? (i := 37) rfl)) rfl
theorem w_1_74 : (Jvm.Cond.classLink "TaxFarm" (16 : Nat) "TaxFarm$Province") ∈ tW := tWm (tm1 (List.mem_of_getElem? (i := 74) rfl)) rfl
theorem w_1_75 : (Jvm.Cond.instantiable "TaxFarm$Province" (17 : Nat)) ∈ tW := tWm (tm1 (List.mem_of_getElem? (i := 75) rfl)) rfl
theorem w_1_76 : (Jvm.Cond.methodLink "TaxFarm" (18 : Nat) ({ cls := "TaxFarm$Province", name := "<init>", desc := "()V" } : Jvm.MethodName)) ∈ tW := tWm (tm1 (List.mem_of_getElem? (i := 76) rfl)) rfl
theorem w_1_77 : (Jvm.Cond.instanceMethod ({ cls := "TaxFarm$Province", name := "<init>", desc := "()V" } : Jvm.MethodName)) ∈ tW := tWm (tm1 (List.mem_of_getElem? (i := 77) rfl)) rfl
theorem w_1_78 : (Jvm.Cond.code ({ cls := "TaxFarm$Province", name := "<init>", desc := "()V" } : Jvm.MethodName) prog_7_method_1_code (1 : Nat) (Option.none : Option Jvm.ClassFile.FieldType)) ∈ tW := tWm (tm1 (List.mem_of_getElem? (i := 78) rfl)) rfl
theorem w_2_108 : (Jvm.Cond.classLink "TaxFarm" (77 : Nat) "TaxFarm$Gathering") ∈ tW := tWm (tm2 (List.mem_of_getElem? (i := 108) rfl)) rfl
theorem w_2_109 : (Jvm.Cond.instantiable "TaxFarm$Gathering" (8 : Nat)) ∈ tW := tWm (tm2 (List.mem_of_getElem? (i := 109) rfl)) rfl
theorem w_2_110 : (Jvm.Cond.methodLink "TaxFarm" (79 : Nat) ({ cls := "TaxFarm$Gathering", name := "<init>", desc := "(LTaxFarm$Province;)V" } : Jvm.MethodName)) ∈ tW := tWm (tm2 (List.mem_of_getElem? (i := 110) rfl)) rfl
theorem w_2_111 : (Jvm.Cond.instanceMethod ({ cls := "TaxFarm$Gathering", name := "<init>", desc := "(LTaxFarm$Province;)V" } : Jvm.MethodName)) ∈ tW := tWm (tm2 (List.mem_of_getElem? (i := 111) rfl)) rfl
theorem w_2_112 : (Jvm.Cond.code ({ cls := "TaxFarm$Gathering", name := "<init>", desc := "(LTaxFarm$Province;)V" } : Jvm.MethodName) prog_3_method_1_code (2 : Nat) (Option.none : Option Jvm.ClassFile.FieldType)) ∈ tW := tWm (tm2 (List.mem_of_getElem? (i := 112) rfl)) rfl
theorem w_2_142 : (Jvm.Cond.classLink "TaxFarm" (84 : Nat) "TaxFarm$Draws") ∈ tW := tWm (tm2 (List.mem_of_getElem? (i := 142) rfl)) rfl
theorem w_2_143 : (Jvm.Cond.instantiable "TaxFarm$Draws" (2 : Nat)) ∈ tW := tWm (tm2 (List.mem_of_getElem? (i := 143) rfl)) rfl
theorem w_2_145 : (Jvm.Cond.instanceMethod ({ cls := "TaxFarm$Draws", name := "<init>", desc := "()V" } : Jvm.MethodName)) ∈ tW := tWm (tm2 (List.mem_of_getElem? (i := 145) rfl)) rfl
theorem w_2_146 : (Jvm.Cond.code ({ cls := "TaxFarm$Draws", name := "<init>", desc := "()V" } : Jvm.MethodName) prog_2_method_1_code (1 : Nat) (Option.none : Option Jvm.ClassFile.FieldType)) ∈ tW := tWm (tm2 (List.mem_of_getElem? (i := 146) rfl)) rfl
theorem w_2_69 : (Jvm.Cond.classLink "TaxFarm" (48 : Nat) "TaxFarm$Trail") ∈ tW := tWm (tm2 (List.mem_of_getElem? (i := 69) rfl)) rfl
theorem w_2_70 : (Jvm.Cond.instantiable "TaxFarm$Trail" (3 : Nat)) ∈ tW := tWm (tm2 (List.mem_of_getElem? (i := 70) rfl)) rfl
theorem w_2_71 : (Jvm.Cond.methodLink "TaxFarm" (50 : Nat) ({ cls := "TaxFarm$Trail", name := "<init>", desc := "(LTaxFarm$Province;)V" } : Jvm.MethodName)) ∈ tW := tWm (tm2 (List.mem_of_getElem? (i := 71) rfl)) rfl
theorem w_2_72 : (Jvm.Cond.instanceMethod ({ cls := "TaxFarm$Trail", name := "<init>", desc := "(LTaxFarm$Province;)V" } : Jvm.MethodName)) ∈ tW := tWm (tm2 (List.mem_of_getElem? (i := 72) rfl)) rfl
theorem w_2_73 : (Jvm.Cond.code ({ cls := "TaxFarm$Trail", name := "<init>", desc := "(LTaxFarm$Province;)V" } : Jvm.MethodName) prog_11_method_1_code (3 : Nat) (Option.none : Option Jvm.ClassFile.FieldType)) ∈ tW := tWm (tm2 (List.mem_of_getElem? (i := 73) rfl)) rfl
theorem w_2_89 : (Jvm.Cond.classLink "TaxFarm" (70 : Nat) "TaxFarm$Outlook") ∈ tW := tWm (tm2 (List.mem_of_getElem? (i := 89) rfl)) rfl
theorem w_2_90 : (Jvm.Cond.instantiable "TaxFarm$Outlook" (4 : Nat)) ∈ tW := tWm (tm2 (List.mem_of_getElem? (i := 90) rfl)) rfl
theorem w_2_92 : (Jvm.Cond.instanceMethod ({ cls := "TaxFarm$Outlook", name := "<init>", desc := "()V" } : Jvm.MethodName)) ∈ tW := tWm (tm2 (List.mem_of_getElem? (i := 92) rfl)) rfl
theorem w_2_93 : (Jvm.Cond.code ({ cls := "TaxFarm$Outlook", name := "<init>", desc := "()V" } : Jvm.MethodName) prog_5_method_1_code (1 : Nat) (Option.none : Option Jvm.ClassFile.FieldType)) ∈ tW := tWm (tm2 (List.mem_of_getElem? (i := 93) rfl)) rfl
set_option maxRecDepth 100000 in
theorem marks_loop {l : Launch} {E : tE} {hp h0 sl : Nat} {p : Program} {e : Env} {s : State} {m : MethodId} {args : Array Value} {below : List Frame} {meth : Method} {c : Code} {A : Nat → Prop} {pl : va_W} {Q : State → Prop} {f0 f2 f3 f4 f5 f6 f7 f9 f10 f11 f12 f13 f14 : Value} (hX : nX E A p s m args meth c RX10 cX10_init 2)
    (kk : ∀ (q : Nat → Nat → Nat) (H : Heap) (locs : List Loc) (ls : Array Slot), nV E A s ((h0, .inr (10, [f0, .ref hp, f2, f3, f4, f5, f6, f7, .ref sl, f9, f10, f11, f12, f13, f14])) :: (sl, .inl (E.2.1 4, 4, .inr (.inr (.inr (.inr (rfF q 4)))))) :: (pl ++ stL E hp q 4)) H locs → lv_has ls 2 [(1, .int (nI 4)), (0, .ref h0)] → W p l e (nR 3 253 6937) s m args below meth c H locs (221 + 8 * 4) (6717 + 55 * 4) Q (F0 m 199 ls [])) :
    ∀ (n i : Nat), i + n = 4 → ∀ (q : Nat → Nat → Nat) (H : Heap) (locs : List Loc) (ls : Array Slot), nV E A s ((h0, .inr (10, [f0, .ref hp, f2, f3, f4, f5, f6, f7, .ref sl, f9, f10, f11, f12, f13, f14])) :: (sl, .inl (E.2.1 4, 4, .inr (.inr (.inr (.inr (rfF q i)))))) :: (pl ++ stL E hp q i)) H locs → lv_has ls 2 [(1, .int (nI i)), (0, .ref h0)] → W p l e (nR 3 253 6937) s m args below meth c H locs (221 + 8 * i) (6717 + 55 * i) Q (F0 m 171 ls []) := by
  have hx := hX.1
  have hb := hX.2.1
  intro n
  induction n with
  | zero =>
    intro i hi q H locs ls hV hl
    have hi : i = 4 := by omega
    subst hi
    refine lv_iload_n hx hb (by decide +kernel : decode cX10_init 171 = .ok (.iload_n 1, 1)) rfl (lv_at hl 0 rfl) ?_
    refine lv_iconst (v := 4) hx hb (by decide +kernel : decode cX10_init 172 = .ok (.iconst 4, 1)) (by decide) ?_
    refine lv_icmp_ge (tgt := 199) hx hb (by decide +kernel : decode cX10_init 173 = .ok (.if_icmp .ge 26, 3)) (by decide) (fun _ => kk q H locs ls hV hl) (fun h => absurd (by decide +kernel) h)
  | succ n ih =>
    intro i hi q H locs ls hV hl
    have hR1 : (nR 3 253 6937).cells = 253 := rfl
    have hR2 : (nR 3 253 6937).slots = 6937 := rfl
    refine lv_iload_n hx hb (by decide +kernel : decode cX10_init 171 = .ok (.iload_n 1, 1)) rfl (lv_at hl 0 rfl) ?_
    refine lv_iconst (v := 4) hx hb (by decide +kernel : decode cX10_init 172 = .ok (.iconst 4, 1)) (by decide) ?_
    refine lv_icmp_ge (tgt := 199) hx hb (by decide +kernel : decode cX10_init 173 = .ok (.if_icmp .ge 26, 3)) (by decide) (fun h => absurd h (by rw [show (4 : Int32) = nI 4 from by decide +kernel]; exact nI_ge (by omega) (by omega))) (fun _ => ?_)
    refine lv_aload_n hx hb (by decide +kernel : decode cX10_init 176 = .ok (.aload_n 0, 1)) rfl (lv_at hl 1 rfl) ?_
    refine n_get (k := 8) (v := .ref sl) hX tc_10 w_2_164 (by decide +kernel : decode cX10_init 177 = .ok (.getfield 55, 3)) (by decide) rfl hV ?_
    refine lv_iload_n hx hb (by decide +kernel : decode cX10_init 180 = .ok (.iload_n 1, 1)) rfl (lv_at hl 0 rfl) ?_
    refine n_new (fs := fdX7) hX tc_7 w_1_235 w_1_236 w_1_8 dfX7 (by rw [hR1]; omega) (by rw [hR2]; omega) (by decide +kernel : decode cX10_init 181 = .ok (.new 36, 3)) hV (fun x H hV => ?_)
    refine lv_dup hx hb (by decide +kernel : decode cX10_init 184 = .ok (.dup, 1)) rfl ?_
    refine lv_aload_n hx hb (by decide +kernel : decode cX10_init 185 = .ok (.aload_n 0, 1)) rfl (lv_at hl 1 rfl) ?_
    refine n_get (k := 1) (v := .ref hp) hX tc_10 w_2_157 (by decide +kernel : decode cX10_init 186 = .ok (.getfield 19, 3)) (by decide) rfl hV ?_
    refine n_callI (n := 1) (as := [.ref hp]) (rest := [.ref x, .int (nI i), .ref sl]) hX (n_X7 l E hp) w_1_237 w_1_238 w_1_8 w_1_239 rfl (by decide +kernel) rfl ⟨Nat.le_of_ble_eq_true rfl, Nat.le_of_ble_eq_true rfl⟩ hl.1 (Nat.le_of_ble_eq_true rfl) (by decide +kernel : decode cX10_init 189 = .ok (.invokespecial 38, 3)) ⟨by rw [hR1]; show _ + 7 ≤ _; omega, by rw [hR2]; show _ + 40 ≤ _; omega⟩ hV (fun u H locs hu hV2 => ?_)
    subst hu
    replace hV := hV2
    have hobj : ∃ (k : Nat) (vs : List Value), ((((h0, .inr (10, [f0, .ref hp, f2, f3, f4, f5, f6, f7, .ref sl, f9, f10, f11, f12, f13, f14])) :: (sl, .inl (E.2.1 4, 4, .inr (.inr (.inr (.inr (rfF q i)))))) :: (pl ++ stL E hp q i)) : va_W) ++ nW7 E hp u)[k]? = some ((u 0, .inr (7, vs)) : Nat × va_E) := by
      have hm : ∃ vs : List Value, ((u 0, .inr (7, vs)) : Nat × va_E) ∈ nW7 E hp u := ⟨_, List.mem_cons_self⟩
      obtain ⟨vs, hm⟩ := hm
      obtain ⟨k, hk⟩ := List.getElem?_of_mem (List.mem_append_right ((h0, .inr (10, [f0, .ref hp, f2, f3, f4, f5, f6, f7, .ref sl, f9, f10, f11, f12, f13, f14])) :: (sl, .inl (E.2.1 4, 4, .inr (.inr (.inr (.inr (rfF q i)))))) :: (pl ++ stL E hp q i)) hm)
      exact ⟨k, vs, hk⟩
    obtain ⟨k, vs, hk⟩ := hobj
    refine va_astq hx hb hX.2.2.2.2.2.2.1.1 hV.1 hV.2.1 hV.2.2 1 4 k 7 (cA := E.2.1 4) (r := (RX7, TX7, 15)) (n := 4) (f := rfF q i) rfl rfl hk rfl (vp_in_nI (by omega) (by omega)) (by decide +kernel : decode cX10_init 192 = .ok (.aastore, 1)) (fun H locs a b c => ?_)
    have hV : nV E A s ((h0, .inr (10, [f0, .ref hp, f2, f3, f4, f5, f6, f7, .ref sl, f9, f10, f11, f12, f13, f14])) :: (sl, .inl (E.2.1 4, 4, .inr (.inr (.inr (.inr (rfF (qUp q i u) (i + 1))))))) :: (pl ++ stL E hp (qUp q i u) (i + 1))) H locs := by
      rw [← stL_up, ← rfF_up, ← List.append_assoc]
      rw [nI_clamp (by omega)] at a b
      exact ⟨a, b, c⟩
    refine lv_iinc (v := nI (i + 1)) (lv' := [(1, .int (nI (i + 1))), (0, .ref h0)]) hx hb (by decide +kernel : decode cX10_init 193 = .ok (.iinc 1 1, 3)) hl (k := 0) rfl (nI_1 i) (by decide) rfl (fun ls hl => ?_)
    refine lv_goto (tgt := 171) hx hb (by decide +kernel : decode cX10_init 196 = .ok (.goto (-25), 3)) (by decide) ?_
    refine W.widen (k := 221 + 8 * (i + 1)) (n := 6717 + 55 * (i + 1)) (by show _ + 7 ≤ _; omega) (by show _ + 40 ≤ _; omega) ?_
    exact ih (i + 1) (by omega) (qUp q i u) H locs ls hV (lv_sub hl [0, 1] rfl)
set_option maxRecDepth 100000 in
theorem tales_loop {l : Launch} {E : tE} {h0 tl C S : Nat} {p : Program} {e : Env} {s : State} {m : MethodId} {args : Array Value} {below : List Frame} {meth : Method} {c : Code} {A : Nat → Prop} {pl : va_W} {Q : State → Prop} {R : Room} {g0 g1 g2 g3 g4 g5 g6 g7 g8 g9 g10 g12 g13 g14 : Value} (hX : nX E A p s m args meth c RX10 cX10_init 2)
    (kk : ∀ (H : Heap) (locs : List Loc) (ls : Array Slot), nV E A s ((h0, .inr (10, [g0, g1, g2, g3, g4, g5, g6, g7, g8, g9, g10, .ref tl, g12, g13, g14])) :: (tl, .inl (E.2.1 0, 5, .inl (tlF 5))) :: pl) H locs → W p l e R s m args below meth c H locs C S Q (F0 m 219 ls [])) :
    ∀ (n i : Nat), i + n = 5 → ∀ (H : Heap) (locs : List Loc) (ls : Array Slot), nV E A s ((h0, .inr (10, [g0, g1, g2, g3, g4, g5, g6, g7, g8, g9, g10, .ref tl, g12, g13, g14])) :: (tl, .inl (E.2.1 0, 5, .inl (tlF i))) :: pl) H locs → lv_has ls 2 [(1, .int (nI i)), (0, .ref h0)] → W p l e R s m args below meth c H locs C S Q (F0 m 201 ls []) := by
  have hx := hX.1
  have hb := hX.2.1
  intro n
  induction n with
  | zero =>
    intro i hi H locs ls hV hl
    have hi : i = 5 := by omega
    subst hi
    refine lv_iload_n hx hb (by decide +kernel : decode cX10_init 201 = .ok (.iload_n 1, 1)) rfl (lv_at hl 0 rfl) ?_
    refine lv_iconst (v := 5) hx hb (by decide +kernel : decode cX10_init 202 = .ok (.iconst 5, 1)) (by decide) ?_
    refine lv_icmp_ge (tgt := 219) hx hb (by decide +kernel : decode cX10_init 203 = .ok (.if_icmp .ge 16, 3)) (by decide) (fun _ => kk H locs ls hV) (fun h => absurd (by decide +kernel) h)
  | succ n ih =>
    intro i hi H locs ls hV hl
    refine lv_iload_n hx hb (by decide +kernel : decode cX10_init 201 = .ok (.iload_n 1, 1)) rfl (lv_at hl 0 rfl) ?_
    refine lv_iconst (v := 5) hx hb (by decide +kernel : decode cX10_init 202 = .ok (.iconst 5, 1)) (by decide) ?_
    refine lv_icmp_ge (tgt := 219) hx hb (by decide +kernel : decode cX10_init 203 = .ok (.if_icmp .ge 16, 3)) (by decide) (fun h => absurd h (by rw [show (5 : Int32) = nI 5 from by decide +kernel]; exact nI_ge (by omega) (by omega))) (fun _ => ?_)
    refine lv_aload_n hx hb (by decide +kernel : decode cX10_init 206 = .ok (.aload_n 0, 1)) rfl (lv_at hl 1 rfl) ?_
    refine n_get (k := 11) (v := .ref tl) hX tc_10 w_2_167 (by decide +kernel : decode cX10_init 207 = .ok (.getfield 67, 3)) (by decide) rfl hV ?_
    refine lv_iload_n hx hb (by decide +kernel : decode cX10_init 210 = .ok (.iload_n 1, 1)) rfl (lv_at hl 0 rfl) ?_
    refine lv_iconst (v := -1) hx hb (by decide +kernel : decode cX10_init 211 = .ok (.iconst (-1), 1)) (by decide) ?_
    refine va_iast hx hb hX.2.2.2.2.2.2.1.1 hV.1 hV.2.1 hV.2.2 1 0 (cA := E.2.1 0) (n := 5) (f := tlF i) rfl rfl (vp_in_nI (by omega) (by omega)) (by decide +kernel : decode cX10_init 212 = .ok (.iastore, 1)) (fun H locs a b c => ?_)
    have hV : nV E A s ((h0, .inr (10, [g0, g1, g2, g3, g4, g5, g6, g7, g8, g9, g10, .ref tl, g12, g13, g14])) :: (tl, .inl (E.2.1 0, 5, .inl (tlF (i + 1)))) :: pl) H locs := by
      rw [← tlF_up]
      rw [nI_clamp (by omega)] at a b
      exact ⟨a, b, c⟩
    refine lv_iinc (v := nI (i + 1)) (lv' := [(1, .int (nI (i + 1))), (0, .ref h0)]) hx hb (by decide +kernel : decode cX10_init 213 = .ok (.iinc 1 1, 3)) hl (k := 0) rfl (nI_1 i) (by decide) rfl (fun ls hl => ?_)
    refine lv_goto (tgt := 201) hx hb (by decide +kernel : decode cX10_init 216 = .ok (.goto (-15), 3)) (by decide) ?_
    exact ih (i + 1) (by omega) H locs ls hV (lv_sub hl [0, 1] rfl)
set_option maxRecDepth 100000 in
theorem n_X10 (l : Launch) (E : tE) : nCoz l E yX10_init cX10_init 2 (nR 3 253 6937) 10 fdX10 [] (fun g : Nat → Nat → Nat => g 10 0) (fun g => tCo (E.1, E.2.1, g) G00 L10) := by
  refine n_conz (by decide +kernel) rfl (fun _ => Nat.le_of_ble_eq_true rfl) ?_
  intro h0 p e s m below meth c A ls hAe hX hr hV hl
  have hx := hX.1
  have hb := hX.2.1
  have hl : lv_has ls 2 [(0, .ref h0)] := hl
  refine n_super (idx := 3) (h0 := h0) hX w_1_30 w_1_31 w_1_32 (by decide +kernel : decode cX10_init 0 = .ok (.aload_n 0, 1)) (by decide +kernel : decode cX10_init 1 = .ok (.invokespecial 3, 3)) hl rfl (Nat.le_of_ble_eq_true rfl) (Nat.le_of_ble_eq_true rfl) ?_
  have hV : nV E A s ((h0, .inr (10, [.null, .null, .null, .null, .null, .null, .null, .null, .null, .null, .int 0, .null, .null, .null, .null])) :: []) s.heap [] := hV
  refine lv_aload_n hx hb (by decide +kernel : decode cX10_init 4 = .ok (.aload_n 0, 1)) rfl (lv_at hl 0 rfl) ?_
  refine n_new (fs := fdX8) hX tc_8 w_1_33 w_1_34 w_1_2 dfX8 (Nat.le_of_ble_eq_true rfl) (Nat.le_of_ble_eq_true rfl) (by decide +kernel : decode cX10_init 5 = .ok (.new 9, 3)) hV (fun q1 H hV => ?_)
  refine lv_dup hx hb (by decide +kernel : decode cX10_init 8 = .ok (.dup, 1)) rfl ?_
  refine n_callN (host := "TaxFarm") (n := 0) (as := []) (rest := [.ref q1, .ref h0]) hX (n_X8 l E) (List.mem_of_getElem? (i := 0) rfl) w_1_36 w_1_2 w_1_37 rfl (by decide +kernel) rfl ⟨Nat.le_of_ble_eq_true rfl, Nat.le_of_ble_eq_true rfl⟩ hl.1 (Nat.le_of_ble_eq_true rfl) (by decide +kernel : decode cX10_init 9 = .ok (.invokespecial 11, 3)) ⟨Nat.le_of_ble_eq_true rfl, Nat.le_of_ble_eq_true rfl⟩ hV (fun u1 H locs hu hV2 => ?_)
  subst hu
  replace hV := hV2
  have hV : nV E A s ((h0, .inr (10, [.null, .null, .null, .null, .null, .null, .null, .null, .null, .null, .int 0, .null, .null, .null, .null])) :: (nW8 E u1)) H locs := hV
  refine n_put (k := 0) (v := .ref (u1 0)) hX tc_10 w_2_156 (by decide +kernel : decode cX10_init 12 = .ok (.putfield 12, 3)) (by decide) rfl rfl (Nat.le_of_ble_eq_true rfl) hV (fun H locs hV => ?_)
  have hV : nV E A s ((h0, .inr (10, [.ref (u1 0), .null, .null, .null, .null, .null, .null, .null, .null, .null, .int 0, .null, .null, .null, .null])) :: (nW8 E u1)) H locs := hV
  refine lv_aload_n hx hb (by decide +kernel : decode cX10_init 15 = .ok (.aload_n 0, 1)) rfl (lv_at hl 0 rfl) ?_
  refine n_new (fs := fdX5) hX tc_5 w_1_74 w_1_75 w_1_3 dfX5 (Nat.le_of_ble_eq_true rfl) (Nat.le_of_ble_eq_true rfl) (by decide +kernel : decode cX10_init 16 = .ok (.new 16, 3)) hV (fun q2 H hV => ?_)
  refine lv_dup hx hb (by decide +kernel : decode cX10_init 19 = .ok (.dup, 1)) rfl ?_
  refine n_callI (n := 0) (as := []) (rest := [.ref q2, .ref h0]) hX (n_X5 l E) w_1_76 w_1_77 w_1_3 w_1_78 rfl (by decide +kernel) rfl ⟨Nat.le_of_ble_eq_true rfl, Nat.le_of_ble_eq_true rfl⟩ hl.1 (Nat.le_of_ble_eq_true rfl) (by decide +kernel : decode cX10_init 20 = .ok (.invokespecial 18, 3)) ⟨Nat.le_of_ble_eq_true rfl, Nat.le_of_ble_eq_true rfl⟩ hV (fun u2 H locs hu hV2 => ?_)
  subst hu
  replace hV := hV2
  have hV : nV E A s ((h0, .inr (10, [.ref (u1 0), .null, .null, .null, .null, .null, .null, .null, .null, .null, .int 0, .null, .null, .null, .null])) :: ((nW8 E u1) ++ nW5 E u2)) H locs := hV
  refine n_put (k := 1) (v := .ref (u2 0)) hX tc_10 w_2_157 (by decide +kernel : decode cX10_init 23 = .ok (.putfield 19, 3)) (by decide) rfl rfl (Nat.le_of_ble_eq_true rfl) hV (fun H locs hV => ?_)
  have hV : nV E A s ((h0, .inr (10, [.ref (u1 0), .ref (u2 0), .null, .null, .null, .null, .null, .null, .null, .null, .int 0, .null, .null, .null, .null])) :: ((nW8 E u1) ++ nW5 E u2)) H locs := hV
  refine lv_aload_n hx hb (by decide +kernel : decode cX10_init 26 = .ok (.aload_n 0, 1)) rfl (lv_at hl 0 rfl) ?_
  refine n_new (fs := fdX5) hX tc_5 w_1_74 w_1_75 w_1_3 dfX5 (Nat.le_of_ble_eq_true rfl) (Nat.le_of_ble_eq_true rfl) (by decide +kernel : decode cX10_init 27 = .ok (.new 16, 3)) hV (fun q3 H hV => ?_)
  refine lv_dup hx hb (by decide +kernel : decode cX10_init 30 = .ok (.dup, 1)) rfl ?_
  refine n_callI (n := 0) (as := []) (rest := [.ref q3, .ref h0]) hX (n_X5 l E) w_1_76 w_1_77 w_1_3 w_1_78 rfl (by decide +kernel) rfl ⟨Nat.le_of_ble_eq_true rfl, Nat.le_of_ble_eq_true rfl⟩ hl.1 (Nat.le_of_ble_eq_true rfl) (by decide +kernel : decode cX10_init 31 = .ok (.invokespecial 18, 3)) ⟨Nat.le_of_ble_eq_true rfl, Nat.le_of_ble_eq_true rfl⟩ hV (fun u3 H locs hu hV2 => ?_)
  subst hu
  replace hV := hV2
  have hV : nV E A s ((h0, .inr (10, [.ref (u1 0), .ref (u2 0), .null, .null, .null, .null, .null, .null, .null, .null, .int 0, .null, .null, .null, .null])) :: (((nW8 E u1) ++ nW5 E u2) ++ nW5 E u3)) H locs := hV
  refine n_put (k := 2) (v := .ref (u3 0)) hX tc_10 w_2_158 (by decide +kernel : decode cX10_init 34 = .ok (.putfield 23, 3)) (by decide) rfl rfl (Nat.le_of_ble_eq_true rfl) hV (fun H locs hV => ?_)
  have hV : nV E A s ((h0, .inr (10, [.ref (u1 0), .ref (u2 0), .ref (u3 0), .null, .null, .null, .null, .null, .null, .null, .int 0, .null, .null, .null, .null])) :: (((nW8 E u1) ++ nW5 E u2) ++ nW5 E u3)) H locs := hV
  refine lv_aload_n hx hb (by decide +kernel : decode cX10_init 37 = .ok (.aload_n 0, 1)) rfl (lv_at hl 0 rfl) ?_
  refine n_new (fs := fdX4) hX tc_4 w_1_215 w_1_216 w_1_7 dfX4 (Nat.le_of_ble_eq_true rfl) (Nat.le_of_ble_eq_true rfl) (by decide +kernel : decode cX10_init 38 = .ok (.new 26, 3)) hV (fun q4 H hV => ?_)
  refine lv_dup hx hb (by decide +kernel : decode cX10_init 41 = .ok (.dup, 1)) rfl ?_
  refine n_callN (host := "TaxFarm") (n := 0) (as := []) (rest := [.ref q4, .ref h0]) hX (n_X4 l E) (List.mem_of_getElem? (i := 2) rfl) w_1_218 w_1_7 w_1_219 rfl (by decide +kernel) rfl ⟨Nat.le_of_ble_eq_true rfl, Nat.le_of_ble_eq_true rfl⟩ hl.1 (Nat.le_of_ble_eq_true rfl) (by decide +kernel : decode cX10_init 42 = .ok (.invokespecial 28, 3)) ⟨Nat.le_of_ble_eq_true rfl, Nat.le_of_ble_eq_true rfl⟩ hV (fun u4 H locs hu hV2 => ?_)
  subst hu
  replace hV := hV2
  have hV : nV E A s ((h0, .inr (10, [.ref (u1 0), .ref (u2 0), .ref (u3 0), .null, .null, .null, .null, .null, .null, .null, .int 0, .null, .null, .null, .null])) :: ((((nW8 E u1) ++ nW5 E u2) ++ nW5 E u3) ++ nW4 E u4)) H locs := hV
  refine n_put (k := 3) (v := .ref (u4 0)) hX tc_10 w_2_159 (by decide +kernel : decode cX10_init 45 = .ok (.putfield 29, 3)) (by decide) rfl rfl (Nat.le_of_ble_eq_true rfl) hV (fun H locs hV => ?_)
  have hV : nV E A s ((h0, .inr (10, [.ref (u1 0), .ref (u2 0), .ref (u3 0), .ref (u4 0), .null, .null, .null, .null, .null, .null, .int 0, .null, .null, .null, .null])) :: ((((nW8 E u1) ++ nW5 E u2) ++ nW5 E u3) ++ nW4 E u4)) H locs := hV
  refine lv_aload_n hx hb (by decide +kernel : decode cX10_init 48 = .ok (.aload_n 0, 1)) rfl (lv_at hl 0 rfl) ?_
  refine n_new (fs := fdX4) hX tc_4 w_1_215 w_1_216 w_1_7 dfX4 (Nat.le_of_ble_eq_true rfl) (Nat.le_of_ble_eq_true rfl) (by decide +kernel : decode cX10_init 49 = .ok (.new 26, 3)) hV (fun q5 H hV => ?_)
  refine lv_dup hx hb (by decide +kernel : decode cX10_init 52 = .ok (.dup, 1)) rfl ?_
  refine n_callN (host := "TaxFarm") (n := 0) (as := []) (rest := [.ref q5, .ref h0]) hX (n_X4 l E) (List.mem_of_getElem? (i := 2) rfl) w_1_218 w_1_7 w_1_219 rfl (by decide +kernel) rfl ⟨Nat.le_of_ble_eq_true rfl, Nat.le_of_ble_eq_true rfl⟩ hl.1 (Nat.le_of_ble_eq_true rfl) (by decide +kernel : decode cX10_init 53 = .ok (.invokespecial 28, 3)) ⟨Nat.le_of_ble_eq_true rfl, Nat.le_of_ble_eq_true rfl⟩ hV (fun u5 H locs hu hV2 => ?_)
  subst hu
  replace hV := hV2
  have hV : nV E A s ((h0, .inr (10, [.ref (u1 0), .ref (u2 0), .ref (u3 0), .ref (u4 0), .null, .null, .null, .null, .null, .null, .int 0, .null, .null, .null, .null])) :: (((((nW8 E u1) ++ nW5 E u2) ++ nW5 E u3) ++ nW4 E u4) ++ nW4 E u5)) H locs := hV
  refine n_put (k := 4) (v := .ref (u5 0)) hX tc_10 w_2_160 (by decide +kernel : decode cX10_init 56 = .ok (.putfield 33, 3)) (by decide) rfl rfl (Nat.le_of_ble_eq_true rfl) hV (fun H locs hV => ?_)
  have hV : nV E A s ((h0, .inr (10, [.ref (u1 0), .ref (u2 0), .ref (u3 0), .ref (u4 0), .ref (u5 0), .null, .null, .null, .null, .null, .int 0, .null, .null, .null, .null])) :: (((((nW8 E u1) ++ nW5 E u2) ++ nW5 E u3) ++ nW4 E u4) ++ nW4 E u5)) H locs := hV
  refine lv_aload_n hx hb (by decide +kernel : decode cX10_init 59 = .ok (.aload_n 0, 1)) rfl (lv_at hl 0 rfl) ?_
  refine n_new (fs := fdX7) hX tc_7 w_1_235 w_1_236 w_1_8 dfX7 (Nat.le_of_ble_eq_true rfl) (Nat.le_of_ble_eq_true rfl) (by decide +kernel : decode cX10_init 60 = .ok (.new 36, 3)) hV (fun q6 H hV => ?_)
  refine lv_dup hx hb (by decide +kernel : decode cX10_init 63 = .ok (.dup, 1)) rfl ?_
  refine lv_aload_n hx hb (by decide +kernel : decode cX10_init 64 = .ok (.aload_n 0, 1)) rfl (lv_at hl 0 rfl) ?_
  refine n_get (k := 1) (v := .ref (u2 0)) hX tc_10 w_2_157 (by decide +kernel : decode cX10_init 65 = .ok (.getfield 19, 3)) (by decide) rfl hV ?_
  refine n_callI (n := 1) (as := [.ref (u2 0)]) (rest := [.ref q6, .ref h0]) hX (n_X7 l E (u2 0)) w_1_237 w_1_238 w_1_8 w_1_239 rfl (by decide +kernel) rfl ⟨Nat.le_of_ble_eq_true rfl, Nat.le_of_ble_eq_true rfl⟩ hl.1 (Nat.le_of_ble_eq_true rfl) (by decide +kernel : decode cX10_init 68 = .ok (.invokespecial 38, 3)) ⟨Nat.le_of_ble_eq_true rfl, Nat.le_of_ble_eq_true rfl⟩ hV (fun u6 H locs hu hV2 => ?_)
  subst hu
  replace hV := hV2
  have hV : nV E A s ((h0, .inr (10, [.ref (u1 0), .ref (u2 0), .ref (u3 0), .ref (u4 0), .ref (u5 0), .null, .null, .null, .null, .null, .int 0, .null, .null, .null, .null])) :: ((((((nW8 E u1) ++ nW5 E u2) ++ nW5 E u3) ++ nW4 E u4) ++ nW4 E u5) ++ nW7 E (u2 0) u6)) H locs := hV
  refine n_put (k := 5) (v := .ref (u6 0)) hX tc_10 w_2_161 (by decide +kernel : decode cX10_init 71 = .ok (.putfield 41, 3)) (by decide) rfl rfl (Nat.le_of_ble_eq_true rfl) hV (fun H locs hV => ?_)
  have hV : nV E A s ((h0, .inr (10, [.ref (u1 0), .ref (u2 0), .ref (u3 0), .ref (u4 0), .ref (u5 0), .ref (u6 0), .null, .null, .null, .null, .int 0, .null, .null, .null, .null])) :: ((((((nW8 E u1) ++ nW5 E u2) ++ nW5 E u3) ++ nW4 E u4) ++ nW4 E u5) ++ nW7 E (u2 0) u6)) H locs := hV
  refine lv_aload_n hx hb (by decide +kernel : decode cX10_init 74 = .ok (.aload_n 0, 1)) rfl (lv_at hl 0 rfl) ?_
  refine n_new (fs := fdX7) hX tc_7 w_1_235 w_1_236 w_1_8 dfX7 (Nat.le_of_ble_eq_true rfl) (Nat.le_of_ble_eq_true rfl) (by decide +kernel : decode cX10_init 75 = .ok (.new 36, 3)) hV (fun q7 H hV => ?_)
  refine lv_dup hx hb (by decide +kernel : decode cX10_init 78 = .ok (.dup, 1)) rfl ?_
  refine lv_aload_n hx hb (by decide +kernel : decode cX10_init 79 = .ok (.aload_n 0, 1)) rfl (lv_at hl 0 rfl) ?_
  refine n_get (k := 1) (v := .ref (u2 0)) hX tc_10 w_2_157 (by decide +kernel : decode cX10_init 80 = .ok (.getfield 19, 3)) (by decide) rfl hV ?_
  refine n_callI (n := 1) (as := [.ref (u2 0)]) (rest := [.ref q7, .ref h0]) hX (n_X7 l E (u2 0)) w_1_237 w_1_238 w_1_8 w_1_239 rfl (by decide +kernel) rfl ⟨Nat.le_of_ble_eq_true rfl, Nat.le_of_ble_eq_true rfl⟩ hl.1 (Nat.le_of_ble_eq_true rfl) (by decide +kernel : decode cX10_init 83 = .ok (.invokespecial 38, 3)) ⟨Nat.le_of_ble_eq_true rfl, Nat.le_of_ble_eq_true rfl⟩ hV (fun u7 H locs hu hV2 => ?_)
  subst hu
  replace hV := hV2
  have hV : nV E A s ((h0, .inr (10, [.ref (u1 0), .ref (u2 0), .ref (u3 0), .ref (u4 0), .ref (u5 0), .ref (u6 0), .null, .null, .null, .null, .int 0, .null, .null, .null, .null])) :: (((((((nW8 E u1) ++ nW5 E u2) ++ nW5 E u3) ++ nW4 E u4) ++ nW4 E u5) ++ nW7 E (u2 0) u6) ++ nW7 E (u2 0) u7)) H locs := hV
  refine n_put (k := 6) (v := .ref (u7 0)) hX tc_10 w_2_162 (by decide +kernel : decode cX10_init 86 = .ok (.putfield 45, 3)) (by decide) rfl rfl (Nat.le_of_ble_eq_true rfl) hV (fun H locs hV => ?_)
  have hV : nV E A s ((h0, .inr (10, [.ref (u1 0), .ref (u2 0), .ref (u3 0), .ref (u4 0), .ref (u5 0), .ref (u6 0), .ref (u7 0), .null, .null, .null, .int 0, .null, .null, .null, .null])) :: (((((((nW8 E u1) ++ nW5 E u2) ++ nW5 E u3) ++ nW4 E u4) ++ nW4 E u5) ++ nW7 E (u2 0) u6) ++ nW7 E (u2 0) u7)) H locs := hV
  refine lv_aload_n hx hb (by decide +kernel : decode cX10_init 89 = .ok (.aload_n 0, 1)) rfl (lv_at hl 0 rfl) ?_
  refine n_new (fs := fdX9) hX tc_9 w_2_69 w_2_70 w_1_9 dfX9 (Nat.le_of_ble_eq_true rfl) (Nat.le_of_ble_eq_true rfl) (by decide +kernel : decode cX10_init 90 = .ok (.new 48, 3)) hV (fun q8 H hV => ?_)
  refine lv_dup hx hb (by decide +kernel : decode cX10_init 93 = .ok (.dup, 1)) rfl ?_
  refine lv_aload_n hx hb (by decide +kernel : decode cX10_init 94 = .ok (.aload_n 0, 1)) rfl (lv_at hl 0 rfl) ?_
  refine n_get (k := 1) (v := .ref (u2 0)) hX tc_10 w_2_157 (by decide +kernel : decode cX10_init 95 = .ok (.getfield 19, 3)) (by decide) rfl hV ?_
  refine n_callI (n := 1) (as := [.ref (u2 0)]) (rest := [.ref q8, .ref h0]) hX (n_X9 l E (u2 0)) w_2_71 w_2_72 w_1_9 w_2_73 rfl (by decide +kernel) rfl ⟨Nat.le_of_ble_eq_true rfl, Nat.le_of_ble_eq_true rfl⟩ hl.1 (Nat.le_of_ble_eq_true rfl) (by decide +kernel : decode cX10_init 98 = .ok (.invokespecial 50, 3)) ⟨Nat.le_of_ble_eq_true rfl, Nat.le_of_ble_eq_true rfl⟩ hV (fun u8 H locs hu hV2 => ?_)
  subst hu
  replace hV := hV2
  have hV := hV.perm (List.Perm.cons _ List.perm_append_comm)
  have hV : nV E A s ((h0, .inr (10, [.ref (u1 0), .ref (u2 0), .ref (u3 0), .ref (u4 0), .ref (u5 0), .ref (u6 0), .ref (u7 0), .null, .null, .null, .int 0, .null, .null, .null, .null])) :: (nW9 E (u2 0) u8 ++ (((((((nW8 E u1) ++ nW5 E u2) ++ nW5 E u3) ++ nW4 E u4) ++ nW4 E u5) ++ nW7 E (u2 0) u6) ++ nW7 E (u2 0) u7))) H locs := hV
  refine n_put (k := 7) (v := .ref (u8 0)) hX tc_10 w_2_163 (by decide +kernel : decode cX10_init 101 = .ok (.putfield 51, 3)) (by decide) rfl rfl (Nat.le_of_ble_eq_true rfl) hV (fun H locs hV => ?_)
  have hV : nV E A s ((h0, .inr (10, [.ref (u1 0), .ref (u2 0), .ref (u3 0), .ref (u4 0), .ref (u5 0), .ref (u6 0), .ref (u7 0), .ref (u8 0), .null, .null, .int 0, .null, .null, .null, .null])) :: (nW9 E (u2 0) u8 ++ (((((((nW8 E u1) ++ nW5 E u2) ++ nW5 E u3) ++ nW4 E u4) ++ nW4 E u5) ++ nW7 E (u2 0) u6) ++ nW7 E (u2 0) u7))) H locs := hV
  refine lv_aload_n hx hb (by decide +kernel : decode cX10_init 104 = .ok (.aload_n 0, 1)) rfl (lv_at hl 0 rfl) ?_
  refine lv_iconst (v := 4) hx hb (by decide +kernel : decode cX10_init 105 = .ok (.iconst 4, 1)) (by decide) ?_
  refine n_newq (N' := 4) (n := 4) hX w_1_235 (by decide) (by decide) (by decide) (Nat.le_of_ble_eq_true rfl) (Nat.le_of_ble_eq_true rfl) (by decide +kernel : decode cX10_init 106 = .ok (.anewarray 36, 3)) hV (fun q9 H hV => ?_)
  have hV := nV.swap hV
  have hV : nV E A s ((h0, .inr (10, [.ref (u1 0), .ref (u2 0), .ref (u3 0), .ref (u4 0), .ref (u5 0), .ref (u6 0), .ref (u7 0), .ref (u8 0), .null, .null, .int 0, .null, .null, .null, .null])) :: ((q9, .inl (E.2.1 4, 4, .inr (.inr (.inr (.inr fun _ => none))))) :: (nW9 E (u2 0) u8 ++ (((((((nW8 E u1) ++ nW5 E u2) ++ nW5 E u3) ++ nW4 E u4) ++ nW4 E u5) ++ nW7 E (u2 0) u6) ++ nW7 E (u2 0) u7)))) H locs := hV
  refine n_put (k := 8) (v := .ref q9) hX tc_10 w_2_164 (by decide +kernel : decode cX10_init 109 = .ok (.putfield 55, 3)) (by decide) rfl rfl (Nat.le_of_ble_eq_true rfl) hV (fun H locs hV => ?_)
  have hV : nV E A s ((h0, .inr (10, [.ref (u1 0), .ref (u2 0), .ref (u3 0), .ref (u4 0), .ref (u5 0), .ref (u6 0), .ref (u7 0), .ref (u8 0), .ref q9, .null, .int 0, .null, .null, .null, .null])) :: ((q9, .inl (E.2.1 4, 4, .inr (.inr (.inr (.inr fun _ => none))))) :: (nW9 E (u2 0) u8 ++ (((((((nW8 E u1) ++ nW5 E u2) ++ nW5 E u3) ++ nW4 E u4) ++ nW4 E u5) ++ nW7 E (u2 0) u6) ++ nW7 E (u2 0) u7)))) H locs := hV
  refine lv_aload_n hx hb (by decide +kernel : decode cX10_init 112 = .ok (.aload_n 0, 1)) rfl (lv_at hl 0 rfl) ?_
  refine lv_bipush (v := 20) hx hb (by decide +kernel : decode cX10_init 113 = .ok (.bipush 20, 2)) (by decide) ?_
  refine n_newa (t0 := 0) (ty := .int) (atype := .int) (N' := 20) (n := 20) (a0 := (20, .inl fun _ => 0)) hX rfl (n_nm fun _ h => h) w_1_118 rfl (fun _ => rfl) (by decide) (by decide) (by decide) (Nat.le_of_ble_eq_true rfl) (Nat.le_of_ble_eq_true rfl) (by decide +kernel : decode cX10_init 115 = .ok (.newarray .int, 2)) hV (fun q10 H hV => ?_)
  have hV := nV.swap hV
  have hV : nV E A s ((h0, .inr (10, [.ref (u1 0), .ref (u2 0), .ref (u3 0), .ref (u4 0), .ref (u5 0), .ref (u6 0), .ref (u7 0), .ref (u8 0), .ref q9, .null, .int 0, .null, .null, .null, .null])) :: ((q10, .inl (E.2.1 0, 20, .inl fun _ => 0)) :: ((q9, .inl (E.2.1 4, 4, .inr (.inr (.inr (.inr fun _ => none))))) :: (nW9 E (u2 0) u8 ++ (((((((nW8 E u1) ++ nW5 E u2) ++ nW5 E u3) ++ nW4 E u4) ++ nW4 E u5) ++ nW7 E (u2 0) u6) ++ nW7 E (u2 0) u7))))) H locs := hV
  refine n_put (k := 9) (v := .ref q10) hX tc_10 w_2_165 (by decide +kernel : decode cX10_init 117 = .ok (.putfield 59, 3)) (by decide) rfl rfl (Nat.le_of_ble_eq_true rfl) hV (fun H locs hV => ?_)
  have hV : nV E A s ((h0, .inr (10, [.ref (u1 0), .ref (u2 0), .ref (u3 0), .ref (u4 0), .ref (u5 0), .ref (u6 0), .ref (u7 0), .ref (u8 0), .ref q9, .ref q10, .int 0, .null, .null, .null, .null])) :: ((q10, .inl (E.2.1 0, 20, .inl fun _ => 0)) :: ((q9, .inl (E.2.1 4, 4, .inr (.inr (.inr (.inr fun _ => none))))) :: (nW9 E (u2 0) u8 ++ (((((((nW8 E u1) ++ nW5 E u2) ++ nW5 E u3) ++ nW4 E u4) ++ nW4 E u5) ++ nW7 E (u2 0) u6) ++ nW7 E (u2 0) u7))))) H locs := hV
  refine lv_aload_n hx hb (by decide +kernel : decode cX10_init 120 = .ok (.aload_n 0, 1)) rfl (lv_at hl 0 rfl) ?_
  refine lv_iconst (v := 0) hx hb (by decide +kernel : decode cX10_init 121 = .ok (.iconst 0, 1)) (by decide) ?_
  refine n_put (k := 10) (v := .int 0) hX tc_10 w_2_166 (by decide +kernel : decode cX10_init 122 = .ok (.putfield 63, 3)) (by decide) rfl rfl (Nat.le_of_ble_eq_true rfl) hV (fun H locs hV => ?_)
  have hV : nV E A s ((h0, .inr (10, [.ref (u1 0), .ref (u2 0), .ref (u3 0), .ref (u4 0), .ref (u5 0), .ref (u6 0), .ref (u7 0), .ref (u8 0), .ref q9, .ref q10, .int 0, .null, .null, .null, .null])) :: ((q10, .inl (E.2.1 0, 20, .inl fun _ => 0)) :: ((q9, .inl (E.2.1 4, 4, .inr (.inr (.inr (.inr fun _ => none))))) :: (nW9 E (u2 0) u8 ++ (((((((nW8 E u1) ++ nW5 E u2) ++ nW5 E u3) ++ nW4 E u4) ++ nW4 E u5) ++ nW7 E (u2 0) u6) ++ nW7 E (u2 0) u7))))) H locs := hV
  refine lv_aload_n hx hb (by decide +kernel : decode cX10_init 125 = .ok (.aload_n 0, 1)) rfl (lv_at hl 0 rfl) ?_
  refine lv_iconst (v := 5) hx hb (by decide +kernel : decode cX10_init 126 = .ok (.iconst 5, 1)) (by decide) ?_
  refine n_newa (t0 := 0) (ty := .int) (atype := .int) (N' := 5) (n := 5) (a0 := (5, .inl fun _ => 0)) hX rfl (n_nm fun _ h => h) w_1_118 rfl (fun _ => rfl) (by decide) (by decide) (by decide) (Nat.le_of_ble_eq_true rfl) (Nat.le_of_ble_eq_true rfl) (by decide +kernel : decode cX10_init 127 = .ok (.newarray .int, 2)) hV (fun q11 H hV => ?_)
  have hV := nV.swap hV
  have hV : nV E A s ((h0, .inr (10, [.ref (u1 0), .ref (u2 0), .ref (u3 0), .ref (u4 0), .ref (u5 0), .ref (u6 0), .ref (u7 0), .ref (u8 0), .ref q9, .ref q10, .int 0, .null, .null, .null, .null])) :: ((q11, .inl (E.2.1 0, 5, .inl fun _ => 0)) :: ((q10, .inl (E.2.1 0, 20, .inl fun _ => 0)) :: ((q9, .inl (E.2.1 4, 4, .inr (.inr (.inr (.inr fun _ => none))))) :: (nW9 E (u2 0) u8 ++ (((((((nW8 E u1) ++ nW5 E u2) ++ nW5 E u3) ++ nW4 E u4) ++ nW4 E u5) ++ nW7 E (u2 0) u6) ++ nW7 E (u2 0) u7)))))) H locs := hV
  refine n_put (k := 11) (v := .ref q11) hX tc_10 w_2_167 (by decide +kernel : decode cX10_init 129 = .ok (.putfield 67, 3)) (by decide) rfl rfl (Nat.le_of_ble_eq_true rfl) hV (fun H locs hV => ?_)
  have hV : nV E A s ((h0, .inr (10, [.ref (u1 0), .ref (u2 0), .ref (u3 0), .ref (u4 0), .ref (u5 0), .ref (u6 0), .ref (u7 0), .ref (u8 0), .ref q9, .ref q10, .int 0, .ref q11, .null, .null, .null])) :: ((q11, .inl (E.2.1 0, 5, .inl fun _ => 0)) :: ((q10, .inl (E.2.1 0, 20, .inl fun _ => 0)) :: ((q9, .inl (E.2.1 4, 4, .inr (.inr (.inr (.inr fun _ => none))))) :: (nW9 E (u2 0) u8 ++ (((((((nW8 E u1) ++ nW5 E u2) ++ nW5 E u3) ++ nW4 E u4) ++ nW4 E u5) ++ nW7 E (u2 0) u6) ++ nW7 E (u2 0) u7)))))) H locs := hV
  refine lv_aload_n hx hb (by decide +kernel : decode cX10_init 132 = .ok (.aload_n 0, 1)) rfl (lv_at hl 0 rfl) ?_
  refine n_new (fs := fdX3) hX tc_3 w_2_89 w_2_90 w_1_10 dfX3 (Nat.le_of_ble_eq_true rfl) (Nat.le_of_ble_eq_true rfl) (by decide +kernel : decode cX10_init 133 = .ok (.new 70, 3)) hV (fun q12 H hV => ?_)
  refine lv_dup hx hb (by decide +kernel : decode cX10_init 136 = .ok (.dup, 1)) rfl ?_
  refine n_callN (host := "TaxFarm") (n := 0) (as := []) (rest := [.ref q12, .ref h0]) hX (n_X3 l E) (List.mem_of_getElem? (i := 3) rfl) w_2_92 w_1_10 w_2_93 rfl (by decide +kernel) rfl ⟨Nat.le_of_ble_eq_true rfl, Nat.le_of_ble_eq_true rfl⟩ hl.1 (Nat.le_of_ble_eq_true rfl) (by decide +kernel : decode cX10_init 137 = .ok (.invokespecial 72, 3)) ⟨Nat.le_of_ble_eq_true rfl, Nat.le_of_ble_eq_true rfl⟩ hV (fun u9 H locs hu hV2 => ?_)
  subst hu
  replace hV := hV2
  have hV : nV E A s ((h0, .inr (10, [.ref (u1 0), .ref (u2 0), .ref (u3 0), .ref (u4 0), .ref (u5 0), .ref (u6 0), .ref (u7 0), .ref (u8 0), .ref q9, .ref q10, .int 0, .ref q11, .null, .null, .null])) :: (((q11, .inl (E.2.1 0, 5, .inl fun _ => 0)) :: ((q10, .inl (E.2.1 0, 20, .inl fun _ => 0)) :: ((q9, .inl (E.2.1 4, 4, .inr (.inr (.inr (.inr fun _ => none))))) :: (nW9 E (u2 0) u8 ++ (((((((nW8 E u1) ++ nW5 E u2) ++ nW5 E u3) ++ nW4 E u4) ++ nW4 E u5) ++ nW7 E (u2 0) u6) ++ nW7 E (u2 0) u7))))) ++ nW3 E u9)) H locs := hV
  refine n_put (k := 12) (v := .ref (u9 0)) hX tc_10 w_2_168 (by decide +kernel : decode cX10_init 140 = .ok (.putfield 73, 3)) (by decide) rfl rfl (Nat.le_of_ble_eq_true rfl) hV (fun H locs hV => ?_)
  have hV : nV E A s ((h0, .inr (10, [.ref (u1 0), .ref (u2 0), .ref (u3 0), .ref (u4 0), .ref (u5 0), .ref (u6 0), .ref (u7 0), .ref (u8 0), .ref q9, .ref q10, .int 0, .ref q11, .ref (u9 0), .null, .null])) :: (((q11, .inl (E.2.1 0, 5, .inl fun _ => 0)) :: ((q10, .inl (E.2.1 0, 20, .inl fun _ => 0)) :: ((q9, .inl (E.2.1 4, 4, .inr (.inr (.inr (.inr fun _ => none))))) :: (nW9 E (u2 0) u8 ++ (((((((nW8 E u1) ++ nW5 E u2) ++ nW5 E u3) ++ nW4 E u4) ++ nW4 E u5) ++ nW7 E (u2 0) u6) ++ nW7 E (u2 0) u7))))) ++ nW3 E u9)) H locs := hV
  refine lv_aload_n hx hb (by decide +kernel : decode cX10_init 143 = .ok (.aload_n 0, 1)) rfl (lv_at hl 0 rfl) ?_
  refine n_new (fs := fdX1) hX tc_1 w_2_108 w_2_109 w_1_11 dfX1 (Nat.le_of_ble_eq_true rfl) (Nat.le_of_ble_eq_true rfl) (by decide +kernel : decode cX10_init 144 = .ok (.new 77, 3)) hV (fun q13 H hV => ?_)
  refine lv_dup hx hb (by decide +kernel : decode cX10_init 147 = .ok (.dup, 1)) rfl ?_
  refine lv_aload_n hx hb (by decide +kernel : decode cX10_init 148 = .ok (.aload_n 0, 1)) rfl (lv_at hl 0 rfl) ?_
  refine n_get (k := 1) (v := .ref (u2 0)) hX tc_10 w_2_157 (by decide +kernel : decode cX10_init 149 = .ok (.getfield 19, 3)) (by decide) rfl hV ?_
  refine n_callI (n := 1) (as := [.ref (u2 0)]) (rest := [.ref q13, .ref h0]) hX (n_X1 l E (u2 0)) w_2_110 w_2_111 w_1_11 w_2_112 rfl (by decide +kernel) rfl ⟨Nat.le_of_ble_eq_true rfl, Nat.le_of_ble_eq_true rfl⟩ hl.1 (Nat.le_of_ble_eq_true rfl) (by decide +kernel : decode cX10_init 152 = .ok (.invokespecial 79, 3)) ⟨Nat.le_of_ble_eq_true rfl, Nat.le_of_ble_eq_true rfl⟩ hV (fun u10 H locs hu hV2 => ?_)
  subst hu
  replace hV := hV2
  have hV : nV E A s ((h0, .inr (10, [.ref (u1 0), .ref (u2 0), .ref (u3 0), .ref (u4 0), .ref (u5 0), .ref (u6 0), .ref (u7 0), .ref (u8 0), .ref q9, .ref q10, .int 0, .ref q11, .ref (u9 0), .null, .null])) :: ((((q11, .inl (E.2.1 0, 5, .inl fun _ => 0)) :: ((q10, .inl (E.2.1 0, 20, .inl fun _ => 0)) :: ((q9, .inl (E.2.1 4, 4, .inr (.inr (.inr (.inr fun _ => none))))) :: (nW9 E (u2 0) u8 ++ (((((((nW8 E u1) ++ nW5 E u2) ++ nW5 E u3) ++ nW4 E u4) ++ nW4 E u5) ++ nW7 E (u2 0) u6) ++ nW7 E (u2 0) u7))))) ++ nW3 E u9) ++ nW1 E (u2 0) u10)) H locs := hV
  refine n_put (k := 13) (v := .ref (u10 0)) hX tc_10 w_2_169 (by decide +kernel : decode cX10_init 155 = .ok (.putfield 80, 3)) (by decide) rfl rfl (Nat.le_of_ble_eq_true rfl) hV (fun H locs hV => ?_)
  have hV : nV E A s ((h0, .inr (10, [.ref (u1 0), .ref (u2 0), .ref (u3 0), .ref (u4 0), .ref (u5 0), .ref (u6 0), .ref (u7 0), .ref (u8 0), .ref q9, .ref q10, .int 0, .ref q11, .ref (u9 0), .ref (u10 0), .null])) :: ((((q11, .inl (E.2.1 0, 5, .inl fun _ => 0)) :: ((q10, .inl (E.2.1 0, 20, .inl fun _ => 0)) :: ((q9, .inl (E.2.1 4, 4, .inr (.inr (.inr (.inr fun _ => none))))) :: (nW9 E (u2 0) u8 ++ (((((((nW8 E u1) ++ nW5 E u2) ++ nW5 E u3) ++ nW4 E u4) ++ nW4 E u5) ++ nW7 E (u2 0) u6) ++ nW7 E (u2 0) u7))))) ++ nW3 E u9) ++ nW1 E (u2 0) u10)) H locs := hV
  refine lv_aload_n hx hb (by decide +kernel : decode cX10_init 158 = .ok (.aload_n 0, 1)) rfl (lv_at hl 0 rfl) ?_
  refine n_new (fs := fdX0) hX tc_0 w_2_142 w_2_143 w_1_12 dfX0 (Nat.le_of_ble_eq_true rfl) (Nat.le_of_ble_eq_true rfl) (by decide +kernel : decode cX10_init 159 = .ok (.new 84, 3)) hV (fun q14 H hV => ?_)
  refine lv_dup hx hb (by decide +kernel : decode cX10_init 162 = .ok (.dup, 1)) rfl ?_
  refine n_callN (host := "TaxFarm") (n := 0) (as := []) (rest := [.ref q14, .ref h0]) hX (n_X0 l E) (List.mem_of_getElem? (i := 4) rfl) w_2_145 w_1_12 w_2_146 rfl (by decide +kernel) rfl ⟨Nat.le_of_ble_eq_true rfl, Nat.le_of_ble_eq_true rfl⟩ hl.1 (Nat.le_of_ble_eq_true rfl) (by decide +kernel : decode cX10_init 163 = .ok (.invokespecial 86, 3)) ⟨Nat.le_of_ble_eq_true rfl, Nat.le_of_ble_eq_true rfl⟩ hV (fun u11 H locs hu hV2 => ?_)
  subst hu
  replace hV := hV2
  have hV : nV E A s ((h0, .inr (10, [.ref (u1 0), .ref (u2 0), .ref (u3 0), .ref (u4 0), .ref (u5 0), .ref (u6 0), .ref (u7 0), .ref (u8 0), .ref q9, .ref q10, .int 0, .ref q11, .ref (u9 0), .ref (u10 0), .null])) :: (((((q11, .inl (E.2.1 0, 5, .inl fun _ => 0)) :: ((q10, .inl (E.2.1 0, 20, .inl fun _ => 0)) :: ((q9, .inl (E.2.1 4, 4, .inr (.inr (.inr (.inr fun _ => none))))) :: (nW9 E (u2 0) u8 ++ (((((((nW8 E u1) ++ nW5 E u2) ++ nW5 E u3) ++ nW4 E u4) ++ nW4 E u5) ++ nW7 E (u2 0) u6) ++ nW7 E (u2 0) u7))))) ++ nW3 E u9) ++ nW1 E (u2 0) u10) ++ nW0 E u11)) H locs := hV
  refine n_put (k := 14) (v := .ref (u11 0)) hX tc_10 w_2_170 (by decide +kernel : decode cX10_init 166 = .ok (.putfield 87, 3)) (by decide) rfl rfl (Nat.le_of_ble_eq_true rfl) hV (fun H locs hV => ?_)
  have hV : nV E A s ((h0, .inr (10, [.ref (u1 0), .ref (u2 0), .ref (u3 0), .ref (u4 0), .ref (u5 0), .ref (u6 0), .ref (u7 0), .ref (u8 0), .ref q9, .ref q10, .int 0, .ref q11, .ref (u9 0), .ref (u10 0), .ref (u11 0)])) :: (((((q11, .inl (E.2.1 0, 5, .inl fun _ => 0)) :: ((q10, .inl (E.2.1 0, 20, .inl fun _ => 0)) :: ((q9, .inl (E.2.1 4, 4, .inr (.inr (.inr (.inr fun _ => none))))) :: (nW9 E (u2 0) u8 ++ (((((((nW8 E u1) ++ nW5 E u2) ++ nW5 E u3) ++ nW4 E u4) ++ nW4 E u5) ++ nW7 E (u2 0) u6) ++ nW7 E (u2 0) u7))))) ++ nW3 E u9) ++ nW1 E (u2 0) u10) ++ nW0 E u11)) H locs := hV
  refine lv_iconst (v := 0) hx hb (by decide +kernel : decode cX10_init 169 = .ok (.iconst 0, 1)) (by decide) ?_
  refine lv_istore_n (lv' := [(1, .int 0), (0, .ref h0)]) hx hb (by decide +kernel : decode cX10_init 170 = .ok (.istore_n 1, 1)) rfl hl (by decide) rfl (fun ls hl => ?_)
  have hV : nV E A s ((h0, .inr (10, [.ref (u1 0), .ref (u2 0), .ref (u3 0), .ref (u4 0), .ref (u5 0), .ref (u6 0), .ref (u7 0), .ref (u8 0), .ref q9, .ref q10, .int 0, .ref q11, .ref (u9 0), .ref (u10 0), .ref (u11 0)])) :: (q11, .inl (E.2.1 0, 5, .inl fun _ => 0)) :: (q10, .inl (E.2.1 0, 20, .inl fun _ => 0)) :: (q9, .inl (E.2.1 4, 4, .inr (.inr (.inr (.inr fun _ => none))))) :: (nW9 E (u2 0) u8 ++ (nW8 E u1 ++ nW5 E u2 ++ nW5 E u3 ++ nW4 E u4 ++ nW4 E u5 ++ nW7 E (u2 0) u6 ++ nW7 E (u2 0) u7) ++ nW3 E u9 ++ nW1 E (u2 0) u10 ++ nW0 E u11)) H locs := hV
  have hV : nV E A s ((h0, .inr (10, [.ref (u1 0), .ref (u2 0), .ref (u3 0), .ref (u4 0), .ref (u5 0), .ref (u6 0), .ref (u7 0), .ref (u8 0), .ref q9, .ref q10, .int 0, .ref q11, .ref (u9 0), .ref (u10 0), .ref (u11 0)])) :: (q9, .inl (E.2.1 4, 4, .inr (.inr (.inr (.inr fun _ => none))))) :: ((q11, .inl (E.2.1 0, 5, .inl fun _ => 0)) :: (q10, .inl (E.2.1 0, 20, .inl fun _ => 0)) :: (nW9 E (u2 0) u8 ++ (nW8 E u1 ++ nW5 E u2 ++ nW5 E u3 ++ nW4 E u4 ++ nW4 E u5 ++ nW7 E (u2 0) u6 ++ nW7 E (u2 0) u7) ++ nW3 E u9 ++ nW1 E (u2 0) u10 ++ nW0 E u11))) H locs := hV.perm (List.Perm.cons _ prm3)
  have hV := nV.cell (y := (0, .inr (0, []))) hV (va_at_q (g := rfF (fun _ _ => 0) 0) fun i hi => rfl)
  have hV : nV E A s ((h0, .inr (10, [.ref (u1 0), .ref (u2 0), .ref (u3 0), .ref (u4 0), .ref (u5 0), .ref (u6 0), .ref (u7 0), .ref (u8 0), .ref q9, .ref q10, .int 0, .ref q11, .ref (u9 0), .ref (u10 0), .ref (u11 0)])) :: (q9, .inl (E.2.1 4, 4, .inr (.inr (.inr (.inr (rfF (fun _ _ => 0) 0)))))) :: (((q11, .inl (E.2.1 0, 5, .inl fun _ => 0)) :: (q10, .inl (E.2.1 0, 20, .inl fun _ => 0)) :: (nW9 E (u2 0) u8 ++ (nW8 E u1 ++ nW5 E u2 ++ nW5 E u3 ++ nW4 E u4 ++ nW4 E u5 ++ nW7 E (u2 0) u6 ++ nW7 E (u2 0) u7) ++ nW3 E u9 ++ nW1 E (u2 0) u10 ++ nW0 E u11)) ++ stL E (u2 0) (fun _ _ => 0) 0)) H locs := by rw [show stL E (u2 0) (fun _ _ => 0) 0 = [] from rfl, List.append_nil]; exact hV
  refine marks_loop (hp := u2 0) (sl := q9) hX (fun q H locs ls hV hl => ?_) 4 0 rfl (fun _ _ => 0) H locs ls hV hl
  refine lv_iconst (v := 0) hx hb (by decide +kernel : decode cX10_init 199 = .ok (.iconst 0, 1)) (by decide) ?_
  refine lv_istore_n (lv' := [(1, .int 0), (0, .ref h0)]) hx hb (by decide +kernel : decode cX10_init 200 = .ok (.istore_n 1, 1)) rfl (lv_sub hl [1] rfl) (by decide) rfl (fun ls hl => ?_)
  have hV : nV E A s ((h0, .inr (10, [.ref (u1 0), .ref (u2 0), .ref (u3 0), .ref (u4 0), .ref (u5 0), .ref (u6 0), .ref (u7 0), .ref (u8 0), .ref q9, .ref q10, .int 0, .ref q11, .ref (u9 0), .ref (u10 0), .ref (u11 0)])) :: (q11, .inl (E.2.1 0, 5, .inl fun _ => 0)) :: ((q9, .inl (E.2.1 4, 4, .inr (.inr (.inr (.inr (rfF q 4)))))) :: (q10, .inl (E.2.1 0, 20, .inl fun _ => 0)) :: ((nW9 E (u2 0) u8 ++ (nW8 E u1 ++ nW5 E u2 ++ nW5 E u3 ++ nW4 E u4 ++ nW4 E u5 ++ nW7 E (u2 0) u6 ++ nW7 E (u2 0) u7) ++ nW3 E u9 ++ nW1 E (u2 0) u10 ++ nW0 E u11) ++ stL E (u2 0) q 4))) H locs := hV.perm (List.Perm.cons _ (List.Perm.swap _ _ _))
  have hV := nV.cell (y := (0, .inr (0, []))) hV (va_at_i (g := tlF 0) fun i hi => rfl)
  refine tales_loop (tl := q11) hX (fun H locs ls hV => ?_) 5 0 rfl H locs ls hV hl
  obtain ⟨a5, ha5⟩ : ∃ f : Nat → Nat → Nat, f = fun o => if o = 0 then u2 else u3 := ⟨_, rfl⟩
  obtain ⟨a4, ha4⟩ : ∃ f : Nat → Nat → Nat, f = fun o => if o = 0 then u4 else u5 := ⟨_, rfl⟩
  obtain ⟨a7, ha7⟩ : ∃ f : Nat → Nat → Nat, f = fun o => if o = 0 then u6 else if o = 1 then u7 else if o < 19 then (fun k => u8 (100 * (o - 2 + 1) + k)) else q (o - 19) := ⟨_, rfl⟩
  have b5 : u2 = a5 0 ∧ u3 = a5 1 := by rw [ha5]; exact ⟨rfl, rfl⟩
  have b4 : u4 = a4 0 ∧ u5 = a4 1 := by rw [ha4]; exact ⟨rfl, rfl⟩
  have b7 : u6 = a7 0 ∧ u7 = a7 1 ∧ (∀ i, i < 17 → (fun k => u8 (100 * (i + 1) + k)) = a7 (2 + i)) ∧ ∀ i, q i = a7 (19 + i) := by
    rw [ha7]
    refine ⟨rfl, rfl, fun i hi => ?_, fun i => ?_⟩
    · show _ = if 2 + i = 0 then _ else _
      rw [if_neg (by omega), if_neg (by omega), if_pos (by omega), show 2 + i - 2 = i by omega]
    · show _ = if 19 + i = 0 then _ else _
      rw [if_neg (by omega), if_neg (by omega), if_neg (by omega), show 19 + i - 19 = i by omega]
  clear ha5 ha4 ha7
  obtain ⟨rfl, rfl⟩ := b5
  obtain ⟨rfl, rfl⟩ := b4
  obtain ⟨rfl, rfl, b1, b2⟩ := b7
  have hV : nV E A s ([(h0, .inr (10, [.ref (u1 0), .ref (a5 0 0), .ref (a5 1 0), .ref (a4 0 0), .ref (a4 1 0), .ref (a7 0 0), .ref (a7 1 0), .ref (u8 0), .ref q9, .ref q10, .int 0, .ref q11, .ref (u9 0), .ref (u10 0), .ref (u11 0)])), (q11, .inl (E.2.1 0, 5, .inl (tlF 5)))] ++ (q9, .inl (E.2.1 4, 4, .inr (.inr (.inr (.inr (rfF q 4)))))) :: ((q10, .inl (E.2.1 0, 20, .inl fun _ => 0)) :: ((((u8 0, .inr (9, [.ref (u8 1), .int 0, .int 0])) :: (u8 1, .inl (E.2.1 4, 17, .inr (.inr (.inr (.inr fun i => some (u8 (100 * (i + 1)))))))) :: stL E (a5 0 0) (fun i k => u8 (100 * (i + 1) + k)) 17) ++ (nW8 E u1 ++ nW5 E (a5 0) ++ nW5 E (a5 1) ++ nW4 E (a4 0) ++ nW4 E (a4 1) ++ nW7 E (a5 0 0) (a7 0) ++ nW7 E (a5 0 0) (a7 1)) ++ nW3 E u9 ++ nW1 E (a5 0 0) u10 ++ nW0 E u11) ++ stL E (a5 0 0) q 4))) H locs := hV
  have hV := nV.atn _ hV (va_at_q (g := fun i => some (a7 (19 + i) 0)) fun i hi => by show (if i < 4 then some (q i 0) else none) = _; rw [if_pos hi, b2 i])
  have hV : nV E A s ([(h0, .inr (10, [.ref (u1 0), .ref (a5 0 0), .ref (a5 1 0), .ref (a4 0 0), .ref (a4 1 0), .ref (a7 0 0), .ref (a7 1 0), .ref (u8 0), .ref q9, .ref q10, .int 0, .ref q11, .ref (u9 0), .ref (u10 0), .ref (u11 0)])), (q11, .inl (E.2.1 0, 5, .inl (tlF 5))), (q9, .inl (E.2.1 4, 4, .inr (.inr (.inr (.inr fun i => some (a7 (19 + i) 0)))))), (q10, .inl (E.2.1 0, 20, .inl fun _ => 0)), (u8 0, .inr (9, [.ref (u8 1), .int 0, .int 0]))] ++ (u8 1, .inl (E.2.1 4, 17, .inr (.inr (.inr (.inr fun i => some (u8 (100 * (i + 1)))))))) :: ((stL E (a5 0 0) (fun i k => u8 (100 * (i + 1) + k)) 17 ++ (nW8 E u1 ++ nW5 E (a5 0) ++ nW5 E (a5 1) ++ nW4 E (a4 0) ++ nW4 E (a4 1) ++ nW7 E (a5 0 0) (a7 0) ++ nW7 E (a5 0 0) (a7 1)) ++ nW3 E u9 ++ nW1 E (a5 0 0) u10 ++ nW0 E u11) ++ stL E (a5 0 0) q 4)) H locs := hV
  have hV := nV.atn _ hV (va_at_q (g := fun i => some (a7 (2 + i) 0)) fun i hi => by rw [← b1 i hi]; rfl)
  rw [stL_congr (q := q) (q' := fun i => a7 (19 + i)) 4 (fun i _ => b2 i), stL_congr (q := fun i k => u8 (100 * (i + 1) + k)) (q' := fun i => a7 (2 + i)) 17 (fun i hi => b1 i hi)] at hV
  have hV2 : nV E A s (tCo (E.1, E.2.1, gad h0 q9 q10 q11 u1 a5 a4 a7 u8 u9 u10 u11) G00 L10) H locs := by
    rw [g_L10]
    exact hV
  refine n_retz (key := fun g => g 10 0) (Wd := fun g => tCo (E.1, E.2.1, g) G00 L10) hX hAe hr (gad h0 q9 q10 q11 u1 a5 a4 a7 u8 u9 u10 u11) rfl hV2 ?_ ?_ (by decide +kernel : decode cX10_init 219 = .ok (.return_, 1))
  · exact Nat.le_of_ble_eq_true rfl
  · exact Nat.le_of_ble_eq_true rfl
