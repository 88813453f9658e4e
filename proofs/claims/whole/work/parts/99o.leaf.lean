/-! CONSTRUCTORS: the leaves -/
theorem w_1_107 : (Jvm.Cond.methodLink "TaxFarm$Law" (3 : Nat) ({ cls := "java/lang/Object", name := "<init>", desc := "()V" } : Jvm.MethodName)) ∈ tW := tWm (tm1 (List.mem_of_getElem? (i := 107) rfl)) rfl
theorem w_1_118 : (Jvm.Cond.arrayClass Jvm.ClassFile.FieldType.int) ∈ tW := tWm (tm1 (List.mem_of_getElem? (i := 118) rfl)) rfl
theorem w_1_220 : (Jvm.Cond.methodLink "TaxFarm$Past" (3 : Nat) ({ cls := "java/lang/Object", name := "<init>", desc := "()V" } : Jvm.MethodName)) ∈ tW := tWm (tm1 (List.mem_of_getElem? (i := 220) rfl)) rfl
theorem w_1_31 : (Jvm.Cond.instanceMethod ({ cls := "java/lang/Object", name := "<init>", desc := "()V" } : Jvm.MethodName)) ∈ tW := tWm (tm1 (List.mem_of_getElem? (i := 31) rfl)) rfl
theorem w_1_32 : (Jvm.Cond.code ({ cls := "java/lang/Object", name := "<init>", desc := "()V" } : Jvm.MethodName) object_method_1_code (1 : Nat) (Option.none : Option Jvm.ClassFile.FieldType)) ∈ tW := tWm (tm1 (List.mem_of_getElem? (i := 32) rfl)) rfl
theorem w_1_38 : (Jvm.Cond.methodLink "TaxFarm$Tape" (3 : Nat) ({ cls := "java/lang/Object", name := "<init>", desc := "()V" } : Jvm.MethodName)) ∈ tW := tWm (tm1 (List.mem_of_getElem? (i := 38) rfl)) rfl
theorem w_1_73 : (Jvm.Cond.arrayClass Jvm.ClassFile.FieldType.char) ∈ tW := tWm (tm1 (List.mem_of_getElem? (i := 73) rfl)) rfl
theorem w_2_0 : (Jvm.Cond.methodLink "TaxFarm$State" (3 : Nat) ({ cls := "java/lang/Object", name := "<init>", desc := "()V" } : Jvm.MethodName)) ∈ tW := tWm (tm2 (List.mem_of_getElem? (i := 0) rfl)) rfl
theorem w_2_113 : (Jvm.Cond.methodLink "TaxFarm$Gathering" (3 : Nat) ({ cls := "java/lang/Object", name := "<init>", desc := "()V" } : Jvm.MethodName)) ∈ tW := tWm (tm2 (List.mem_of_getElem? (i := 113) rfl)) rfl
theorem w_2_147 : (Jvm.Cond.methodLink "TaxFarm$Draws" (3 : Nat) ({ cls := "java/lang/Object", name := "<init>", desc := "()V" } : Jvm.MethodName)) ∈ tW := tWm (tm2 (List.mem_of_getElem? (i := 147) rfl)) rfl
theorem w_2_94 : (Jvm.Cond.methodLink "TaxFarm$Outlook" (3 : Nat) ({ cls := "java/lang/Object", name := "<init>", desc := "()V" } : Jvm.MethodName)) ∈ tW := tWm (tm2 (List.mem_of_getElem? (i := 94) rfl)) rfl
abbrev fdX0 : List Value := [.long 0, .int 0]
theorem dfX0 : ∀ j, j < 2 → defaultValue (tyX0 j) = vp_V fdX0 j := by
  intro j hj
  rcases (show j = 0 ∨ j = 1 by omega) with rfl | rfl <;> rfl
abbrev fdX1 : List Value := [.null, .int 0, .int 0, .int 0, .null, .null, .int 0, .int 0]
theorem dfX1 : ∀ j, j < 8 → defaultValue (tyX1 j) = vp_V fdX1 j := by
  intro j hj
  rcases (show j = 0 ∨ j = 1 ∨ j = 2 ∨ j = 3 ∨ j = 4 ∨ j = 5 ∨ j = 6 ∨ j = 7 by omega) with rfl | rfl | rfl | rfl | rfl | rfl | rfl | rfl <;> rfl
abbrev fdX2 : List Value := [.null, .int 0, .null]
theorem dfX2 : ∀ j, j < 3 → defaultValue (tyX2 j) = vp_V fdX2 j := by
  intro j hj
  rcases (show j = 0 ∨ j = 1 ∨ j = 2 by omega) with rfl | rfl | rfl <;> rfl
abbrev fdX3 : List Value := [.null, .null, .null, .int 0]
theorem dfX3 : ∀ j, j < 4 → defaultValue (tyX3 j) = vp_V fdX3 j := by
  intro j hj
  rcases (show j = 0 ∨ j = 1 ∨ j = 2 ∨ j = 3 by omega) with rfl | rfl | rfl | rfl <;> rfl
abbrev fdX4 : List Value := [.int 0, .null, .null, .null]
theorem dfX4 : ∀ j, j < 4 → defaultValue (tyX4 j) = vp_V fdX4 j := by
  intro j hj
  rcases (show j = 0 ∨ j = 1 ∨ j = 2 ∨ j = 3 by omega) with rfl | rfl | rfl | rfl <;> rfl
abbrev fdX5 : List Value := [.null, .null, .null, .null, .null, .null, .null, .null, .null, .null, .null, .null, .int 0, .int 0, .null, .null, .int 0]
theorem dfX5 : ∀ j, j < 17 → defaultValue (tyX5 j) = vp_V fdX5 j := by
  intro j hj
  rcases (show j = 0 ∨ j = 1 ∨ j = 2 ∨ j = 3 ∨ j = 4 ∨ j = 5 ∨ j = 6 ∨ j = 7 ∨ j = 8 ∨ j = 9 ∨ j = 10 ∨ j = 11 ∨ j = 12 ∨ j = 13 ∨ j = 14 ∨ j = 15 ∨ j = 16 by omega) with rfl | rfl | rfl | rfl | rfl | rfl | rfl | rfl | rfl | rfl | rfl | rfl | rfl | rfl | rfl | rfl | rfl <;> rfl
abbrev fdX6 : List Value := [.null, .int 0]
theorem dfX6 : ∀ j, j < 2 → defaultValue (tyX6 j) = vp_V fdX6 j := by
  intro j hj
  rcases (show j = 0 ∨ j = 1 by omega) with rfl | rfl <;> rfl
abbrev fdX7 : List Value := [.null, .null, .null, .null, .null, .null, .null, .null, .int 0, .int 0, .int 0, .int 0, .int 0, .int 0, .int 0]
theorem dfX7 : ∀ j, j < 15 → defaultValue (tyX7 j) = vp_V fdX7 j := by
  intro j hj
  rcases (show j = 0 ∨ j = 1 ∨ j = 2 ∨ j = 3 ∨ j = 4 ∨ j = 5 ∨ j = 6 ∨ j = 7 ∨ j = 8 ∨ j = 9 ∨ j = 10 ∨ j = 11 ∨ j = 12 ∨ j = 13 ∨ j = 14 by omega) with rfl | rfl | rfl | rfl | rfl | rfl | rfl | rfl | rfl | rfl | rfl | rfl | rfl | rfl | rfl <;> rfl
abbrev fdX8 : List Value := [.null, .int 0, .int 0, .int 0, .int 0, .long 0, .int 0, .int 0, .int 0]
theorem dfX8 : ∀ j, j < 9 → defaultValue (tyX8 j) = vp_V fdX8 j := by
  intro j hj
  rcases (show j = 0 ∨ j = 1 ∨ j = 2 ∨ j = 3 ∨ j = 4 ∨ j = 5 ∨ j = 6 ∨ j = 7 ∨ j = 8 by omega) with rfl | rfl | rfl | rfl | rfl | rfl | rfl | rfl | rfl <;> rfl
abbrev fdX9 : List Value := [.null, .int 0, .int 0]
theorem dfX9 : ∀ j, j < 3 → defaultValue (tyX9 j) = vp_V fdX9 j := by
  intro j hj
  rcases (show j = 0 ∨ j = 1 ∨ j = 2 by omega) with rfl | rfl | rfl <;> rfl
abbrev fdX10 : List Value := [.null, .null, .null, .null, .null, .null, .null, .null, .null, .null, .int 0, .null, .null, .null, .null]
theorem dfX10 : ∀ j, j < 15 → defaultValue (tyX10 j) = vp_V fdX10 j := by
  intro j hj
  rcases (show j = 0 ∨ j = 1 ∨ j = 2 ∨ j = 3 ∨ j = 4 ∨ j = 5 ∨ j = 6 ∨ j = 7 ∨ j = 8 ∨ j = 9 ∨ j = 10 ∨ j = 11 ∨ j = 12 ∨ j = 13 ∨ j = 14 by omega) with rfl | rfl | rfl | rfl | rfl | rfl | rfl | rfl | rfl | rfl | rfl | rfl | rfl | rfl | rfl <;> rfl
abbrev fdX11 : List Value := [.int 0, .null, .int 0, .int 0, .null, .null, .null, .int 0, .int 0, .null, .null, .null, .null, .int 0, .null, .null, .null, .null, .int 0, .int 0, .int 0, .null, .null, .null, .null, .int 0, .null, .int 0, .null, .null, .int 0, .int 0, .int 0, .int 0, .int 0, .null, .null, .long 0]
theorem dfX11 : ∀ j, j < 38 → defaultValue (tyX11 j) = vp_V fdX11 j := by
  intro j hj
  rcases (show j = 0 ∨ j = 1 ∨ j = 2 ∨ j = 3 ∨ j = 4 ∨ j = 5 ∨ j = 6 ∨ j = 7 ∨ j = 8 ∨ j = 9 ∨ j = 10 ∨ j = 11 ∨ j = 12 ∨ j = 13 ∨ j = 14 ∨ j = 15 ∨ j = 16 ∨ j = 17 ∨ j = 18 ∨ j = 19 ∨ j = 20 ∨ j = 21 ∨ j = 22 ∨ j = 23 ∨ j = 24 ∨ j = 25 ∨ j = 26 ∨ j = 27 ∨ j = 28 ∨ j = 29 ∨ j = 30 ∨ j = 31 ∨ j = 32 ∨ j = 33 ∨ j = 34 ∨ j = 35 ∨ j = 36 ∨ j = 37 by omega) with rfl | rfl | rfl | rfl | rfl | rfl | rfl | rfl | rfl | rfl | rfl | rfl | rfl | rfl | rfl | rfl | rfl | rfl | rfl | rfl | rfl | rfl | rfl | rfl | rfl | rfl | rfl | rfl | rfl | rfl | rfl | rfl | rfl | rfl | rfl | rfl | rfl | rfl <;> rfl
def nW0 (E : tE) (a : Nat → Nat) : va_W := (a 0, .inr (0, [.long 0, .int 0])) :: []
set_option maxRecDepth 100000 in
theorem n_X0 (l : Launch) (E : tE) : nCon l E yX0_init cX0_init 1 (nR 1 0 0) 0 fdX0 [] (nW0 E) := by
  refine n_con (by decide +kernel) rfl (fun _ => Nat.le_of_ble_eq_true rfl) ?_
  intro h0 p e s m below meth c A ls hAe hX hr hV hl
  have hx := hX.1
  have hb := hX.2.1
  have hl : lv_has ls 1 [(0, .ref h0)] := hl
  refine n_super (idx := 3) (h0 := h0) hX w_2_147 w_1_31 w_1_32 (by decide +kernel : decode cX0_init 0 = .ok (.aload_n 0, 1)) (by decide +kernel : decode cX0_init 1 = .ok (.invokespecial 3, 3)) hl rfl (Nat.le_of_ble_eq_true rfl) (Nat.le_of_ble_eq_true rfl) ?_
  have hV : nV E A s ((h0, .inr (0, [.long 0, .int 0])) :: []) s.heap [] := hV
  refine lv_aload_n hx hb (by decide +kernel : decode cX0_init 4 = .ok (.aload_n 0, 1)) rfl (lv_at hl 0 rfl) ?_
  refine lv_lconst (v := 0) hx hb (by decide +kernel : decode cX0_init 5 = .ok (.lconst 0, 1)) (by decide) ?_
  refine n_put (k := 0) (v := .long 0) hX tc_0 w_2_148 (by decide +kernel : decode cX0_init 6 = .ok (.putfield 9, 3)) (by decide) rfl rfl (Nat.le_of_ble_eq_true rfl) hV (fun H locs hV => ?_)
  have hV : nV E A s ((h0, .inr (0, [.long 0, .int 0])) :: []) H locs := hV
  refine lv_aload_n hx hb (by decide +kernel : decode cX0_init 9 = .ok (.aload_n 0, 1)) rfl (lv_at hl 0 rfl) ?_
  refine lv_iconst (v := 0) hx hb (by decide +kernel : decode cX0_init 10 = .ok (.iconst 0, 1)) (by decide) ?_
  refine n_put (k := 1) (v := .int 0) hX tc_0 w_2_149 (by decide +kernel : decode cX0_init 11 = .ok (.putfield 15, 3)) (by decide) rfl rfl (Nat.le_of_ble_eq_true rfl) hV (fun H locs hV => ?_)
  have hV : nV E A s ((h0, .inr (0, [.long 0, .int 0])) :: []) H locs := hV
  exact n_ret (Wd := nW0 E) (as := []) hX hAe hr (fun k => ([h0] : List Nat).getD k 0) rfl hV (Nat.le_of_ble_eq_true rfl) (Nat.le_of_ble_eq_true rfl) (by decide +kernel : decode cX0_init 14 = .ok (.return_, 1))
def nW2 (E : tE) (a : Nat → Nat) : va_W := (a 0, .inr (2, [.ref (a 1), .int 0, .ref (a 3)])) :: [(a 1, .inl (E.2.1 0, 1000, .inl fun _ => 0)), (a 3, .inl (E.2.1 0, 28, .inl fun _ => 0))]
set_option maxRecDepth 100000 in
theorem n_X2 (l : Launch) (E : tE) : nCon l E yX2_init cX2_init 1 (nR 1 2 1028) 2 fdX2 [] (nW2 E) := by
  refine n_con (by decide +kernel) rfl (fun _ => Nat.le_of_ble_eq_true rfl) ?_
  intro h0 p e s m below meth c A ls hAe hX hr hV hl
  have hx := hX.1
  have hb := hX.2.1
  have hl : lv_has ls 1 [(0, .ref h0)] := hl
  refine n_super (idx := 3) (h0 := h0) hX w_1_107 w_1_31 w_1_32 (by decide +kernel : decode cX2_init 0 = .ok (.aload_n 0, 1)) (by decide +kernel : decode cX2_init 1 = .ok (.invokespecial 3, 3)) hl rfl (Nat.le_of_ble_eq_true rfl) (Nat.le_of_ble_eq_true rfl) ?_
  have hV : nV E A s ((h0, .inr (2, [.null, .int 0, .null])) :: []) s.heap [] := hV
  refine lv_aload_n hx hb (by decide +kernel : decode cX2_init 4 = .ok (.aload_n 0, 1)) rfl (lv_at hl 0 rfl) ?_
  refine lv_sipush (v := 1000) hx hb (by decide +kernel : decode cX2_init 5 = .ok (.sipush 1000, 3)) (by decide) ?_
  refine n_newa (t0 := 0) (ty := .int) (atype := .int) (N' := 1000) (n := 1000) (a0 := (1000, .inl fun _ => 0)) hX rfl (n_nm fun _ h => h) w_1_118 rfl (fun _ => rfl) (by decide) (by decide) (by decide) (Nat.le_of_ble_eq_true rfl) (Nat.le_of_ble_eq_true rfl) (by decide +kernel : decode cX2_init 8 = .ok (.newarray .int, 2)) hV (fun q1 H hV => ?_)
  have hV : nV E A s ((h0, .inr (2, [.null, .int 0, .null])) :: [(q1, .inl (E.2.1 0, 1000, .inl fun _ => 0))]) H [] := hV
  refine n_put (k := 0) (v := .ref q1) hX tc_2 w_1_108 (by decide +kernel : decode cX2_init 10 = .ok (.putfield 9, 3)) (by decide) rfl rfl (Nat.le_of_ble_eq_true rfl) hV (fun H locs hV => ?_)
  have hV : nV E A s ((h0, .inr (2, [.ref q1, .int 0, .null])) :: [(q1, .inl (E.2.1 0, 1000, .inl fun _ => 0))]) H locs := hV
  refine lv_aload_n hx hb (by decide +kernel : decode cX2_init 13 = .ok (.aload_n 0, 1)) rfl (lv_at hl 0 rfl) ?_
  refine lv_iconst (v := 0) hx hb (by decide +kernel : decode cX2_init 14 = .ok (.iconst 0, 1)) (by decide) ?_
  refine n_put (k := 1) (v := .int 0) hX tc_2 w_1_109 (by decide +kernel : decode cX2_init 15 = .ok (.putfield 15, 3)) (by decide) rfl rfl (Nat.le_of_ble_eq_true rfl) hV (fun H locs hV => ?_)
  have hV : nV E A s ((h0, .inr (2, [.ref q1, .int 0, .null])) :: [(q1, .inl (E.2.1 0, 1000, .inl fun _ => 0))]) H locs := hV
  refine lv_aload_n hx hb (by decide +kernel : decode cX2_init 18 = .ok (.aload_n 0, 1)) rfl (lv_at hl 0 rfl) ?_
  refine lv_bipush (v := 28) hx hb (by decide +kernel : decode cX2_init 19 = .ok (.bipush 28, 2)) (by decide) ?_
  refine n_newa (t0 := 0) (ty := .int) (atype := .int) (N' := 28) (n := 28) (a0 := (28, .inl fun _ => 0)) hX rfl (n_nm fun _ h => h) w_1_118 rfl (fun _ => rfl) (by decide) (by decide) (by decide) (Nat.le_of_ble_eq_true rfl) (Nat.le_of_ble_eq_true rfl) (by decide +kernel : decode cX2_init 21 = .ok (.newarray .int, 2)) hV (fun q2 H hV => ?_)
  have hV : nV E A s ((h0, .inr (2, [.ref q1, .int 0, .null])) :: [(q1, .inl (E.2.1 0, 1000, .inl fun _ => 0)), (q2, .inl (E.2.1 0, 28, .inl fun _ => 0))]) H locs := hV
  refine n_put (k := 2) (v := .ref q2) hX tc_2 w_1_110 (by decide +kernel : decode cX2_init 23 = .ok (.putfield 19, 3)) (by decide) rfl rfl (Nat.le_of_ble_eq_true rfl) hV (fun H locs hV => ?_)
  have hV : nV E A s ((h0, .inr (2, [.ref q1, .int 0, .ref q2])) :: [(q1, .inl (E.2.1 0, 1000, .inl fun _ => 0)), (q2, .inl (E.2.1 0, 28, .inl fun _ => 0))]) H locs := hV
  exact n_ret (Wd := nW2 E) (as := []) hX hAe hr (fun k => ([h0, q1, 0, q2] : List Nat).getD k 0) rfl hV (Nat.le_of_ble_eq_true rfl) (Nat.le_of_ble_eq_true rfl) (by decide +kernel : decode cX2_init 26 = .ok (.return_, 1))
def nW3 (E : tE) (a : Nat → Nat) : va_W := (a 0, .inr (3, [.ref (a 1), .ref (a 2), .ref (a 3), .int 0])) :: [(a 1, .inl (E.2.1 0, 5, .inl fun _ => 0)), (a 2, .inl (E.2.1 0, 5, .inl fun _ => 0)), (a 3, .inl (E.2.1 0, 32, .inl fun _ => 0))]
set_option maxRecDepth 100000 in
theorem n_X3 (l : Launch) (E : tE) : nCon l E yX3_init cX3_init 1 (nR 1 3 42) 3 fdX3 [] (nW3 E) := by
  refine n_con (by decide +kernel) rfl (fun _ => Nat.le_of_ble_eq_true rfl) ?_
  intro h0 p e s m below meth c A ls hAe hX hr hV hl
  have hx := hX.1
  have hb := hX.2.1
  have hl : lv_has ls 1 [(0, .ref h0)] := hl
  refine n_super (idx := 3) (h0 := h0) hX w_2_94 w_1_31 w_1_32 (by decide +kernel : decode cX3_init 0 = .ok (.aload_n 0, 1)) (by decide +kernel : decode cX3_init 1 = .ok (.invokespecial 3, 3)) hl rfl (Nat.le_of_ble_eq_true rfl) (Nat.le_of_ble_eq_true rfl) ?_
  have hV : nV E A s ((h0, .inr (3, [.null, .null, .null, .int 0])) :: []) s.heap [] := hV
  refine lv_aload_n hx hb (by decide +kernel : decode cX3_init 4 = .ok (.aload_n 0, 1)) rfl (lv_at hl 0 rfl) ?_
  refine lv_iconst (v := 5) hx hb (by decide +kernel : decode cX3_init 5 = .ok (.iconst 5, 1)) (by decide) ?_
  refine n_newa (t0 := 0) (ty := .int) (atype := .int) (N' := 5) (n := 5) (a0 := (5, .inl fun _ => 0)) hX rfl (n_nm fun _ h => h) w_1_118 rfl (fun _ => rfl) (by decide) (by decide) (by decide) (Nat.le_of_ble_eq_true rfl) (Nat.le_of_ble_eq_true rfl) (by decide +kernel : decode cX3_init 6 = .ok (.newarray .int, 2)) hV (fun q1 H hV => ?_)
  have hV : nV E A s ((h0, .inr (3, [.null, .null, .null, .int 0])) :: [(q1, .inl (E.2.1 0, 5, .inl fun _ => 0))]) H [] := hV
  refine n_put (k := 0) (v := .ref q1) hX tc_3 w_2_95 (by decide +kernel : decode cX3_init 8 = .ok (.putfield 9, 3)) (by decide) rfl rfl (Nat.le_of_ble_eq_true rfl) hV (fun H locs hV => ?_)
  have hV : nV E A s ((h0, .inr (3, [.ref q1, .null, .null, .int 0])) :: [(q1, .inl (E.2.1 0, 5, .inl fun _ => 0))]) H locs := hV
  refine lv_aload_n hx hb (by decide +kernel : decode cX3_init 11 = .ok (.aload_n 0, 1)) rfl (lv_at hl 0 rfl) ?_
  refine lv_iconst (v := 5) hx hb (by decide +kernel : decode cX3_init 12 = .ok (.iconst 5, 1)) (by decide) ?_
  refine n_newa (t0 := 0) (ty := .int) (atype := .int) (N' := 5) (n := 5) (a0 := (5, .inl fun _ => 0)) hX rfl (n_nm fun _ h => h) w_1_118 rfl (fun _ => rfl) (by decide) (by decide) (by decide) (Nat.le_of_ble_eq_true rfl) (Nat.le_of_ble_eq_true rfl) (by decide +kernel : decode cX3_init 13 = .ok (.newarray .int, 2)) hV (fun q2 H hV => ?_)
  have hV : nV E A s ((h0, .inr (3, [.ref q1, .null, .null, .int 0])) :: [(q1, .inl (E.2.1 0, 5, .inl fun _ => 0)), (q2, .inl (E.2.1 0, 5, .inl fun _ => 0))]) H locs := hV
  refine n_put (k := 1) (v := .ref q2) hX tc_3 w_2_96 (by decide +kernel : decode cX3_init 15 = .ok (.putfield 15, 3)) (by decide) rfl rfl (Nat.le_of_ble_eq_true rfl) hV (fun H locs hV => ?_)
  have hV : nV E A s ((h0, .inr (3, [.ref q1, .ref q2, .null, .int 0])) :: [(q1, .inl (E.2.1 0, 5, .inl fun _ => 0)), (q2, .inl (E.2.1 0, 5, .inl fun _ => 0))]) H locs := hV
  refine lv_aload_n hx hb (by decide +kernel : decode cX3_init 18 = .ok (.aload_n 0, 1)) rfl (lv_at hl 0 rfl) ?_
  refine lv_bipush (v := 32) hx hb (by decide +kernel : decode cX3_init 19 = .ok (.bipush 32, 2)) (by decide) ?_
  refine n_newa (t0 := 0) (ty := .int) (atype := .int) (N' := 32) (n := 32) (a0 := (32, .inl fun _ => 0)) hX rfl (n_nm fun _ h => h) w_1_118 rfl (fun _ => rfl) (by decide) (by decide) (by decide) (Nat.le_of_ble_eq_true rfl) (Nat.le_of_ble_eq_true rfl) (by decide +kernel : decode cX3_init 21 = .ok (.newarray .int, 2)) hV (fun q3 H hV => ?_)
  have hV : nV E A s ((h0, .inr (3, [.ref q1, .ref q2, .null, .int 0])) :: [(q1, .inl (E.2.1 0, 5, .inl fun _ => 0)), (q2, .inl (E.2.1 0, 5, .inl fun _ => 0)), (q3, .inl (E.2.1 0, 32, .inl fun _ => 0))]) H locs := hV
  refine n_put (k := 2) (v := .ref q3) hX tc_3 w_2_97 (by decide +kernel : decode cX3_init 23 = .ok (.putfield 18, 3)) (by decide) rfl rfl (Nat.le_of_ble_eq_true rfl) hV (fun H locs hV => ?_)
  have hV : nV E A s ((h0, .inr (3, [.ref q1, .ref q2, .ref q3, .int 0])) :: [(q1, .inl (E.2.1 0, 5, .inl fun _ => 0)), (q2, .inl (E.2.1 0, 5, .inl fun _ => 0)), (q3, .inl (E.2.1 0, 32, .inl fun _ => 0))]) H locs := hV
  refine lv_aload_n hx hb (by decide +kernel : decode cX3_init 26 = .ok (.aload_n 0, 1)) rfl (lv_at hl 0 rfl) ?_
  refine lv_iconst (v := 0) hx hb (by decide +kernel : decode cX3_init 27 = .ok (.iconst 0, 1)) (by decide) ?_
  refine n_put (k := 3) (v := .int 0) hX tc_3 w_2_98 (by decide +kernel : decode cX3_init 28 = .ok (.putfield 21, 3)) (by decide) rfl rfl (Nat.le_of_ble_eq_true rfl) hV (fun H locs hV => ?_)
  have hV : nV E A s ((h0, .inr (3, [.ref q1, .ref q2, .ref q3, .int 0])) :: [(q1, .inl (E.2.1 0, 5, .inl fun _ => 0)), (q2, .inl (E.2.1 0, 5, .inl fun _ => 0)), (q3, .inl (E.2.1 0, 32, .inl fun _ => 0))]) H locs := hV
  exact n_ret (Wd := nW3 E) (as := []) hX hAe hr (fun k => ([h0, q1, q2, q3] : List Nat).getD k 0) rfl hV (Nat.le_of_ble_eq_true rfl) (Nat.le_of_ble_eq_true rfl) (by decide +kernel : decode cX3_init 31 = .ok (.return_, 1))
def nW4 (E : tE) (a : Nat → Nat) : va_W := (a 0, .inr (4, [.int 0, .ref (a 2), .ref (a 3), .ref (a 4)])) :: [(a 2, .inl (E.2.1 0, 40, .inl fun _ => 0)), (a 3, .inl (E.2.1 0, 40, .inl fun _ => 0)), (a 4, .inl (E.2.1 0, 40, .inl fun _ => 0))]
set_option maxRecDepth 100000 in
theorem n_X4 (l : Launch) (E : tE) : nCon l E yX4_init cX4_init 1 (nR 1 3 120) 4 fdX4 [] (nW4 E) := by
  refine n_con (by decide +kernel) rfl (fun _ => Nat.le_of_ble_eq_true rfl) ?_
  intro h0 p e s m below meth c A ls hAe hX hr hV hl
  have hx := hX.1
  have hb := hX.2.1
  have hl : lv_has ls 1 [(0, .ref h0)] := hl
  refine n_super (idx := 3) (h0 := h0) hX w_1_220 w_1_31 w_1_32 (by decide +kernel : decode cX4_init 0 = .ok (.aload_n 0, 1)) (by decide +kernel : decode cX4_init 1 = .ok (.invokespecial 3, 3)) hl rfl (Nat.le_of_ble_eq_true rfl) (Nat.le_of_ble_eq_true rfl) ?_
  have hV : nV E A s ((h0, .inr (4, [.int 0, .null, .null, .null])) :: []) s.heap [] := hV
  refine lv_aload_n hx hb (by decide +kernel : decode cX4_init 4 = .ok (.aload_n 0, 1)) rfl (lv_at hl 0 rfl) ?_
  refine lv_iconst (v := 0) hx hb (by decide +kernel : decode cX4_init 5 = .ok (.iconst 0, 1)) (by decide) ?_
  refine n_put (k := 0) (v := .int 0) hX tc_4 w_1_221 (by decide +kernel : decode cX4_init 6 = .ok (.putfield 9, 3)) (by decide) rfl rfl (Nat.le_of_ble_eq_true rfl) hV (fun H locs hV => ?_)
  have hV : nV E A s ((h0, .inr (4, [.int 0, .null, .null, .null])) :: []) H locs := hV
  refine lv_aload_n hx hb (by decide +kernel : decode cX4_init 9 = .ok (.aload_n 0, 1)) rfl (lv_at hl 0 rfl) ?_
  refine lv_bipush (v := 40) hx hb (by decide +kernel : decode cX4_init 10 = .ok (.bipush 40, 2)) (by decide) ?_
  refine n_newa (t0 := 0) (ty := .int) (atype := .int) (N' := 40) (n := 40) (a0 := (40, .inl fun _ => 0)) hX rfl (n_nm fun _ h => h) w_1_118 rfl (fun _ => rfl) (by decide) (by decide) (by decide) (Nat.le_of_ble_eq_true rfl) (Nat.le_of_ble_eq_true rfl) (by decide +kernel : decode cX4_init 12 = .ok (.newarray .int, 2)) hV (fun q1 H hV => ?_)
  have hV : nV E A s ((h0, .inr (4, [.int 0, .null, .null, .null])) :: [(q1, .inl (E.2.1 0, 40, .inl fun _ => 0))]) H locs := hV
  refine n_put (k := 1) (v := .ref q1) hX tc_4 w_1_223 (by decide +kernel : decode cX4_init 14 = .ok (.putfield 15, 3)) (by decide) rfl rfl (Nat.le_of_ble_eq_true rfl) hV (fun H locs hV => ?_)
  have hV : nV E A s ((h0, .inr (4, [.int 0, .ref q1, .null, .null])) :: [(q1, .inl (E.2.1 0, 40, .inl fun _ => 0))]) H locs := hV
  refine lv_aload_n hx hb (by decide +kernel : decode cX4_init 17 = .ok (.aload_n 0, 1)) rfl (lv_at hl 0 rfl) ?_
  refine lv_bipush (v := 40) hx hb (by decide +kernel : decode cX4_init 18 = .ok (.bipush 40, 2)) (by decide) ?_
  refine n_newa (t0 := 0) (ty := .int) (atype := .int) (N' := 40) (n := 40) (a0 := (40, .inl fun _ => 0)) hX rfl (n_nm fun _ h => h) w_1_118 rfl (fun _ => rfl) (by decide) (by decide) (by decide) (Nat.le_of_ble_eq_true rfl) (Nat.le_of_ble_eq_true rfl) (by decide +kernel : decode cX4_init 20 = .ok (.newarray .int, 2)) hV (fun q2 H hV => ?_)
  have hV : nV E A s ((h0, .inr (4, [.int 0, .ref q1, .null, .null])) :: [(q1, .inl (E.2.1 0, 40, .inl fun _ => 0)), (q2, .inl (E.2.1 0, 40, .inl fun _ => 0))]) H locs := hV
  refine n_put (k := 2) (v := .ref q2) hX tc_4 w_1_224 (by decide +kernel : decode cX4_init 22 = .ok (.putfield 19, 3)) (by decide) rfl rfl (Nat.le_of_ble_eq_true rfl) hV (fun H locs hV => ?_)
  have hV : nV E A s ((h0, .inr (4, [.int 0, .ref q1, .ref q2, .null])) :: [(q1, .inl (E.2.1 0, 40, .inl fun _ => 0)), (q2, .inl (E.2.1 0, 40, .inl fun _ => 0))]) H locs := hV
  refine lv_aload_n hx hb (by decide +kernel : decode cX4_init 25 = .ok (.aload_n 0, 1)) rfl (lv_at hl 0 rfl) ?_
  refine lv_bipush (v := 40) hx hb (by decide +kernel : decode cX4_init 26 = .ok (.bipush 40, 2)) (by decide) ?_
  refine n_newa (t0 := 0) (ty := .int) (atype := .int) (N' := 40) (n := 40) (a0 := (40, .inl fun _ => 0)) hX rfl (n_nm fun _ h => h) w_1_118 rfl (fun _ => rfl) (by decide) (by decide) (by decide) (Nat.le_of_ble_eq_true rfl) (Nat.le_of_ble_eq_true rfl) (by decide +kernel : decode cX4_init 28 = .ok (.newarray .int, 2)) hV (fun q3 H hV => ?_)
  have hV : nV E A s ((h0, .inr (4, [.int 0, .ref q1, .ref q2, .null])) :: [(q1, .inl (E.2.1 0, 40, .inl fun _ => 0)), (q2, .inl (E.2.1 0, 40, .inl fun _ => 0)), (q3, .inl (E.2.1 0, 40, .inl fun _ => 0))]) H locs := hV
  refine n_put (k := 3) (v := .ref q3) hX tc_4 w_1_225 (by decide +kernel : decode cX4_init 30 = .ok (.putfield 22, 3)) (by decide) rfl rfl (Nat.le_of_ble_eq_true rfl) hV (fun H locs hV => ?_)
  have hV : nV E A s ((h0, .inr (4, [.int 0, .ref q1, .ref q2, .ref q3])) :: [(q1, .inl (E.2.1 0, 40, .inl fun _ => 0)), (q2, .inl (E.2.1 0, 40, .inl fun _ => 0)), (q3, .inl (E.2.1 0, 40, .inl fun _ => 0))]) H locs := hV
  exact n_ret (Wd := nW4 E) (as := []) hX hAe hr (fun k => ([h0, 0, q1, q2, q3] : List Nat).getD k 0) rfl hV (Nat.le_of_ble_eq_true rfl) (Nat.le_of_ble_eq_true rfl) (by decide +kernel : decode cX4_init 33 = .ok (.return_, 1))
def nW8 (E : tE) (a : Nat → Nat) : va_W := (a 0, .inr (8, [.ref (a 1), .int 0, .int 0, .int 0, .int 0, .long 0, .int 0, .int 32, .int 0])) :: [(a 1, .inl (E.2.1 2, 1000, .inl fun _ => 0))]
set_option maxRecDepth 100000 in
theorem n_X8 (l : Launch) (E : tE) : nCon l E yX8_init cX8_init 1 (nR 1 1 1000) 8 fdX8 [] (nW8 E) := by
  refine n_con (by decide +kernel) rfl (fun _ => Nat.le_of_ble_eq_true rfl) ?_
  intro h0 p e s m below meth c A ls hAe hX hr hV hl
  have hx := hX.1
  have hb := hX.2.1
  have hl : lv_has ls 1 [(0, .ref h0)] := hl
  refine n_super (idx := 3) (h0 := h0) hX w_1_38 w_1_31 w_1_32 (by decide +kernel : decode cX8_init 0 = .ok (.aload_n 0, 1)) (by decide +kernel : decode cX8_init 1 = .ok (.invokespecial 3, 3)) hl rfl (Nat.le_of_ble_eq_true rfl) (Nat.le_of_ble_eq_true rfl) ?_
  have hV : nV E A s ((h0, .inr (8, [.null, .int 0, .int 0, .int 0, .int 0, .long 0, .int 0, .int 0, .int 0])) :: []) s.heap [] := hV
  refine lv_aload_n hx hb (by decide +kernel : decode cX8_init 4 = .ok (.aload_n 0, 1)) rfl (lv_at hl 0 rfl) ?_
  refine lv_sipush (v := 1000) hx hb (by decide +kernel : decode cX8_init 5 = .ok (.sipush 1000, 3)) (by decide) ?_
  refine n_newa (t0 := 2) (ty := .char) (atype := .char) (N' := 1000) (n := 1000) (a0 := (1000, .inl fun _ => 0)) hX rfl (n_nm fun _ h => h) w_1_73 rfl (fun _ => rfl) (by decide) (by decide) (by decide) (Nat.le_of_ble_eq_true rfl) (Nat.le_of_ble_eq_true rfl) (by decide +kernel : decode cX8_init 8 = .ok (.newarray .char, 2)) hV (fun q1 H hV => ?_)
  have hV : nV E A s ((h0, .inr (8, [.null, .int 0, .int 0, .int 0, .int 0, .long 0, .int 0, .int 0, .int 0])) :: [(q1, .inl (E.2.1 2, 1000, .inl fun _ => 0))]) H [] := hV
  refine n_put (k := 0) (v := .ref q1) hX tc_8 w_1_39 (by decide +kernel : decode cX8_init 10 = .ok (.putfield 9, 3)) (by decide) rfl rfl (Nat.le_of_ble_eq_true rfl) hV (fun H locs hV => ?_)
  have hV : nV E A s ((h0, .inr (8, [.ref q1, .int 0, .int 0, .int 0, .int 0, .long 0, .int 0, .int 0, .int 0])) :: [(q1, .inl (E.2.1 2, 1000, .inl fun _ => 0))]) H locs := hV
  refine lv_aload_n hx hb (by decide +kernel : decode cX8_init 13 = .ok (.aload_n 0, 1)) rfl (lv_at hl 0 rfl) ?_
  refine lv_iconst (v := 0) hx hb (by decide +kernel : decode cX8_init 14 = .ok (.iconst 0, 1)) (by decide) ?_
  refine n_put (k := 1) (v := .int 0) hX tc_8 w_1_40 (by decide +kernel : decode cX8_init 15 = .ok (.putfield 15, 3)) (by decide) rfl rfl (Nat.le_of_ble_eq_true rfl) hV (fun H locs hV => ?_)
  have hV : nV E A s ((h0, .inr (8, [.ref q1, .int 0, .int 0, .int 0, .int 0, .long 0, .int 0, .int 0, .int 0])) :: [(q1, .inl (E.2.1 2, 1000, .inl fun _ => 0))]) H locs := hV
  refine lv_aload_n hx hb (by decide +kernel : decode cX8_init 18 = .ok (.aload_n 0, 1)) rfl (lv_at hl 0 rfl) ?_
  refine lv_iconst (v := 0) hx hb (by decide +kernel : decode cX8_init 19 = .ok (.iconst 0, 1)) (by decide) ?_
  refine n_put (k := 2) (v := .int 0) hX tc_8 w_1_42 (by decide +kernel : decode cX8_init 20 = .ok (.putfield 19, 3)) (by decide) rfl rfl (Nat.le_of_ble_eq_true rfl) hV (fun H locs hV => ?_)
  have hV : nV E A s ((h0, .inr (8, [.ref q1, .int 0, .int 0, .int 0, .int 0, .long 0, .int 0, .int 0, .int 0])) :: [(q1, .inl (E.2.1 2, 1000, .inl fun _ => 0))]) H locs := hV
  refine lv_aload_n hx hb (by decide +kernel : decode cX8_init 23 = .ok (.aload_n 0, 1)) rfl (lv_at hl 0 rfl) ?_
  refine lv_iconst (v := 0) hx hb (by decide +kernel : decode cX8_init 24 = .ok (.iconst 0, 1)) (by decide) ?_
  refine n_put (k := 3) (v := .int 0) hX tc_8 w_1_43 (by decide +kernel : decode cX8_init 25 = .ok (.putfield 22, 3)) (by decide) rfl rfl (Nat.le_of_ble_eq_true rfl) hV (fun H locs hV => ?_)
  have hV : nV E A s ((h0, .inr (8, [.ref q1, .int 0, .int 0, .int 0, .int 0, .long 0, .int 0, .int 0, .int 0])) :: [(q1, .inl (E.2.1 2, 1000, .inl fun _ => 0))]) H locs := hV
  refine lv_aload_n hx hb (by decide +kernel : decode cX8_init 28 = .ok (.aload_n 0, 1)) rfl (lv_at hl 0 rfl) ?_
  refine lv_iconst (v := 0) hx hb (by decide +kernel : decode cX8_init 29 = .ok (.iconst 0, 1)) (by decide) ?_
  refine n_put (k := 4) (v := .int 0) hX tc_8 w_1_44 (by decide +kernel : decode cX8_init 30 = .ok (.putfield 25, 3)) (by decide) rfl rfl (Nat.le_of_ble_eq_true rfl) hV (fun H locs hV => ?_)
  have hV : nV E A s ((h0, .inr (8, [.ref q1, .int 0, .int 0, .int 0, .int 0, .long 0, .int 0, .int 0, .int 0])) :: [(q1, .inl (E.2.1 2, 1000, .inl fun _ => 0))]) H locs := hV
  refine lv_aload_n hx hb (by decide +kernel : decode cX8_init 33 = .ok (.aload_n 0, 1)) rfl (lv_at hl 0 rfl) ?_
  refine lv_lconst (v := 0) hx hb (by decide +kernel : decode cX8_init 34 = .ok (.lconst 0, 1)) (by decide) ?_
  refine n_put (k := 5) (v := .long 0) hX tc_8 w_1_48 (by decide +kernel : decode cX8_init 35 = .ok (.putfield 28, 3)) (by decide) rfl rfl (Nat.le_of_ble_eq_true rfl) hV (fun H locs hV => ?_)
  have hV : nV E A s ((h0, .inr (8, [.ref q1, .int 0, .int 0, .int 0, .int 0, .long 0, .int 0, .int 0, .int 0])) :: [(q1, .inl (E.2.1 2, 1000, .inl fun _ => 0))]) H locs := hV
  refine lv_aload_n hx hb (by decide +kernel : decode cX8_init 38 = .ok (.aload_n 0, 1)) rfl (lv_at hl 0 rfl) ?_
  refine lv_iconst (v := 0) hx hb (by decide +kernel : decode cX8_init 39 = .ok (.iconst 0, 1)) (by decide) ?_
  refine n_put (k := 6) (v := .int 0) hX tc_8 w_1_50 (by decide +kernel : decode cX8_init 40 = .ok (.putfield 32, 3)) (by decide) rfl rfl (Nat.le_of_ble_eq_true rfl) hV (fun H locs hV => ?_)
  have hV : nV E A s ((h0, .inr (8, [.ref q1, .int 0, .int 0, .int 0, .int 0, .long 0, .int 0, .int 0, .int 0])) :: [(q1, .inl (E.2.1 2, 1000, .inl fun _ => 0))]) H locs := hV
  refine lv_aload_n hx hb (by decide +kernel : decode cX8_init 43 = .ok (.aload_n 0, 1)) rfl (lv_at hl 0 rfl) ?_
  refine lv_bipush (v := 32) hx hb (by decide +kernel : decode cX8_init 44 = .ok (.bipush 32, 2)) (by decide) ?_
  refine n_put (k := 7) (v := .int 32) hX tc_8 w_1_52 (by decide +kernel : decode cX8_init 46 = .ok (.putfield 35, 3)) (by decide) rfl rfl (Nat.le_of_ble_eq_true rfl) hV (fun H locs hV => ?_)
  have hV : nV E A s ((h0, .inr (8, [.ref q1, .int 0, .int 0, .int 0, .int 0, .long 0, .int 0, .int 32, .int 0])) :: [(q1, .inl (E.2.1 2, 1000, .inl fun _ => 0))]) H locs := hV
  refine lv_aload_n hx hb (by decide +kernel : decode cX8_init 49 = .ok (.aload_n 0, 1)) rfl (lv_at hl 0 rfl) ?_
  refine lv_iconst (v := 0) hx hb (by decide +kernel : decode cX8_init 50 = .ok (.iconst 0, 1)) (by decide) ?_
  refine n_put (k := 8) (v := .int 0) hX tc_8 w_1_53 (by decide +kernel : decode cX8_init 51 = .ok (.putfield 39, 3)) (by decide) rfl rfl (Nat.le_of_ble_eq_true rfl) hV (fun H locs hV => ?_)
  have hV : nV E A s ((h0, .inr (8, [.ref q1, .int 0, .int 0, .int 0, .int 0, .long 0, .int 0, .int 32, .int 0])) :: [(q1, .inl (E.2.1 2, 1000, .inl fun _ => 0))]) H locs := hV
  exact n_ret (Wd := nW8 E) (as := []) hX hAe hr (fun k => ([h0, q1] : List Nat).getD k 0) rfl hV (Nat.le_of_ble_eq_true rfl) (Nat.le_of_ble_eq_true rfl) (by decide +kernel : decode cX8_init 54 = .ok (.return_, 1))
def nW1 (E : tE) (hp : Nat) (a : Nat → Nat) : va_W := (a 0, .inr (1, [.ref hp, .int 0, .int 0, .int 0, .ref (a 5), .ref (a 6), .int (-1), .int (-1)])) :: [(a 5, .inl (E.2.1 0, 5, .inl fun _ => 0)), (a 6, .inl (E.2.1 0, 5, .inl fun _ => 0))]
set_option maxRecDepth 100000 in
theorem n_X1 (l : Launch) (E : tE) (hp : Nat) : nCon l E yX1_init cX1_init 2 (nR 1 2 10) 1 fdX1 [.ref hp] (nW1 E hp) := by
  refine n_con (by decide +kernel) rfl (fun _ => Nat.le_of_ble_eq_true rfl) ?_
  intro h0 p e s m below meth c A ls hAe hX hr hV hl
  have hx := hX.1
  have hb := hX.2.1
  have hl : lv_has ls 2 [(0, .ref h0), (1, .ref hp)] := hl
  refine n_super (idx := 3) (h0 := h0) hX w_2_113 w_1_31 w_1_32 (by decide +kernel : decode cX1_init 0 = .ok (.aload_n 0, 1)) (by decide +kernel : decode cX1_init 1 = .ok (.invokespecial 3, 3)) hl rfl (Nat.le_of_ble_eq_true rfl) (Nat.le_of_ble_eq_true rfl) ?_
  have hV : nV E A s ((h0, .inr (1, [.null, .int 0, .int 0, .int 0, .null, .null, .int 0, .int 0])) :: []) s.heap [] := hV
  refine lv_aload_n hx hb (by decide +kernel : decode cX1_init 4 = .ok (.aload_n 0, 1)) rfl (lv_at hl 0 rfl) ?_
  refine lv_iconst (v := 0) hx hb (by decide +kernel : decode cX1_init 5 = .ok (.iconst 0, 1)) (by decide) ?_
  refine n_put (k := 1) (v := .int 0) hX tc_1 w_2_115 (by decide +kernel : decode cX1_init 6 = .ok (.putfield 9, 3)) (by decide) rfl rfl (Nat.le_of_ble_eq_true rfl) hV (fun H locs hV => ?_)
  have hV : nV E A s ((h0, .inr (1, [.null, .int 0, .int 0, .int 0, .null, .null, .int 0, .int 0])) :: []) H locs := hV
  refine lv_aload_n hx hb (by decide +kernel : decode cX1_init 9 = .ok (.aload_n 0, 1)) rfl (lv_at hl 0 rfl) ?_
  refine lv_iconst (v := 0) hx hb (by decide +kernel : decode cX1_init 10 = .ok (.iconst 0, 1)) (by decide) ?_
  refine n_put (k := 2) (v := .int 0) hX tc_1 w_2_116 (by decide +kernel : decode cX1_init 11 = .ok (.putfield 15, 3)) (by decide) rfl rfl (Nat.le_of_ble_eq_true rfl) hV (fun H locs hV => ?_)
  have hV : nV E A s ((h0, .inr (1, [.null, .int 0, .int 0, .int 0, .null, .null, .int 0, .int 0])) :: []) H locs := hV
  refine lv_aload_n hx hb (by decide +kernel : decode cX1_init 14 = .ok (.aload_n 0, 1)) rfl (lv_at hl 0 rfl) ?_
  refine lv_iconst (v := 0) hx hb (by decide +kernel : decode cX1_init 15 = .ok (.iconst 0, 1)) (by decide) ?_
  refine n_put (k := 3) (v := .int 0) hX tc_1 w_2_117 (by decide +kernel : decode cX1_init 16 = .ok (.putfield 18, 3)) (by decide) rfl rfl (Nat.le_of_ble_eq_true rfl) hV (fun H locs hV => ?_)
  have hV : nV E A s ((h0, .inr (1, [.null, .int 0, .int 0, .int 0, .null, .null, .int 0, .int 0])) :: []) H locs := hV
  refine lv_aload_n hx hb (by decide +kernel : decode cX1_init 19 = .ok (.aload_n 0, 1)) rfl (lv_at hl 0 rfl) ?_
  refine lv_iconst (v := 5) hx hb (by decide +kernel : decode cX1_init 20 = .ok (.iconst 5, 1)) (by decide) ?_
  refine n_newa (t0 := 0) (ty := .int) (atype := .int) (N' := 5) (n := 5) (a0 := (5, .inl fun _ => 0)) hX rfl (n_nm fun _ h => h) w_1_118 rfl (fun _ => rfl) (by decide) (by decide) (by decide) (Nat.le_of_ble_eq_true rfl) (Nat.le_of_ble_eq_true rfl) (by decide +kernel : decode cX1_init 21 = .ok (.newarray .int, 2)) hV (fun q1 H hV => ?_)
  have hV : nV E A s ((h0, .inr (1, [.null, .int 0, .int 0, .int 0, .null, .null, .int 0, .int 0])) :: [(q1, .inl (E.2.1 0, 5, .inl fun _ => 0))]) H locs := hV
  refine n_put (k := 4) (v := .ref q1) hX tc_1 w_2_118 (by decide +kernel : decode cX1_init 23 = .ok (.putfield 21, 3)) (by decide) rfl rfl (Nat.le_of_ble_eq_true rfl) hV (fun H locs hV => ?_)
  have hV : nV E A s ((h0, .inr (1, [.null, .int 0, .int 0, .int 0, .ref q1, .null, .int 0, .int 0])) :: [(q1, .inl (E.2.1 0, 5, .inl fun _ => 0))]) H locs := hV
  refine lv_aload_n hx hb (by decide +kernel : decode cX1_init 26 = .ok (.aload_n 0, 1)) rfl (lv_at hl 0 rfl) ?_
  refine lv_iconst (v := 5) hx hb (by decide +kernel : decode cX1_init 27 = .ok (.iconst 5, 1)) (by decide) ?_
  refine n_newa (t0 := 0) (ty := .int) (atype := .int) (N' := 5) (n := 5) (a0 := (5, .inl fun _ => 0)) hX rfl (n_nm fun _ h => h) w_1_118 rfl (fun _ => rfl) (by decide) (by decide) (by decide) (Nat.le_of_ble_eq_true rfl) (Nat.le_of_ble_eq_true rfl) (by decide +kernel : decode cX1_init 28 = .ok (.newarray .int, 2)) hV (fun q2 H hV => ?_)
  have hV : nV E A s ((h0, .inr (1, [.null, .int 0, .int 0, .int 0, .ref q1, .null, .int 0, .int 0])) :: [(q1, .inl (E.2.1 0, 5, .inl fun _ => 0)), (q2, .inl (E.2.1 0, 5, .inl fun _ => 0))]) H locs := hV
  refine n_put (k := 5) (v := .ref q2) hX tc_1 w_2_119 (by decide +kernel : decode cX1_init 30 = .ok (.putfield 25, 3)) (by decide) rfl rfl (Nat.le_of_ble_eq_true rfl) hV (fun H locs hV => ?_)
  have hV : nV E A s ((h0, .inr (1, [.null, .int 0, .int 0, .int 0, .ref q1, .ref q2, .int 0, .int 0])) :: [(q1, .inl (E.2.1 0, 5, .inl fun _ => 0)), (q2, .inl (E.2.1 0, 5, .inl fun _ => 0))]) H locs := hV
  refine lv_aload_n hx hb (by decide +kernel : decode cX1_init 33 = .ok (.aload_n 0, 1)) rfl (lv_at hl 0 rfl) ?_
  refine lv_iconst (v := (-1)) hx hb (by decide +kernel : decode cX1_init 34 = .ok (.iconst (-1), 1)) (by decide) ?_
  refine n_put (k := 6) (v := .int (-1)) hX tc_1 w_2_121 (by decide +kernel : decode cX1_init 35 = .ok (.putfield 28, 3)) (by decide) rfl rfl (Nat.le_of_ble_eq_true rfl) hV (fun H locs hV => ?_)
  have hV : nV E A s ((h0, .inr (1, [.null, .int 0, .int 0, .int 0, .ref q1, .ref q2, .int (-1), .int 0])) :: [(q1, .inl (E.2.1 0, 5, .inl fun _ => 0)), (q2, .inl (E.2.1 0, 5, .inl fun _ => 0))]) H locs := hV
  refine lv_aload_n hx hb (by decide +kernel : decode cX1_init 38 = .ok (.aload_n 0, 1)) rfl (lv_at hl 0 rfl) ?_
  refine lv_iconst (v := (-1)) hx hb (by decide +kernel : decode cX1_init 39 = .ok (.iconst (-1), 1)) (by decide) ?_
  refine n_put (k := 7) (v := .int (-1)) hX tc_1 w_2_123 (by decide +kernel : decode cX1_init 40 = .ok (.putfield 31, 3)) (by decide) rfl rfl (Nat.le_of_ble_eq_true rfl) hV (fun H locs hV => ?_)
  have hV : nV E A s ((h0, .inr (1, [.null, .int 0, .int 0, .int 0, .ref q1, .ref q2, .int (-1), .int (-1)])) :: [(q1, .inl (E.2.1 0, 5, .inl fun _ => 0)), (q2, .inl (E.2.1 0, 5, .inl fun _ => 0))]) H locs := hV
  refine lv_aload_n hx hb (by decide +kernel : decode cX1_init 43 = .ok (.aload_n 0, 1)) rfl (lv_at hl 0 rfl) ?_
  refine lv_aload_n hx hb (by decide +kernel : decode cX1_init 44 = .ok (.aload_n 1, 1)) rfl (lv_at hl 1 rfl) ?_
  refine n_put (k := 0) (v := .ref hp) hX tc_1 w_2_114 (by decide +kernel : decode cX1_init 45 = .ok (.putfield 34, 3)) (by decide) rfl rfl (Nat.le_of_ble_eq_true rfl) hV (fun H locs hV => ?_)
  have hV : nV E A s ((h0, .inr (1, [.ref hp, .int 0, .int 0, .int 0, .ref q1, .ref q2, .int (-1), .int (-1)])) :: [(q1, .inl (E.2.1 0, 5, .inl fun _ => 0)), (q2, .inl (E.2.1 0, 5, .inl fun _ => 0))]) H locs := hV
  exact n_ret (Wd := nW1 E hp) (as := []) hX hAe hr (fun k => ([h0, 0, 0, 0, 0, q1, q2] : List Nat).getD k 0) rfl hV (Nat.le_of_ble_eq_true rfl) (Nat.le_of_ble_eq_true rfl) (by decide +kernel : decode cX1_init 48 = .ok (.return_, 1))
def nW7 (E : tE) (hp : Nat) (a : Nat → Nat) : va_W := (a 0, .inr (7, [.ref hp, .ref (a 2), .ref (a 3), .ref (a 4), .ref (a 5), .ref (a 6), .ref (a 7), .ref (a 8), .int 0, .int 0, .int (-1), .int 0, .int 0, .int 0, .int 0])) :: [(a 2, .inl (E.2.1 0, 6, .inl fun _ => 0)), (a 3, .inl (E.2.1 0, 6, .inl fun _ => 0)), (a 4, .inl (E.2.1 0, 6, .inl fun _ => 0)), (a 5, .inl (E.2.1 0, 6, .inl fun _ => 0)), (a 6, .inl (E.2.1 0, 6, .inl fun _ => 0)), (a 7, .inl (E.2.1 0, 5, .inl fun _ => 0)), (a 8, .inl (E.2.1 0, 5, .inl fun _ => 0))]
set_option maxRecDepth 100000 in
theorem n_X7 (l : Launch) (E : tE) (hp : Nat) : nCon l E yX7_init cX7_init 2 (nR 1 7 40) 7 fdX7 [.ref hp] (nW7 E hp) := by
  refine n_con (by decide +kernel) rfl (fun _ => Nat.le_of_ble_eq_true rfl) ?_
  intro h0 p e s m below meth c A ls hAe hX hr hV hl
  have hx := hX.1
  have hb := hX.2.1
  have hl : lv_has ls 2 [(0, .ref h0), (1, .ref hp)] := hl
  refine n_super (idx := 3) (h0 := h0) hX w_2_0 w_1_31 w_1_32 (by decide +kernel : decode cX7_init 0 = .ok (.aload_n 0, 1)) (by decide +kernel : decode cX7_init 1 = .ok (.invokespecial 3, 3)) hl rfl (Nat.le_of_ble_eq_true rfl) (Nat.le_of_ble_eq_true rfl) ?_
  have hV : nV E A s ((h0, .inr (7, [.null, .null, .null, .null, .null, .null, .null, .null, .int 0, .int 0, .int 0, .int 0, .int 0, .int 0, .int 0])) :: []) s.heap [] := hV
  refine lv_aload_n hx hb (by decide +kernel : decode cX7_init 4 = .ok (.aload_n 0, 1)) rfl (lv_at hl 0 rfl) ?_
  refine lv_bipush (v := 6) hx hb (by decide +kernel : decode cX7_init 5 = .ok (.bipush 6, 2)) (by decide) ?_
  refine n_newa (t0 := 0) (ty := .int) (atype := .int) (N' := 6) (n := 6) (a0 := (6, .inl fun _ => 0)) hX rfl (n_nm fun _ h => h) w_1_118 rfl (fun _ => rfl) (by decide) (by decide) (by decide) (Nat.le_of_ble_eq_true rfl) (Nat.le_of_ble_eq_true rfl) (by decide +kernel : decode cX7_init 7 = .ok (.newarray .int, 2)) hV (fun q1 H hV => ?_)
  have hV : nV E A s ((h0, .inr (7, [.null, .null, .null, .null, .null, .null, .null, .null, .int 0, .int 0, .int 0, .int 0, .int 0, .int 0, .int 0])) :: [(q1, .inl (E.2.1 0, 6, .inl fun _ => 0))]) H [] := hV
  refine n_put (k := 1) (v := .ref q1) hX tc_7 w_2_5 (by decide +kernel : decode cX7_init 9 = .ok (.putfield 9, 3)) (by decide) rfl rfl (Nat.le_of_ble_eq_true rfl) hV (fun H locs hV => ?_)
  have hV : nV E A s ((h0, .inr (7, [.null, .ref q1, .null, .null, .null, .null, .null, .null, .int 0, .int 0, .int 0, .int 0, .int 0, .int 0, .int 0])) :: [(q1, .inl (E.2.1 0, 6, .inl fun _ => 0))]) H locs := hV
  refine lv_aload_n hx hb (by decide +kernel : decode cX7_init 12 = .ok (.aload_n 0, 1)) rfl (lv_at hl 0 rfl) ?_
  refine lv_bipush (v := 6) hx hb (by decide +kernel : decode cX7_init 13 = .ok (.bipush 6, 2)) (by decide) ?_
  refine n_newa (t0 := 0) (ty := .int) (atype := .int) (N' := 6) (n := 6) (a0 := (6, .inl fun _ => 0)) hX rfl (n_nm fun _ h => h) w_1_118 rfl (fun _ => rfl) (by decide) (by decide) (by decide) (Nat.le_of_ble_eq_true rfl) (Nat.le_of_ble_eq_true rfl) (by decide +kernel : decode cX7_init 15 = .ok (.newarray .int, 2)) hV (fun q2 H hV => ?_)
  have hV : nV E A s ((h0, .inr (7, [.null, .ref q1, .null, .null, .null, .null, .null, .null, .int 0, .int 0, .int 0, .int 0, .int 0, .int 0, .int 0])) :: [(q1, .inl (E.2.1 0, 6, .inl fun _ => 0)), (q2, .inl (E.2.1 0, 6, .inl fun _ => 0))]) H locs := hV
  refine n_put (k := 2) (v := .ref q2) hX tc_7 w_2_9 (by decide +kernel : decode cX7_init 17 = .ok (.putfield 15, 3)) (by decide) rfl rfl (Nat.le_of_ble_eq_true rfl) hV (fun H locs hV => ?_)
  have hV : nV E A s ((h0, .inr (7, [.null, .ref q1, .ref q2, .null, .null, .null, .null, .null, .int 0, .int 0, .int 0, .int 0, .int 0, .int 0, .int 0])) :: [(q1, .inl (E.2.1 0, 6, .inl fun _ => 0)), (q2, .inl (E.2.1 0, 6, .inl fun _ => 0))]) H locs := hV
  refine lv_aload_n hx hb (by decide +kernel : decode cX7_init 20 = .ok (.aload_n 0, 1)) rfl (lv_at hl 0 rfl) ?_
  refine lv_bipush (v := 6) hx hb (by decide +kernel : decode cX7_init 21 = .ok (.bipush 6, 2)) (by decide) ?_
  refine n_newa (t0 := 0) (ty := .int) (atype := .int) (N' := 6) (n := 6) (a0 := (6, .inl fun _ => 0)) hX rfl (n_nm fun _ h => h) w_1_118 rfl (fun _ => rfl) (by decide) (by decide) (by decide) (Nat.le_of_ble_eq_true rfl) (Nat.le_of_ble_eq_true rfl) (by decide +kernel : decode cX7_init 23 = .ok (.newarray .int, 2)) hV (fun q3 H hV => ?_)
  have hV : nV E A s ((h0, .inr (7, [.null, .ref q1, .ref q2, .null, .null, .null, .null, .null, .int 0, .int 0, .int 0, .int 0, .int 0, .int 0, .int 0])) :: [(q1, .inl (E.2.1 0, 6, .inl fun _ => 0)), (q2, .inl (E.2.1 0, 6, .inl fun _ => 0)), (q3, .inl (E.2.1 0, 6, .inl fun _ => 0))]) H locs := hV
  refine n_put (k := 3) (v := .ref q3) hX tc_7 w_2_14 (by decide +kernel : decode cX7_init 25 = .ok (.putfield 18, 3)) (by decide) rfl rfl (Nat.le_of_ble_eq_true rfl) hV (fun H locs hV => ?_)
  have hV : nV E A s ((h0, .inr (7, [.null, .ref q1, .ref q2, .ref q3, .null, .null, .null, .null, .int 0, .int 0, .int 0, .int 0, .int 0, .int 0, .int 0])) :: [(q1, .inl (E.2.1 0, 6, .inl fun _ => 0)), (q2, .inl (E.2.1 0, 6, .inl fun _ => 0)), (q3, .inl (E.2.1 0, 6, .inl fun _ => 0))]) H locs := hV
  refine lv_aload_n hx hb (by decide +kernel : decode cX7_init 28 = .ok (.aload_n 0, 1)) rfl (lv_at hl 0 rfl) ?_
  refine lv_bipush (v := 6) hx hb (by decide +kernel : decode cX7_init 29 = .ok (.bipush 6, 2)) (by decide) ?_
  refine n_newa (t0 := 0) (ty := .int) (atype := .int) (N' := 6) (n := 6) (a0 := (6, .inl fun _ => 0)) hX rfl (n_nm fun _ h => h) w_1_118 rfl (fun _ => rfl) (by decide) (by decide) (by decide) (Nat.le_of_ble_eq_true rfl) (Nat.le_of_ble_eq_true rfl) (by decide +kernel : decode cX7_init 31 = .ok (.newarray .int, 2)) hV (fun q4 H hV => ?_)
  have hV : nV E A s ((h0, .inr (7, [.null, .ref q1, .ref q2, .ref q3, .null, .null, .null, .null, .int 0, .int 0, .int 0, .int 0, .int 0, .int 0, .int 0])) :: [(q1, .inl (E.2.1 0, 6, .inl fun _ => 0)), (q2, .inl (E.2.1 0, 6, .inl fun _ => 0)), (q3, .inl (E.2.1 0, 6, .inl fun _ => 0)), (q4, .inl (E.2.1 0, 6, .inl fun _ => 0))]) H locs := hV
  refine n_put (k := 4) (v := .ref q4) hX tc_7 w_2_17 (by decide +kernel : decode cX7_init 33 = .ok (.putfield 21, 3)) (by decide) rfl rfl (Nat.le_of_ble_eq_true rfl) hV (fun H locs hV => ?_)
  have hV : nV E A s ((h0, .inr (7, [.null, .ref q1, .ref q2, .ref q3, .ref q4, .null, .null, .null, .int 0, .int 0, .int 0, .int 0, .int 0, .int 0, .int 0])) :: [(q1, .inl (E.2.1 0, 6, .inl fun _ => 0)), (q2, .inl (E.2.1 0, 6, .inl fun _ => 0)), (q3, .inl (E.2.1 0, 6, .inl fun _ => 0)), (q4, .inl (E.2.1 0, 6, .inl fun _ => 0))]) H locs := hV
  refine lv_aload_n hx hb (by decide +kernel : decode cX7_init 36 = .ok (.aload_n 0, 1)) rfl (lv_at hl 0 rfl) ?_
  refine lv_bipush (v := 6) hx hb (by decide +kernel : decode cX7_init 37 = .ok (.bipush 6, 2)) (by decide) ?_
  refine n_newa (t0 := 0) (ty := .int) (atype := .int) (N' := 6) (n := 6) (a0 := (6, .inl fun _ => 0)) hX rfl (n_nm fun _ h => h) w_1_118 rfl (fun _ => rfl) (by decide) (by decide) (by decide) (Nat.le_of_ble_eq_true rfl) (Nat.le_of_ble_eq_true rfl) (by decide +kernel : decode cX7_init 39 = .ok (.newarray .int, 2)) hV (fun q5 H hV => ?_)
  have hV : nV E A s ((h0, .inr (7, [.null, .ref q1, .ref q2, .ref q3, .ref q4, .null, .null, .null, .int 0, .int 0, .int 0, .int 0, .int 0, .int 0, .int 0])) :: [(q1, .inl (E.2.1 0, 6, .inl fun _ => 0)), (q2, .inl (E.2.1 0, 6, .inl fun _ => 0)), (q3, .inl (E.2.1 0, 6, .inl fun _ => 0)), (q4, .inl (E.2.1 0, 6, .inl fun _ => 0)), (q5, .inl (E.2.1 0, 6, .inl fun _ => 0))]) H locs := hV
  refine n_put (k := 5) (v := .ref q5) hX tc_7 w_2_19 (by decide +kernel : decode cX7_init 41 = .ok (.putfield 24, 3)) (by decide) rfl rfl (Nat.le_of_ble_eq_true rfl) hV (fun H locs hV => ?_)
  have hV : nV E A s ((h0, .inr (7, [.null, .ref q1, .ref q2, .ref q3, .ref q4, .ref q5, .null, .null, .int 0, .int 0, .int 0, .int 0, .int 0, .int 0, .int 0])) :: [(q1, .inl (E.2.1 0, 6, .inl fun _ => 0)), (q2, .inl (E.2.1 0, 6, .inl fun _ => 0)), (q3, .inl (E.2.1 0, 6, .inl fun _ => 0)), (q4, .inl (E.2.1 0, 6, .inl fun _ => 0)), (q5, .inl (E.2.1 0, 6, .inl fun _ => 0))]) H locs := hV
  refine lv_aload_n hx hb (by decide +kernel : decode cX7_init 44 = .ok (.aload_n 0, 1)) rfl (lv_at hl 0 rfl) ?_
  refine lv_iconst (v := 5) hx hb (by decide +kernel : decode cX7_init 45 = .ok (.iconst 5, 1)) (by decide) ?_
  refine n_newa (t0 := 0) (ty := .int) (atype := .int) (N' := 5) (n := 5) (a0 := (5, .inl fun _ => 0)) hX rfl (n_nm fun _ h => h) w_1_118 rfl (fun _ => rfl) (by decide) (by decide) (by decide) (Nat.le_of_ble_eq_true rfl) (Nat.le_of_ble_eq_true rfl) (by decide +kernel : decode cX7_init 46 = .ok (.newarray .int, 2)) hV (fun q6 H hV => ?_)
  have hV : nV E A s ((h0, .inr (7, [.null, .ref q1, .ref q2, .ref q3, .ref q4, .ref q5, .null, .null, .int 0, .int 0, .int 0, .int 0, .int 0, .int 0, .int 0])) :: [(q1, .inl (E.2.1 0, 6, .inl fun _ => 0)), (q2, .inl (E.2.1 0, 6, .inl fun _ => 0)), (q3, .inl (E.2.1 0, 6, .inl fun _ => 0)), (q4, .inl (E.2.1 0, 6, .inl fun _ => 0)), (q5, .inl (E.2.1 0, 6, .inl fun _ => 0)), (q6, .inl (E.2.1 0, 5, .inl fun _ => 0))]) H locs := hV
  refine n_put (k := 6) (v := .ref q6) hX tc_7 w_2_21 (by decide +kernel : decode cX7_init 48 = .ok (.putfield 27, 3)) (by decide) rfl rfl (Nat.le_of_ble_eq_true rfl) hV (fun H locs hV => ?_)
  have hV : nV E A s ((h0, .inr (7, [.null, .ref q1, .ref q2, .ref q3, .ref q4, .ref q5, .ref q6, .null, .int 0, .int 0, .int 0, .int 0, .int 0, .int 0, .int 0])) :: [(q1, .inl (E.2.1 0, 6, .inl fun _ => 0)), (q2, .inl (E.2.1 0, 6, .inl fun _ => 0)), (q3, .inl (E.2.1 0, 6, .inl fun _ => 0)), (q4, .inl (E.2.1 0, 6, .inl fun _ => 0)), (q5, .inl (E.2.1 0, 6, .inl fun _ => 0)), (q6, .inl (E.2.1 0, 5, .inl fun _ => 0))]) H locs := hV
  refine lv_aload_n hx hb (by decide +kernel : decode cX7_init 51 = .ok (.aload_n 0, 1)) rfl (lv_at hl 0 rfl) ?_
  refine lv_iconst (v := 5) hx hb (by decide +kernel : decode cX7_init 52 = .ok (.iconst 5, 1)) (by decide) ?_
  refine n_newa (t0 := 0) (ty := .int) (atype := .int) (N' := 5) (n := 5) (a0 := (5, .inl fun _ => 0)) hX rfl (n_nm fun _ h => h) w_1_118 rfl (fun _ => rfl) (by decide) (by decide) (by decide) (Nat.le_of_ble_eq_true rfl) (Nat.le_of_ble_eq_true rfl) (by decide +kernel : decode cX7_init 53 = .ok (.newarray .int, 2)) hV (fun q7 H hV => ?_)
  have hV : nV E A s ((h0, .inr (7, [.null, .ref q1, .ref q2, .ref q3, .ref q4, .ref q5, .ref q6, .null, .int 0, .int 0, .int 0, .int 0, .int 0, .int 0, .int 0])) :: [(q1, .inl (E.2.1 0, 6, .inl fun _ => 0)), (q2, .inl (E.2.1 0, 6, .inl fun _ => 0)), (q3, .inl (E.2.1 0, 6, .inl fun _ => 0)), (q4, .inl (E.2.1 0, 6, .inl fun _ => 0)), (q5, .inl (E.2.1 0, 6, .inl fun _ => 0)), (q6, .inl (E.2.1 0, 5, .inl fun _ => 0)), (q7, .inl (E.2.1 0, 5, .inl fun _ => 0))]) H locs := hV
  refine n_put (k := 7) (v := .ref q7) hX tc_7 w_2_23 (by decide +kernel : decode cX7_init 55 = .ok (.putfield 30, 3)) (by decide) rfl rfl (Nat.le_of_ble_eq_true rfl) hV (fun H locs hV => ?_)
  have hV : nV E A s ((h0, .inr (7, [.null, .ref q1, .ref q2, .ref q3, .ref q4, .ref q5, .ref q6, .ref q7, .int 0, .int 0, .int 0, .int 0, .int 0, .int 0, .int 0])) :: [(q1, .inl (E.2.1 0, 6, .inl fun _ => 0)), (q2, .inl (E.2.1 0, 6, .inl fun _ => 0)), (q3, .inl (E.2.1 0, 6, .inl fun _ => 0)), (q4, .inl (E.2.1 0, 6, .inl fun _ => 0)), (q5, .inl (E.2.1 0, 6, .inl fun _ => 0)), (q6, .inl (E.2.1 0, 5, .inl fun _ => 0)), (q7, .inl (E.2.1 0, 5, .inl fun _ => 0))]) H locs := hV
  refine lv_aload_n hx hb (by decide +kernel : decode cX7_init 58 = .ok (.aload_n 0, 1)) rfl (lv_at hl 0 rfl) ?_
  refine lv_iconst (v := 0) hx hb (by decide +kernel : decode cX7_init 59 = .ok (.iconst 0, 1)) (by decide) ?_
  refine n_put (k := 8) (v := .int 0) hX tc_7 w_2_25 (by decide +kernel : decode cX7_init 60 = .ok (.putfield 33, 3)) (by decide) rfl rfl (Nat.le_of_ble_eq_true rfl) hV (fun H locs hV => ?_)
  have hV : nV E A s ((h0, .inr (7, [.null, .ref q1, .ref q2, .ref q3, .ref q4, .ref q5, .ref q6, .ref q7, .int 0, .int 0, .int 0, .int 0, .int 0, .int 0, .int 0])) :: [(q1, .inl (E.2.1 0, 6, .inl fun _ => 0)), (q2, .inl (E.2.1 0, 6, .inl fun _ => 0)), (q3, .inl (E.2.1 0, 6, .inl fun _ => 0)), (q4, .inl (E.2.1 0, 6, .inl fun _ => 0)), (q5, .inl (E.2.1 0, 6, .inl fun _ => 0)), (q6, .inl (E.2.1 0, 5, .inl fun _ => 0)), (q7, .inl (E.2.1 0, 5, .inl fun _ => 0))]) H locs := hV
  refine lv_aload_n hx hb (by decide +kernel : decode cX7_init 63 = .ok (.aload_n 0, 1)) rfl (lv_at hl 0 rfl) ?_
  refine lv_iconst (v := 0) hx hb (by decide +kernel : decode cX7_init 64 = .ok (.iconst 0, 1)) (by decide) ?_
  refine n_put (k := 9) (v := .int 0) hX tc_7 w_2_26 (by decide +kernel : decode cX7_init 65 = .ok (.putfield 37, 3)) (by decide) rfl rfl (Nat.le_of_ble_eq_true rfl) hV (fun H locs hV => ?_)
  have hV : nV E A s ((h0, .inr (7, [.null, .ref q1, .ref q2, .ref q3, .ref q4, .ref q5, .ref q6, .ref q7, .int 0, .int 0, .int 0, .int 0, .int 0, .int 0, .int 0])) :: [(q1, .inl (E.2.1 0, 6, .inl fun _ => 0)), (q2, .inl (E.2.1 0, 6, .inl fun _ => 0)), (q3, .inl (E.2.1 0, 6, .inl fun _ => 0)), (q4, .inl (E.2.1 0, 6, .inl fun _ => 0)), (q5, .inl (E.2.1 0, 6, .inl fun _ => 0)), (q6, .inl (E.2.1 0, 5, .inl fun _ => 0)), (q7, .inl (E.2.1 0, 5, .inl fun _ => 0))]) H locs := hV
  refine lv_aload_n hx hb (by decide +kernel : decode cX7_init 68 = .ok (.aload_n 0, 1)) rfl (lv_at hl 0 rfl) ?_
  refine lv_iconst (v := (-1)) hx hb (by decide +kernel : decode cX7_init 69 = .ok (.iconst (-1), 1)) (by decide) ?_
  refine n_put (k := 10) (v := .int (-1)) hX tc_7 w_2_27 (by decide +kernel : decode cX7_init 70 = .ok (.putfield 40, 3)) (by decide) rfl rfl (Nat.le_of_ble_eq_true rfl) hV (fun H locs hV => ?_)
  have hV : nV E A s ((h0, .inr (7, [.null, .ref q1, .ref q2, .ref q3, .ref q4, .ref q5, .ref q6, .ref q7, .int 0, .int 0, .int (-1), .int 0, .int 0, .int 0, .int 0])) :: [(q1, .inl (E.2.1 0, 6, .inl fun _ => 0)), (q2, .inl (E.2.1 0, 6, .inl fun _ => 0)), (q3, .inl (E.2.1 0, 6, .inl fun _ => 0)), (q4, .inl (E.2.1 0, 6, .inl fun _ => 0)), (q5, .inl (E.2.1 0, 6, .inl fun _ => 0)), (q6, .inl (E.2.1 0, 5, .inl fun _ => 0)), (q7, .inl (E.2.1 0, 5, .inl fun _ => 0))]) H locs := hV
  refine lv_aload_n hx hb (by decide +kernel : decode cX7_init 73 = .ok (.aload_n 0, 1)) rfl (lv_at hl 0 rfl) ?_
  refine lv_iconst (v := 0) hx hb (by decide +kernel : decode cX7_init 74 = .ok (.iconst 0, 1)) (by decide) ?_
  refine n_put (k := 11) (v := .int 0) hX tc_7 w_2_29 (by decide +kernel : decode cX7_init 75 = .ok (.putfield 43, 3)) (by decide) rfl rfl (Nat.le_of_ble_eq_true rfl) hV (fun H locs hV => ?_)
  have hV : nV E A s ((h0, .inr (7, [.null, .ref q1, .ref q2, .ref q3, .ref q4, .ref q5, .ref q6, .ref q7, .int 0, .int 0, .int (-1), .int 0, .int 0, .int 0, .int 0])) :: [(q1, .inl (E.2.1 0, 6, .inl fun _ => 0)), (q2, .inl (E.2.1 0, 6, .inl fun _ => 0)), (q3, .inl (E.2.1 0, 6, .inl fun _ => 0)), (q4, .inl (E.2.1 0, 6, .inl fun _ => 0)), (q5, .inl (E.2.1 0, 6, .inl fun _ => 0)), (q6, .inl (E.2.1 0, 5, .inl fun _ => 0)), (q7, .inl (E.2.1 0, 5, .inl fun _ => 0))]) H locs := hV
  refine lv_aload_n hx hb (by decide +kernel : decode cX7_init 78 = .ok (.aload_n 0, 1)) rfl (lv_at hl 0 rfl) ?_
  refine lv_iconst (v := 0) hx hb (by decide +kernel : decode cX7_init 79 = .ok (.iconst 0, 1)) (by decide) ?_
  refine n_put (k := 12) (v := .int 0) hX tc_7 w_2_32 (by decide +kernel : decode cX7_init 80 = .ok (.putfield 46, 3)) (by decide) rfl rfl (Nat.le_of_ble_eq_true rfl) hV (fun H locs hV => ?_)
  have hV : nV E A s ((h0, .inr (7, [.null, .ref q1, .ref q2, .ref q3, .ref q4, .ref q5, .ref q6, .ref q7, .int 0, .int 0, .int (-1), .int 0, .int 0, .int 0, .int 0])) :: [(q1, .inl (E.2.1 0, 6, .inl fun _ => 0)), (q2, .inl (E.2.1 0, 6, .inl fun _ => 0)), (q3, .inl (E.2.1 0, 6, .inl fun _ => 0)), (q4, .inl (E.2.1 0, 6, .inl fun _ => 0)), (q5, .inl (E.2.1 0, 6, .inl fun _ => 0)), (q6, .inl (E.2.1 0, 5, .inl fun _ => 0)), (q7, .inl (E.2.1 0, 5, .inl fun _ => 0))]) H locs := hV
  refine lv_aload_n hx hb (by decide +kernel : decode cX7_init 83 = .ok (.aload_n 0, 1)) rfl (lv_at hl 0 rfl) ?_
  refine lv_iconst (v := 0) hx hb (by decide +kernel : decode cX7_init 84 = .ok (.iconst 0, 1)) (by decide) ?_
  refine n_put (k := 13) (v := .int 0) hX tc_7 w_2_34 (by decide +kernel : decode cX7_init 85 = .ok (.putfield 49, 3)) (by decide) rfl rfl (Nat.le_of_ble_eq_true rfl) hV (fun H locs hV => ?_)
  have hV : nV E A s ((h0, .inr (7, [.null, .ref q1, .ref q2, .ref q3, .ref q4, .ref q5, .ref q6, .ref q7, .int 0, .int 0, .int (-1), .int 0, .int 0, .int 0, .int 0])) :: [(q1, .inl (E.2.1 0, 6, .inl fun _ => 0)), (q2, .inl (E.2.1 0, 6, .inl fun _ => 0)), (q3, .inl (E.2.1 0, 6, .inl fun _ => 0)), (q4, .inl (E.2.1 0, 6, .inl fun _ => 0)), (q5, .inl (E.2.1 0, 6, .inl fun _ => 0)), (q6, .inl (E.2.1 0, 5, .inl fun _ => 0)), (q7, .inl (E.2.1 0, 5, .inl fun _ => 0))]) H locs := hV
  refine lv_aload_n hx hb (by decide +kernel : decode cX7_init 88 = .ok (.aload_n 0, 1)) rfl (lv_at hl 0 rfl) ?_
  refine lv_iconst (v := 0) hx hb (by decide +kernel : decode cX7_init 89 = .ok (.iconst 0, 1)) (by decide) ?_
  refine n_put (k := 14) (v := .int 0) hX tc_7 w_2_36 (by decide +kernel : decode cX7_init 90 = .ok (.putfield 52, 3)) (by decide) rfl rfl (Nat.le_of_ble_eq_true rfl) hV (fun H locs hV => ?_)
  have hV : nV E A s ((h0, .inr (7, [.null, .ref q1, .ref q2, .ref q3, .ref q4, .ref q5, .ref q6, .ref q7, .int 0, .int 0, .int (-1), .int 0, .int 0, .int 0, .int 0])) :: [(q1, .inl (E.2.1 0, 6, .inl fun _ => 0)), (q2, .inl (E.2.1 0, 6, .inl fun _ => 0)), (q3, .inl (E.2.1 0, 6, .inl fun _ => 0)), (q4, .inl (E.2.1 0, 6, .inl fun _ => 0)), (q5, .inl (E.2.1 0, 6, .inl fun _ => 0)), (q6, .inl (E.2.1 0, 5, .inl fun _ => 0)), (q7, .inl (E.2.1 0, 5, .inl fun _ => 0))]) H locs := hV
  refine lv_aload_n hx hb (by decide +kernel : decode cX7_init 93 = .ok (.aload_n 0, 1)) rfl (lv_at hl 0 rfl) ?_
  refine lv_aload_n hx hb (by decide +kernel : decode cX7_init 94 = .ok (.aload_n 1, 1)) rfl (lv_at hl 1 rfl) ?_
  refine n_put (k := 0) (v := .ref hp) hX tc_7 w_2_1 (by decide +kernel : decode cX7_init 95 = .ok (.putfield 55, 3)) (by decide) rfl rfl (Nat.le_of_ble_eq_true rfl) hV (fun H locs hV => ?_)
  have hV : nV E A s ((h0, .inr (7, [.ref hp, .ref q1, .ref q2, .ref q3, .ref q4, .ref q5, .ref q6, .ref q7, .int 0, .int 0, .int (-1), .int 0, .int 0, .int 0, .int 0])) :: [(q1, .inl (E.2.1 0, 6, .inl fun _ => 0)), (q2, .inl (E.2.1 0, 6, .inl fun _ => 0)), (q3, .inl (E.2.1 0, 6, .inl fun _ => 0)), (q4, .inl (E.2.1 0, 6, .inl fun _ => 0)), (q5, .inl (E.2.1 0, 6, .inl fun _ => 0)), (q6, .inl (E.2.1 0, 5, .inl fun _ => 0)), (q7, .inl (E.2.1 0, 5, .inl fun _ => 0))]) H locs := hV
  exact n_ret (Wd := nW7 E hp) (as := []) hX hAe hr (fun k => ([h0, 0, q1, q2, q3, q4, q5, q6, q7] : List Nat).getD k 0) rfl hV (Nat.le_of_ble_eq_true rfl) (Nat.le_of_ble_eq_true rfl) (by decide +kernel : decode cX7_init 98 = .ok (.return_, 1))
