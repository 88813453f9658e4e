/-! THE LAW: its cases -/
/-- what is known in the law -/
def lwX (E : tE) (A : Nat → Prop) (p : Program) (l : Launch) (s : State) (m : MethodId) (c : Code) (b L : Nat) (xs : Nat → Int32) : Prop := lX E A p s m #[Value.ref b] c "TaxFarmLaw" cL_law 7 ∧ (∀ q : Nat, q < s.heap.size → ¬ A q) ∧ va_X b L xs s s.heap ∧ b < s.heap.size ∧ l.stackTraces = false ∧ nTh s ∧ (∃ a, vk_R "TaxFarm" 319 "no such worth or number" a s) ∧ ∃ a, vk_R "TaxFarm" 328 "no such bids at rest" a s
abbrev lwL (E : tE) (b out i : Nat) : List (Nat × Value) := [(4, .int (nI i)), (0, .ref b), (1, .ref (E.2.2 10 0)), (2, .ref (E.2.2 11 0)), (3, .ref out)]
/-- the end of a case -/
def lwN (E : tE) (A : Nat → Prop) (p : Program) (l : Launch) (e : Env) (s : State) (m : MethodId) (below : List Frame) (meth : Method) (c : Code) (b out i : Nat) (Q : State → Prop) (cells slots : Nat) : Prop := ∀ (G : tH) (f : Nat → Int64) (H : Heap) (locs : List Loc) (ls : Array Slot), INV G → tokG G → nV E A s (tWd E G ++ [(out, lgC E f)]) H locs → lv_has ls 7 (lwL E b out i) → W p l e room_1 s m #[Value.ref b] below meth c H locs cells slots Q (F0 m 1302 ls [])
def lw2 (x y : Int32) : Int64 := (x.toInt64 <<< ((32 : Int32).toInt64 &&& 63)) ||| (y.toInt64 &&& 4294967295)
theorem tok_l {x : Int64} {as : List tV} (h : tokS as) : tokS (as ++ [vL x]) := fun v hv => by
  rcases List.mem_append.mp hv with h1 | h1
  · exact h v h1
  · rw [List.mem_singleton.mp h1]; trivial
theorem w_2_202 : (Jvm.Cond.methodLink "TaxFarmLaw" (21 : Nat) ({ cls := "TaxFarm", name := "feed", desc := "(JJJ)I" } : Jvm.MethodName)) ∈ tW := tWm (tm2 (List.mem_of_getElem? (i := 202) rfl)) rfl
theorem w_2_203 : (Jvm.Cond.instanceMethod ({ cls := "TaxFarm", name := "feed", desc := "(JJJ)I" } : Jvm.MethodName)) ∈ tW := tWm (tm2 (List.mem_of_getElem? (i := 203) rfl)) rfl
theorem w_2_204 : (Jvm.Cond.selects "TaxFarm" ({ cls := "TaxFarm", name := "feed", desc := "(JJJ)I" } : Jvm.MethodName) ({ cls := "TaxFarm", name := "feed", desc := "(JJJ)I" } : Jvm.MethodName)) ∈ tW := tWm (tm2 (List.mem_of_getElem? (i := 204) rfl)) rfl
theorem w_2_205 : (Jvm.Cond.code ({ cls := "TaxFarm", name := "feed", desc := "(JJJ)I" } : Jvm.MethodName) prog_1_method_2_code (7 : Nat) (Option.some Jvm.ClassFile.FieldType.int)) ∈ tW := tWm (tm2 (List.mem_of_getElem? (i := 205) rfl)) rfl
theorem w_2_215 : (Jvm.Cond.methodLink "TaxFarmLaw" (26 : Nat) ({ cls := "TaxFarm", name := "province", desc := "()I" } : Jvm.MethodName)) ∈ tW := tWm (tm2 (List.mem_of_getElem? (i := 215) rfl)) rfl
theorem w_2_216 : (Jvm.Cond.instanceMethod ({ cls := "TaxFarm", name := "province", desc := "()I" } : Jvm.MethodName)) ∈ tW := tWm (tm2 (List.mem_of_getElem? (i := 216) rfl)) rfl
theorem w_2_217 : (Jvm.Cond.selects "TaxFarm" ({ cls := "TaxFarm", name := "province", desc := "()I" } : Jvm.MethodName) ({ cls := "TaxFarm", name := "province", desc := "()I" } : Jvm.MethodName)) ∈ tW := tWm (tm2 (List.mem_of_getElem? (i := 217) rfl)) rfl
theorem w_2_218 : (Jvm.Cond.code ({ cls := "TaxFarm", name := "province", desc := "()I" } : Jvm.MethodName) prog_1_method_4_code (2 : Nat) (Option.some Jvm.ClassFile.FieldType.int)) ∈ tW := tWm (tm2 (List.mem_of_getElem? (i := 218) rfl)) rfl
theorem w_4_106 : (Jvm.Cond.methodLink "TaxFarmLaw" (57 : Nat) ({ cls := "TaxFarm", name := "award", desc := "()I" } : Jvm.MethodName)) ∈ tW := tWm (tm4 (List.mem_of_getElem? (i := 106) rfl)) rfl
theorem w_4_107 : (Jvm.Cond.instanceMethod ({ cls := "TaxFarm", name := "award", desc := "()I" } : Jvm.MethodName)) ∈ tW := tWm (tm4 (List.mem_of_getElem? (i := 107) rfl)) rfl
theorem w_4_108 : (Jvm.Cond.selects "TaxFarm" ({ cls := "TaxFarm", name := "award", desc := "()I" } : Jvm.MethodName) ({ cls := "TaxFarm", name := "award", desc := "()I" } : Jvm.MethodName)) ∈ tW := tWm (tm4 (List.mem_of_getElem? (i := 108) rfl)) rfl
theorem w_4_109 : (Jvm.Cond.code ({ cls := "TaxFarm", name := "award", desc := "()I" } : Jvm.MethodName) prog_1_method_12_code (2 : Nat) (Option.some Jvm.ClassFile.FieldType.int)) ∈ tW := tWm (tm4 (List.mem_of_getElem? (i := 109) rfl)) rfl
theorem w_4_118 : (Jvm.Cond.methodLink "TaxFarmLaw" (61 : Nat) ({ cls := "TaxFarm", name := "year", desc := "(I)I" } : Jvm.MethodName)) ∈ tW := tWm (tm4 (List.mem_of_getElem? (i := 118) rfl)) rfl
theorem w_4_119 : (Jvm.Cond.instanceMethod ({ cls := "TaxFarm", name := "year", desc := "(I)I" } : Jvm.MethodName)) ∈ tW := tWm (tm4 (List.mem_of_getElem? (i := 119) rfl)) rfl
theorem w_4_12 : (Jvm.Cond.methodLink "TaxFarmLaw" (31 : Nat) ({ cls := "TaxFarm", name := "past", desc := "()I" } : Jvm.MethodName)) ∈ tW := tWm (tm4 (List.mem_of_getElem? (i := 12) rfl)) rfl
theorem w_4_120 : (Jvm.Cond.selects "TaxFarm" ({ cls := "TaxFarm", name := "year", desc := "(I)I" } : Jvm.MethodName) ({ cls := "TaxFarm", name := "year", desc := "(I)I" } : Jvm.MethodName)) ∈ tW := tWm (tm4 (List.mem_of_getElem? (i := 120) rfl)) rfl
theorem w_4_121 : (Jvm.Cond.code ({ cls := "TaxFarm", name := "year", desc := "(I)I" } : Jvm.MethodName) prog_1_method_13_code (3 : Nat) (Option.some Jvm.ClassFile.FieldType.int)) ∈ tW := tWm (tm4 (List.mem_of_getElem? (i := 121) rfl)) rfl
theorem w_4_13 : (Jvm.Cond.instanceMethod ({ cls := "TaxFarm", name := "past", desc := "()I" } : Jvm.MethodName)) ∈ tW := tWm (tm4 (List.mem_of_getElem? (i := 13) rfl)) rfl
theorem w_4_14 : (Jvm.Cond.selects "TaxFarm" ({ cls := "TaxFarm", name := "past", desc := "()I" } : Jvm.MethodName) ({ cls := "TaxFarm", name := "past", desc := "()I" } : Jvm.MethodName)) ∈ tW := tWm (tm4 (List.mem_of_getElem? (i := 14) rfl)) rfl
theorem w_4_15 : (Jvm.Cond.code ({ cls := "TaxFarm", name := "past", desc := "()I" } : Jvm.MethodName) prog_1_method_6_code (2 : Nat) (Option.some Jvm.ClassFile.FieldType.int)) ∈ tW := tWm (tm4 (List.mem_of_getElem? (i := 15) rfl)) rfl
theorem w_4_150 : (Jvm.Cond.methodLink "TaxFarmLaw" (66 : Nat) ({ cls := "TaxFarm", name := "take", desc := "(II)I" } : Jvm.MethodName)) ∈ tW := tWm (tm4 (List.mem_of_getElem? (i := 150) rfl)) rfl
theorem w_4_151 : (Jvm.Cond.instanceMethod ({ cls := "TaxFarm", name := "take", desc := "(II)I" } : Jvm.MethodName)) ∈ tW := tWm (tm4 (List.mem_of_getElem? (i := 151) rfl)) rfl
theorem w_4_152 : (Jvm.Cond.selects "TaxFarm" ({ cls := "TaxFarm", name := "take", desc := "(II)I" } : Jvm.MethodName) ({ cls := "TaxFarm", name := "take", desc := "(II)I" } : Jvm.MethodName)) ∈ tW := tWm (tm4 (List.mem_of_getElem? (i := 152) rfl)) rfl
theorem w_4_153 : (Jvm.Cond.code ({ cls := "TaxFarm", name := "take", desc := "(II)I" } : Jvm.MethodName) prog_1_method_14_code (4 : Nat) (Option.some Jvm.ClassFile.FieldType.int)) ∈ tW := tWm (tm4 (List.mem_of_getElem? (i := 153) rfl)) rfl
theorem w_4_166 : (Jvm.Cond.methodLink "TaxFarmLaw" (70 : Nat) ({ cls := "TaxFarm", name := "lend", desc := "(II)I" } : Jvm.MethodName)) ∈ tW := tWm (tm4 (List.mem_of_getElem? (i := 166) rfl)) rfl
theorem w_4_167 : (Jvm.Cond.instanceMethod ({ cls := "TaxFarm", name := "lend", desc := "(II)I" } : Jvm.MethodName)) ∈ tW := tWm (tm4 (List.mem_of_getElem? (i := 167) rfl)) rfl
theorem w_4_168 : (Jvm.Cond.selects "TaxFarm" ({ cls := "TaxFarm", name := "lend", desc := "(II)I" } : Jvm.MethodName) ({ cls := "TaxFarm", name := "lend", desc := "(II)I" } : Jvm.MethodName)) ∈ tW := tWm (tm4 (List.mem_of_getElem? (i := 168) rfl)) rfl
theorem w_4_169 : (Jvm.Cond.code ({ cls := "TaxFarm", name := "lend", desc := "(II)I" } : Jvm.MethodName) prog_1_method_15_code (4 : Nat) (Option.some Jvm.ClassFile.FieldType.int)) ∈ tW := tWm (tm4 (List.mem_of_getElem? (i := 169) rfl)) rfl
theorem w_4_175 : (Jvm.Cond.methodLink "TaxFarmLaw" (74 : Nat) ({ cls := "TaxFarm", name := "call", desc := "(II)I" } : Jvm.MethodName)) ∈ tW := tWm (tm4 (List.mem_of_getElem? (i := 175) rfl)) rfl
theorem w_4_176 : (Jvm.Cond.instanceMethod ({ cls := "TaxFarm", name := "call", desc := "(II)I" } : Jvm.MethodName)) ∈ tW := tWm (tm4 (List.mem_of_getElem? (i := 176) rfl)) rfl
theorem w_4_177 : (Jvm.Cond.selects "TaxFarm" ({ cls := "TaxFarm", name := "call", desc := "(II)I" } : Jvm.MethodName) ({ cls := "TaxFarm", name := "call", desc := "(II)I" } : Jvm.MethodName)) ∈ tW := tWm (tm4 (List.mem_of_getElem? (i := 177) rfl)) rfl
theorem w_4_178 : (Jvm.Cond.code ({ cls := "TaxFarm", name := "call", desc := "(II)I" } : Jvm.MethodName) prog_1_method_16_code (4 : Nat) (Option.some Jvm.ClassFile.FieldType.int)) ∈ tW := tWm (tm4 (List.mem_of_getElem? (i := 178) rfl)) rfl
theorem w_4_183 : (Jvm.Cond.methodLink "TaxFarmLaw" (78 : Nat) ({ cls := "TaxFarm", name := "spare", desc := "(I)I" } : Jvm.MethodName)) ∈ tW := tWm (tm4 (List.mem_of_getElem? (i := 183) rfl)) rfl
theorem w_4_184 : (Jvm.Cond.instanceMethod ({ cls := "TaxFarm", name := "spare", desc := "(I)I" } : Jvm.MethodName)) ∈ tW := tWm (tm4 (List.mem_of_getElem? (i := 184) rfl)) rfl
theorem w_4_185 : (Jvm.Cond.selects "TaxFarm" ({ cls := "TaxFarm", name := "spare", desc := "(I)I" } : Jvm.MethodName) ({ cls := "TaxFarm", name := "spare", desc := "(I)I" } : Jvm.MethodName)) ∈ tW := tWm (tm4 (List.mem_of_getElem? (i := 185) rfl)) rfl
theorem w_4_186 : (Jvm.Cond.code ({ cls := "TaxFarm", name := "spare", desc := "(I)I" } : Jvm.MethodName) prog_1_method_17_code (3 : Nat) (Option.some Jvm.ClassFile.FieldType.int)) ∈ tW := tWm (tm4 (List.mem_of_getElem? (i := 186) rfl)) rfl
theorem w_4_191 : (Jvm.Cond.methodLink "TaxFarmLaw" (82 : Nat) ({ cls := "TaxFarm", name := "bribe", desc := "(I)Z" } : Jvm.MethodName)) ∈ tW := tWm (tm4 (List.mem_of_getElem? (i := 191) rfl)) rfl
theorem w_4_192 : (Jvm.Cond.instanceMethod ({ cls := "TaxFarm", name := "bribe", desc := "(I)Z" } : Jvm.MethodName)) ∈ tW := tWm (tm4 (List.mem_of_getElem? (i := 192) rfl)) rfl
theorem w_4_193 : (Jvm.Cond.selects "TaxFarm" ({ cls := "TaxFarm", name := "bribe", desc := "(I)Z" } : Jvm.MethodName) ({ cls := "TaxFarm", name := "bribe", desc := "(I)Z" } : Jvm.MethodName)) ∈ tW := tWm (tm4 (List.mem_of_getElem? (i := 193) rfl)) rfl
theorem w_4_194 : (Jvm.Cond.code ({ cls := "TaxFarm", name := "bribe", desc := "(I)Z" } : Jvm.MethodName) prog_1_method_18_code (2 : Nat) (Option.some Jvm.ClassFile.FieldType.boolean)) ∈ tW := tWm (tm4 (List.mem_of_getElem? (i := 194) rfl)) rfl
theorem w_4_199 : (Jvm.Cond.methodLink "TaxFarmLaw" (87 : Nat) ({ cls := "TaxFarm", name := "sue", desc := "()I" } : Jvm.MethodName)) ∈ tW := tWm (tm4 (List.mem_of_getElem? (i := 199) rfl)) rfl
theorem w_4_200 : (Jvm.Cond.instanceMethod ({ cls := "TaxFarm", name := "sue", desc := "()I" } : Jvm.MethodName)) ∈ tW := tWm (tm4 (List.mem_of_getElem? (i := 200) rfl)) rfl
theorem w_4_201 : (Jvm.Cond.selects "TaxFarm" ({ cls := "TaxFarm", name := "sue", desc := "()I" } : Jvm.MethodName) ({ cls := "TaxFarm", name := "sue", desc := "()I" } : Jvm.MethodName)) ∈ tW := tWm (tm4 (List.mem_of_getElem? (i := 201) rfl)) rfl
theorem w_4_202 : (Jvm.Cond.code ({ cls := "TaxFarm", name := "sue", desc := "()I" } : Jvm.MethodName) prog_1_method_19_code (2 : Nat) (Option.some Jvm.ClassFile.FieldType.int)) ∈ tW := tWm (tm4 (List.mem_of_getElem? (i := 202) rfl)) rfl
theorem w_4_222 : (Jvm.Cond.methodLink "TaxFarmLaw" (91 : Nat) ({ cls := "TaxFarm", name := "close", desc := "()Z" } : Jvm.MethodName)) ∈ tW := tWm (tm4 (List.mem_of_getElem? (i := 222) rfl)) rfl
theorem w_4_223 : (Jvm.Cond.instanceMethod ({ cls := "TaxFarm", name := "close", desc := "()Z" } : Jvm.MethodName)) ∈ tW := tWm (tm4 (List.mem_of_getElem? (i := 223) rfl)) rfl
theorem w_4_224 : (Jvm.Cond.selects "TaxFarm" ({ cls := "TaxFarm", name := "close", desc := "()Z" } : Jvm.MethodName) ({ cls := "TaxFarm", name := "close", desc := "()Z" } : Jvm.MethodName)) ∈ tW := tWm (tm4 (List.mem_of_getElem? (i := 224) rfl)) rfl
theorem w_4_225 : (Jvm.Cond.code ({ cls := "TaxFarm", name := "close", desc := "()Z" } : Jvm.MethodName) prog_1_method_20_code (1 : Nat) (Option.some Jvm.ClassFile.FieldType.boolean)) ∈ tW := tWm (tm4 (List.mem_of_getElem? (i := 225) rfl)) rfl
theorem w_4_230 : (Jvm.Cond.methodLink "TaxFarmLaw" (96 : Nat) ({ cls := "TaxFarm", name := "undo", desc := "()Z" } : Jvm.MethodName)) ∈ tW := tWm (tm4 (List.mem_of_getElem? (i := 230) rfl)) rfl
theorem w_4_231 : (Jvm.Cond.instanceMethod ({ cls := "TaxFarm", name := "undo", desc := "()Z" } : Jvm.MethodName)) ∈ tW := tWm (tm4 (List.mem_of_getElem? (i := 231) rfl)) rfl
theorem w_4_232 : (Jvm.Cond.selects "TaxFarm" ({ cls := "TaxFarm", name := "undo", desc := "()Z" } : Jvm.MethodName) ({ cls := "TaxFarm", name := "undo", desc := "()Z" } : Jvm.MethodName)) ∈ tW := tWm (tm4 (List.mem_of_getElem? (i := 232) rfl)) rfl
theorem w_4_233 : (Jvm.Cond.code ({ cls := "TaxFarm", name := "undo", desc := "()Z" } : Jvm.MethodName) prog_1_method_21_code (1 : Nat) (Option.some Jvm.ClassFile.FieldType.boolean)) ∈ tW := tWm (tm4 (List.mem_of_getElem? (i := 233) rfl)) rfl
theorem w_4_238 : (Jvm.Cond.methodLink "TaxFarmLaw" (100 : Nat) ({ cls := "TaxFarm", name := "judged", desc := "(I)I" } : Jvm.MethodName)) ∈ tW := tWm (tm4 (List.mem_of_getElem? (i := 238) rfl)) rfl
theorem w_4_239 : (Jvm.Cond.instanceMethod ({ cls := "TaxFarm", name := "judged", desc := "(I)I" } : Jvm.MethodName)) ∈ tW := tWm (tm4 (List.mem_of_getElem? (i := 239) rfl)) rfl
theorem w_4_39 : (Jvm.Cond.methodLink "TaxFarmLaw" (35 : Nat) ({ cls := "TaxFarm", name := "town", desc := "(II)I" } : Jvm.MethodName)) ∈ tW := tWm (tm4 (List.mem_of_getElem? (i := 39) rfl)) rfl
theorem w_4_40 : (Jvm.Cond.instanceMethod ({ cls := "TaxFarm", name := "town", desc := "(II)I" } : Jvm.MethodName)) ∈ tW := tWm (tm4 (List.mem_of_getElem? (i := 40) rfl)) rfl
theorem w_4_41 : (Jvm.Cond.selects "TaxFarm" ({ cls := "TaxFarm", name := "town", desc := "(II)I" } : Jvm.MethodName) ({ cls := "TaxFarm", name := "town", desc := "(II)I" } : Jvm.MethodName)) ∈ tW := tWm (tm4 (List.mem_of_getElem? (i := 41) rfl)) rfl
theorem w_4_42 : (Jvm.Cond.code ({ cls := "TaxFarm", name := "town", desc := "(II)I" } : Jvm.MethodName) prog_1_method_7_code (3 : Nat) (Option.some Jvm.ClassFile.FieldType.int)) ∈ tW := tWm (tm4 (List.mem_of_getElem? (i := 42) rfl)) rfl
theorem w_4_55 : (Jvm.Cond.methodLink "TaxFarmLaw" (40 : Nat) ({ cls := "TaxFarm", name := "company", desc := "(II)I" } : Jvm.MethodName)) ∈ tW := tWm (tm4 (List.mem_of_getElem? (i := 55) rfl)) rfl
theorem w_4_56 : (Jvm.Cond.instanceMethod ({ cls := "TaxFarm", name := "company", desc := "(II)I" } : Jvm.MethodName)) ∈ tW := tWm (tm4 (List.mem_of_getElem? (i := 56) rfl)) rfl
theorem w_4_57 : (Jvm.Cond.selects "TaxFarm" ({ cls := "TaxFarm", name := "company", desc := "(II)I" } : Jvm.MethodName) ({ cls := "TaxFarm", name := "company", desc := "(II)I" } : Jvm.MethodName)) ∈ tW := tWm (tm4 (List.mem_of_getElem? (i := 57) rfl)) rfl
theorem w_4_58 : (Jvm.Cond.code ({ cls := "TaxFarm", name := "company", desc := "(II)I" } : Jvm.MethodName) prog_1_method_8_code (3 : Nat) (Option.some Jvm.ClassFile.FieldType.int)) ∈ tW := tWm (tm4 (List.mem_of_getElem? (i := 58) rfl)) rfl
theorem w_4_59 : (Jvm.Cond.methodLink "TaxFarmLaw" (44 : Nat) ({ cls := "TaxFarm", name := "juror", desc := "(II)I" } : Jvm.MethodName)) ∈ tW := tWm (tm4 (List.mem_of_getElem? (i := 59) rfl)) rfl
theorem w_4_60 : (Jvm.Cond.instanceMethod ({ cls := "TaxFarm", name := "juror", desc := "(II)I" } : Jvm.MethodName)) ∈ tW := tWm (tm4 (List.mem_of_getElem? (i := 60) rfl)) rfl
theorem w_4_61 : (Jvm.Cond.selects "TaxFarm" ({ cls := "TaxFarm", name := "juror", desc := "(II)I" } : Jvm.MethodName) ({ cls := "TaxFarm", name := "juror", desc := "(II)I" } : Jvm.MethodName)) ∈ tW := tWm (tm4 (List.mem_of_getElem? (i := 61) rfl)) rfl
theorem w_4_62 : (Jvm.Cond.code ({ cls := "TaxFarm", name := "juror", desc := "(II)I" } : Jvm.MethodName) prog_1_method_9_code (3 : Nat) (Option.some Jvm.ClassFile.FieldType.int)) ∈ tW := tWm (tm4 (List.mem_of_getElem? (i := 62) rfl)) rfl
theorem w_4_78 : (Jvm.Cond.methodLink "TaxFarmLaw" (48 : Nat) ({ cls := "TaxFarm", name := "holder", desc := "()I" } : Jvm.MethodName)) ∈ tW := tWm (tm4 (List.mem_of_getElem? (i := 78) rfl)) rfl
theorem w_4_79 : (Jvm.Cond.instanceMethod ({ cls := "TaxFarm", name := "holder", desc := "()I" } : Jvm.MethodName)) ∈ tW := tWm (tm4 (List.mem_of_getElem? (i := 79) rfl)) rfl
theorem w_4_80 : (Jvm.Cond.selects "TaxFarm" ({ cls := "TaxFarm", name := "holder", desc := "()I" } : Jvm.MethodName) ({ cls := "TaxFarm", name := "holder", desc := "()I" } : Jvm.MethodName)) ∈ tW := tWm (tm4 (List.mem_of_getElem? (i := 80) rfl)) rfl
theorem w_4_81 : (Jvm.Cond.code ({ cls := "TaxFarm", name := "holder", desc := "()I" } : Jvm.MethodName) prog_1_method_10_code (1 : Nat) (Option.some Jvm.ClassFile.FieldType.int)) ∈ tW := tWm (tm4 (List.mem_of_getElem? (i := 81) rfl)) rfl
theorem w_4_82 : (Jvm.Cond.methodLink "TaxFarmLaw" (52 : Nat) ({ cls := "TaxFarm", name := "bid", desc := "(II)Z" } : Jvm.MethodName)) ∈ tW := tWm (tm4 (List.mem_of_getElem? (i := 82) rfl)) rfl
theorem w_4_83 : (Jvm.Cond.instanceMethod ({ cls := "TaxFarm", name := "bid", desc := "(II)Z" } : Jvm.MethodName)) ∈ tW := tWm (tm4 (List.mem_of_getElem? (i := 83) rfl)) rfl
theorem w_4_84 : (Jvm.Cond.selects "TaxFarm" ({ cls := "TaxFarm", name := "bid", desc := "(II)Z" } : Jvm.MethodName) ({ cls := "TaxFarm", name := "bid", desc := "(II)Z" } : Jvm.MethodName)) ∈ tW := tWm (tm4 (List.mem_of_getElem? (i := 84) rfl)) rfl
theorem w_4_85 : (Jvm.Cond.code ({ cls := "TaxFarm", name := "bid", desc := "(II)Z" } : Jvm.MethodName) prog_1_method_11_code (3 : Nat) (Option.some Jvm.ClassFile.FieldType.boolean)) ∈ tW := tWm (tm4 (List.mem_of_getElem? (i := 85) rfl)) rfl
theorem w_5_0 : (Jvm.Cond.selects "TaxFarm" ({ cls := "TaxFarm", name := "judged", desc := "(I)I" } : Jvm.MethodName) ({ cls := "TaxFarm", name := "judged", desc := "(I)I" } : Jvm.MethodName)) ∈ tW := tWm (tm5 (List.mem_of_getElem? (i := 0) rfl)) rfl
theorem w_5_1 : (Jvm.Cond.code ({ cls := "TaxFarm", name := "judged", desc := "(I)I" } : Jvm.MethodName) prog_1_method_22_code (3 : Nat) (Option.some Jvm.ClassFile.FieldType.int)) ∈ tW := tWm (tm5 (List.mem_of_getElem? (i := 1) rfl)) rfl
theorem w_5_108 : (Jvm.Cond.methodLink "TaxFarmLaw" (125 : Nat) ({ cls := "TaxFarm", name := "agree", desc := "(II)I" } : Jvm.MethodName)) ∈ tW := tWm (tm5 (List.mem_of_getElem? (i := 108) rfl)) rfl
theorem w_5_109 : (Jvm.Cond.instanceMethod ({ cls := "TaxFarm", name := "agree", desc := "(II)I" } : Jvm.MethodName)) ∈ tW := tWm (tm5 (List.mem_of_getElem? (i := 109) rfl)) rfl
theorem w_5_110 : (Jvm.Cond.selects "TaxFarm" ({ cls := "TaxFarm", name := "agree", desc := "(II)I" } : Jvm.MethodName) ({ cls := "TaxFarm", name := "agree", desc := "(II)I" } : Jvm.MethodName)) ∈ tW := tWm (tm5 (List.mem_of_getElem? (i := 110) rfl)) rfl
theorem w_5_111 : (Jvm.Cond.code ({ cls := "TaxFarm", name := "agree", desc := "(II)I" } : Jvm.MethodName) prog_1_method_28_code (3 : Nat) (Option.some Jvm.ClassFile.FieldType.int)) ∈ tW := tWm (tm5 (List.mem_of_getElem? (i := 111) rfl)) rfl
theorem w_5_116 : (Jvm.Cond.methodLink "TaxFarmLaw" (129 : Nat) ({ cls := "TaxFarm", name := "tale", desc := "(II)Z" } : Jvm.MethodName)) ∈ tW := tWm (tm5 (List.mem_of_getElem? (i := 116) rfl)) rfl
theorem w_5_117 : (Jvm.Cond.instanceMethod ({ cls := "TaxFarm", name := "tale", desc := "(II)Z" } : Jvm.MethodName)) ∈ tW := tWm (tm5 (List.mem_of_getElem? (i := 117) rfl)) rfl
theorem w_5_118 : (Jvm.Cond.selects "TaxFarm" ({ cls := "TaxFarm", name := "tale", desc := "(II)Z" } : Jvm.MethodName) ({ cls := "TaxFarm", name := "tale", desc := "(II)Z" } : Jvm.MethodName)) ∈ tW := tWm (tm5 (List.mem_of_getElem? (i := 118) rfl)) rfl
theorem w_5_119 : (Jvm.Cond.code ({ cls := "TaxFarm", name := "tale", desc := "(II)Z" } : Jvm.MethodName) prog_1_method_29_code (3 : Nat) (Option.some Jvm.ClassFile.FieldType.boolean)) ∈ tW := tWm (tm5 (List.mem_of_getElem? (i := 119) rfl)) rfl
theorem w_5_121 : (Jvm.Cond.methodLink "TaxFarmLaw" (133 : Nat) ({ cls := "TaxFarm", name := "knew", desc := "(II)I" } : Jvm.MethodName)) ∈ tW := tWm (tm5 (List.mem_of_getElem? (i := 121) rfl)) rfl
theorem w_5_122 : (Jvm.Cond.instanceMethod ({ cls := "TaxFarm", name := "knew", desc := "(II)I" } : Jvm.MethodName)) ∈ tW := tWm (tm5 (List.mem_of_getElem? (i := 122) rfl)) rfl
theorem w_5_123 : (Jvm.Cond.selects "TaxFarm" ({ cls := "TaxFarm", name := "knew", desc := "(II)I" } : Jvm.MethodName) ({ cls := "TaxFarm", name := "knew", desc := "(II)I" } : Jvm.MethodName)) ∈ tW := tWm (tm5 (List.mem_of_getElem? (i := 123) rfl)) rfl
theorem w_5_124 : (Jvm.Cond.code ({ cls := "TaxFarm", name := "knew", desc := "(II)I" } : Jvm.MethodName) prog_1_method_30_code (4 : Nat) (Option.some Jvm.ClassFile.FieldType.int)) ∈ tW := tWm (tm5 (List.mem_of_getElem? (i := 124) rfl)) rfl
theorem w_5_138 : (Jvm.Cond.methodLink "TaxFarmLaw" (137 : Nat) ({ cls := "TaxFarm", name := "secret", desc := "()I" } : Jvm.MethodName)) ∈ tW := tWm (tm5 (List.mem_of_getElem? (i := 138) rfl)) rfl
theorem w_5_139 : (Jvm.Cond.instanceMethod ({ cls := "TaxFarm", name := "secret", desc := "()I" } : Jvm.MethodName)) ∈ tW := tWm (tm5 (List.mem_of_getElem? (i := 139) rfl)) rfl
theorem w_5_140 : (Jvm.Cond.selects "TaxFarm" ({ cls := "TaxFarm", name := "secret", desc := "()I" } : Jvm.MethodName) ({ cls := "TaxFarm", name := "secret", desc := "()I" } : Jvm.MethodName)) ∈ tW := tWm (tm5 (List.mem_of_getElem? (i := 140) rfl)) rfl
theorem w_5_141 : (Jvm.Cond.code ({ cls := "TaxFarm", name := "secret", desc := "()I" } : Jvm.MethodName) prog_1_method_31_code (3 : Nat) (Option.some Jvm.ClassFile.FieldType.int)) ∈ tW := tWm (tm5 (List.mem_of_getElem? (i := 141) rfl)) rfl
theorem w_5_142 : (Jvm.Cond.methodLink "TaxFarmLaw" (141 : Nat) ({ cls := "TaxFarm", name := "next", desc := "()I" } : Jvm.MethodName)) ∈ tW := tWm (tm5 (List.mem_of_getElem? (i := 142) rfl)) rfl
theorem w_5_143 : (Jvm.Cond.instanceMethod ({ cls := "TaxFarm", name := "next", desc := "()I" } : Jvm.MethodName)) ∈ tW := tWm (tm5 (List.mem_of_getElem? (i := 143) rfl)) rfl
theorem w_5_144 : (Jvm.Cond.selects "TaxFarm" ({ cls := "TaxFarm", name := "next", desc := "()I" } : Jvm.MethodName) ({ cls := "TaxFarm", name := "next", desc := "()I" } : Jvm.MethodName)) ∈ tW := tWm (tm5 (List.mem_of_getElem? (i := 144) rfl)) rfl
theorem w_5_145 : (Jvm.Cond.code ({ cls := "TaxFarm", name := "next", desc := "()I" } : Jvm.MethodName) prog_1_method_32_code (2 : Nat) (Option.some Jvm.ClassFile.FieldType.int)) ∈ tW := tWm (tm5 (List.mem_of_getElem? (i := 145) rfl)) rfl
theorem w_5_158 : (Jvm.Cond.methodLink "TaxFarmLaw" (154 : Nat) ({ cls := "TaxFarm", name := "lustra", desc := "(III)I" } : Jvm.MethodName)) ∈ tW := tWm (tm5 (List.mem_of_getElem? (i := 158) rfl)) rfl
theorem w_5_159 : (Jvm.Cond.instanceMethod ({ cls := "TaxFarm", name := "lustra", desc := "(III)I" } : Jvm.MethodName)) ∈ tW := tWm (tm5 (List.mem_of_getElem? (i := 159) rfl)) rfl
theorem w_5_160 : (Jvm.Cond.selects "TaxFarm" ({ cls := "TaxFarm", name := "lustra", desc := "(III)I" } : Jvm.MethodName) ({ cls := "TaxFarm", name := "lustra", desc := "(III)I" } : Jvm.MethodName)) ∈ tW := tWm (tm5 (List.mem_of_getElem? (i := 160) rfl)) rfl
theorem w_5_161 : (Jvm.Cond.code ({ cls := "TaxFarm", name := "lustra", desc := "(III)I" } : Jvm.MethodName) prog_1_method_36_code (4 : Nat) (Option.some Jvm.ClassFile.FieldType.int)) ∈ tW := tWm (tm5 (List.mem_of_getElem? (i := 161) rfl)) rfl
theorem w_5_200 : (Jvm.Cond.methodLink "TaxFarmLaw" (158 : Nat) ({ cls := "TaxFarm", name := "mark", desc := "(IZ)Z" } : Jvm.MethodName)) ∈ tW := tWm (tm5 (List.mem_of_getElem? (i := 200) rfl)) rfl
theorem w_5_201 : (Jvm.Cond.instanceMethod ({ cls := "TaxFarm", name := "mark", desc := "(IZ)Z" } : Jvm.MethodName)) ∈ tW := tWm (tm5 (List.mem_of_getElem? (i := 201) rfl)) rfl
theorem w_5_202 : (Jvm.Cond.selects "TaxFarm" ({ cls := "TaxFarm", name := "mark", desc := "(IZ)Z" } : Jvm.MethodName) ({ cls := "TaxFarm", name := "mark", desc := "(IZ)Z" } : Jvm.MethodName)) ∈ tW := tWm (tm5 (List.mem_of_getElem? (i := 202) rfl)) rfl
theorem w_5_203 : (Jvm.Cond.code ({ cls := "TaxFarm", name := "mark", desc := "(IZ)Z" } : Jvm.MethodName) prog_1_method_37_code (4 : Nat) (Option.some Jvm.ClassFile.FieldType.boolean)) ∈ tW := tWm (tm5 (List.mem_of_getElem? (i := 203) rfl)) rfl
theorem w_5_205 : (Jvm.Cond.methodLink "TaxFarmLaw" (163 : Nat) ({ cls := "TaxFarm", name := "count", desc := "(I)I" } : Jvm.MethodName)) ∈ tW := tWm (tm5 (List.mem_of_getElem? (i := 205) rfl)) rfl
theorem w_5_206 : (Jvm.Cond.instanceMethod ({ cls := "TaxFarm", name := "count", desc := "(I)I" } : Jvm.MethodName)) ∈ tW := tWm (tm5 (List.mem_of_getElem? (i := 206) rfl)) rfl
theorem w_5_207 : (Jvm.Cond.selects "TaxFarm" ({ cls := "TaxFarm", name := "count", desc := "(I)I" } : Jvm.MethodName) ({ cls := "TaxFarm", name := "count", desc := "(I)I" } : Jvm.MethodName)) ∈ tW := tWm (tm5 (List.mem_of_getElem? (i := 207) rfl)) rfl
theorem w_5_208 : (Jvm.Cond.code ({ cls := "TaxFarm", name := "count", desc := "(I)I" } : Jvm.MethodName) prog_1_method_38_code (2 : Nat) (Option.some Jvm.ClassFile.FieldType.int)) ∈ tW := tWm (tm5 (List.mem_of_getElem? (i := 208) rfl)) rfl
theorem w_5_23 : (Jvm.Cond.methodLink "TaxFarmLaw" (104 : Nat) ({ cls := "TaxFarm", name := "worth", desc := "(I)I" } : Jvm.MethodName)) ∈ tW := tWm (tm5 (List.mem_of_getElem? (i := 23) rfl)) rfl
theorem w_5_24 : (Jvm.Cond.instanceMethod ({ cls := "TaxFarm", name := "worth", desc := "(I)I" } : Jvm.MethodName)) ∈ tW := tWm (tm5 (List.mem_of_getElem? (i := 24) rfl)) rfl
theorem w_5_25 : (Jvm.Cond.selects "TaxFarm" ({ cls := "TaxFarm", name := "worth", desc := "(I)I" } : Jvm.MethodName) ({ cls := "TaxFarm", name := "worth", desc := "(I)I" } : Jvm.MethodName)) ∈ tW := tWm (tm5 (List.mem_of_getElem? (i := 25) rfl)) rfl
theorem w_5_26 : (Jvm.Cond.code ({ cls := "TaxFarm", name := "worth", desc := "(I)I" } : Jvm.MethodName) prog_1_method_23_code (2 : Nat) (Option.some Jvm.ClassFile.FieldType.int)) ∈ tW := tWm (tm5 (List.mem_of_getElem? (i := 26) rfl)) rfl
theorem w_5_44 : (Jvm.Cond.methodLink "TaxFarmLaw" (108 : Nat) ({ cls := "TaxFarm", name := "news", desc := "()I" } : Jvm.MethodName)) ∈ tW := tWm (tm5 (List.mem_of_getElem? (i := 44) rfl)) rfl
theorem w_5_45 : (Jvm.Cond.instanceMethod ({ cls := "TaxFarm", name := "news", desc := "()I" } : Jvm.MethodName)) ∈ tW := tWm (tm5 (List.mem_of_getElem? (i := 45) rfl)) rfl
theorem w_5_46 : (Jvm.Cond.selects "TaxFarm" ({ cls := "TaxFarm", name := "news", desc := "()I" } : Jvm.MethodName) ({ cls := "TaxFarm", name := "news", desc := "()I" } : Jvm.MethodName)) ∈ tW := tWm (tm5 (List.mem_of_getElem? (i := 46) rfl)) rfl
theorem w_5_47 : (Jvm.Cond.code ({ cls := "TaxFarm", name := "news", desc := "()I" } : Jvm.MethodName) prog_1_method_24_code (1 : Nat) (Option.some Jvm.ClassFile.FieldType.int)) ∈ tW := tWm (tm5 (List.mem_of_getElem? (i := 47) rfl)) rfl
theorem w_5_56 : (Jvm.Cond.methodLink "TaxFarmLaw" (112 : Nat) ({ cls := "TaxFarm", name := "gather", desc := "(IIII)I" } : Jvm.MethodName)) ∈ tW := tWm (tm5 (List.mem_of_getElem? (i := 56) rfl)) rfl
theorem w_5_57 : (Jvm.Cond.instanceMethod ({ cls := "TaxFarm", name := "gather", desc := "(IIII)I" } : Jvm.MethodName)) ∈ tW := tWm (tm5 (List.mem_of_getElem? (i := 57) rfl)) rfl
theorem w_5_58 : (Jvm.Cond.selects "TaxFarm" ({ cls := "TaxFarm", name := "gather", desc := "(IIII)I" } : Jvm.MethodName) ({ cls := "TaxFarm", name := "gather", desc := "(IIII)I" } : Jvm.MethodName)) ∈ tW := tWm (tm5 (List.mem_of_getElem? (i := 58) rfl)) rfl
theorem w_5_59 : (Jvm.Cond.code ({ cls := "TaxFarm", name := "gather", desc := "(IIII)I" } : Jvm.MethodName) prog_1_method_25_code (5 : Nat) (Option.some Jvm.ClassFile.FieldType.int)) ∈ tW := tWm (tm5 (List.mem_of_getElem? (i := 59) rfl)) rfl
theorem w_5_83 : (Jvm.Cond.methodLink "TaxFarmLaw" (117 : Nat) ({ cls := "TaxFarm", name := "rate", desc := "(III)I" } : Jvm.MethodName)) ∈ tW := tWm (tm5 (List.mem_of_getElem? (i := 83) rfl)) rfl
theorem w_5_84 : (Jvm.Cond.instanceMethod ({ cls := "TaxFarm", name := "rate", desc := "(III)I" } : Jvm.MethodName)) ∈ tW := tWm (tm5 (List.mem_of_getElem? (i := 84) rfl)) rfl
theorem w_5_85 : (Jvm.Cond.selects "TaxFarm" ({ cls := "TaxFarm", name := "rate", desc := "(III)I" } : Jvm.MethodName) ({ cls := "TaxFarm", name := "rate", desc := "(III)I" } : Jvm.MethodName)) ∈ tW := tWm (tm5 (List.mem_of_getElem? (i := 85) rfl)) rfl
theorem w_5_86 : (Jvm.Cond.code ({ cls := "TaxFarm", name := "rate", desc := "(III)I" } : Jvm.MethodName) prog_1_method_26_code (4 : Nat) (Option.some Jvm.ClassFile.FieldType.int)) ∈ tW := tWm (tm5 (List.mem_of_getElem? (i := 86) rfl)) rfl
theorem w_5_95 : (Jvm.Cond.methodLink "TaxFarmLaw" (121 : Nat) ({ cls := "TaxFarm", name := "free", desc := "(I)I" } : Jvm.MethodName)) ∈ tW := tWm (tm5 (List.mem_of_getElem? (i := 95) rfl)) rfl
theorem w_5_96 : (Jvm.Cond.instanceMethod ({ cls := "TaxFarm", name := "free", desc := "(I)I" } : Jvm.MethodName)) ∈ tW := tWm (tm5 (List.mem_of_getElem? (i := 96) rfl)) rfl
theorem w_5_97 : (Jvm.Cond.selects "TaxFarm" ({ cls := "TaxFarm", name := "free", desc := "(I)I" } : Jvm.MethodName) ({ cls := "TaxFarm", name := "free", desc := "(I)I" } : Jvm.MethodName)) ∈ tW := tWm (tm5 (List.mem_of_getElem? (i := 97) rfl)) rfl
theorem w_5_98 : (Jvm.Cond.code ({ cls := "TaxFarm", name := "free", desc := "(I)I" } : Jvm.MethodName) prog_1_method_27_code (3 : Nat) (Option.some Jvm.ClassFile.FieldType.int)) ∈ tW := tWm (tm5 (List.mem_of_getElem? (i := 98) rfl)) rfl
theorem w_6_53 : (Jvm.Cond.methodLink "TaxFarmLaw" (151 : Nat) ({ cls := "TaxFarmModel", name := "thrown", desc := "()I" } : Jvm.MethodName)) ∈ tW := tWm (tm6 (List.mem_of_getElem? (i := 53) rfl)) rfl
theorem w_6_54 : (Jvm.Cond.instanceMethod ({ cls := "TaxFarmModel", name := "thrown", desc := "()I" } : Jvm.MethodName)) ∈ tW := tWm (tm6 (List.mem_of_getElem? (i := 54) rfl)) rfl
theorem w_6_55 : (Jvm.Cond.selects "TaxFarmModel" ({ cls := "TaxFarmModel", name := "thrown", desc := "()I" } : Jvm.MethodName) ({ cls := "TaxFarmModel", name := "thrown", desc := "()I" } : Jvm.MethodName)) ∈ tW := tWm (tm6 (List.mem_of_getElem? (i := 55) rfl)) rfl
theorem w_6_56 : (Jvm.Cond.code ({ cls := "TaxFarmModel", name := "thrown", desc := "()I" } : Jvm.MethodName) prog_13_method_1_code (1 : Nat) (Option.some Jvm.ClassFile.FieldType.int)) ∈ tW := tWm (tm6 (List.mem_of_getElem? (i := 56) rfl)) rfl
theorem w_6_57 : (Jvm.Cond.methodLink "TaxFarmLaw" (25 : Nat) ({ cls := "TaxFarmModel", name := "feed", desc := "(JJJ)I" } : Jvm.MethodName)) ∈ tW := tWm (tm6 (List.mem_of_getElem? (i := 57) rfl)) rfl
theorem w_6_58 : (Jvm.Cond.instanceMethod ({ cls := "TaxFarmModel", name := "feed", desc := "(JJJ)I" } : Jvm.MethodName)) ∈ tW := tWm (tm6 (List.mem_of_getElem? (i := 58) rfl)) rfl
theorem w_6_59 : (Jvm.Cond.selects "TaxFarmModel" ({ cls := "TaxFarmModel", name := "feed", desc := "(JJJ)I" } : Jvm.MethodName) ({ cls := "TaxFarmModel", name := "feed", desc := "(JJJ)I" } : Jvm.MethodName)) ∈ tW := tWm (tm6 (List.mem_of_getElem? (i := 59) rfl)) rfl
theorem w_6_60 : (Jvm.Cond.code ({ cls := "TaxFarmModel", name := "feed", desc := "(JJJ)I" } : Jvm.MethodName) prog_13_method_2_code (7 : Nat) (Option.some Jvm.ClassFile.FieldType.int)) ∈ tW := tWm (tm6 (List.mem_of_getElem? (i := 60) rfl)) rfl
theorem w_7_10 : (Jvm.Cond.instanceMethod ({ cls := "TaxFarmModel", name := "province", desc := "()I" } : Jvm.MethodName)) ∈ tW := tWm (tm7 (List.mem_of_getElem? (i := 10) rfl)) rfl
theorem w_7_11 : (Jvm.Cond.selects "TaxFarmModel" ({ cls := "TaxFarmModel", name := "province", desc := "()I" } : Jvm.MethodName) ({ cls := "TaxFarmModel", name := "province", desc := "()I" } : Jvm.MethodName)) ∈ tW := tWm (tm7 (List.mem_of_getElem? (i := 11) rfl)) rfl
theorem w_7_12 : (Jvm.Cond.code ({ cls := "TaxFarmModel", name := "province", desc := "()I" } : Jvm.MethodName) prog_13_method_26_code (2 : Nat) (Option.some Jvm.ClassFile.FieldType.int)) ∈ tW := tWm (tm7 (List.mem_of_getElem? (i := 12) rfl)) rfl
theorem w_7_127 : (Jvm.Cond.methodLink "TaxFarmLaw" (34 : Nat) ({ cls := "TaxFarmModel", name := "past", desc := "()I" } : Jvm.MethodName)) ∈ tW := tWm (tm7 (List.mem_of_getElem? (i := 127) rfl)) rfl
theorem w_7_128 : (Jvm.Cond.instanceMethod ({ cls := "TaxFarmModel", name := "past", desc := "()I" } : Jvm.MethodName)) ∈ tW := tWm (tm7 (List.mem_of_getElem? (i := 128) rfl)) rfl
theorem w_7_129 : (Jvm.Cond.selects "TaxFarmModel" ({ cls := "TaxFarmModel", name := "past", desc := "()I" } : Jvm.MethodName) ({ cls := "TaxFarmModel", name := "past", desc := "()I" } : Jvm.MethodName)) ∈ tW := tWm (tm7 (List.mem_of_getElem? (i := 129) rfl)) rfl
theorem w_7_130 : (Jvm.Cond.code ({ cls := "TaxFarmModel", name := "past", desc := "()I" } : Jvm.MethodName) prog_13_method_30_code (3 : Nat) (Option.some Jvm.ClassFile.FieldType.int)) ∈ tW := tWm (tm7 (List.mem_of_getElem? (i := 130) rfl)) rfl
theorem w_7_135 : (Jvm.Cond.methodLink "TaxFarmLaw" (39 : Nat) ({ cls := "TaxFarmModel", name := "town", desc := "(II)I" } : Jvm.MethodName)) ∈ tW := tWm (tm7 (List.mem_of_getElem? (i := 135) rfl)) rfl
theorem w_7_136 : (Jvm.Cond.instanceMethod ({ cls := "TaxFarmModel", name := "town", desc := "(II)I" } : Jvm.MethodName)) ∈ tW := tWm (tm7 (List.mem_of_getElem? (i := 136) rfl)) rfl
theorem w_7_137 : (Jvm.Cond.selects "TaxFarmModel" ({ cls := "TaxFarmModel", name := "town", desc := "(II)I" } : Jvm.MethodName) ({ cls := "TaxFarmModel", name := "town", desc := "(II)I" } : Jvm.MethodName)) ∈ tW := tWm (tm7 (List.mem_of_getElem? (i := 137) rfl)) rfl
theorem w_7_138 : (Jvm.Cond.code ({ cls := "TaxFarmModel", name := "town", desc := "(II)I" } : Jvm.MethodName) prog_13_method_81_code (3 : Nat) (Option.some Jvm.ClassFile.FieldType.int)) ∈ tW := tWm (tm7 (List.mem_of_getElem? (i := 138) rfl)) rfl
theorem w_7_147 : (Jvm.Cond.methodLink "TaxFarmLaw" (43 : Nat) ({ cls := "TaxFarmModel", name := "company", desc := "(II)I" } : Jvm.MethodName)) ∈ tW := tWm (tm7 (List.mem_of_getElem? (i := 147) rfl)) rfl
theorem w_7_148 : (Jvm.Cond.instanceMethod ({ cls := "TaxFarmModel", name := "company", desc := "(II)I" } : Jvm.MethodName)) ∈ tW := tWm (tm7 (List.mem_of_getElem? (i := 148) rfl)) rfl
theorem w_7_149 : (Jvm.Cond.selects "TaxFarmModel" ({ cls := "TaxFarmModel", name := "company", desc := "(II)I" } : Jvm.MethodName) ({ cls := "TaxFarmModel", name := "company", desc := "(II)I" } : Jvm.MethodName)) ∈ tW := tWm (tm7 (List.mem_of_getElem? (i := 149) rfl)) rfl
theorem w_7_150 : (Jvm.Cond.code ({ cls := "TaxFarmModel", name := "company", desc := "(II)I" } : Jvm.MethodName) prog_13_method_82_code (3 : Nat) (Option.some Jvm.ClassFile.FieldType.int)) ∈ tW := tWm (tm7 (List.mem_of_getElem? (i := 150) rfl)) rfl
theorem w_7_159 : (Jvm.Cond.methodLink "TaxFarmLaw" (47 : Nat) ({ cls := "TaxFarmModel", name := "juror", desc := "(II)I" } : Jvm.MethodName)) ∈ tW := tWm (tm7 (List.mem_of_getElem? (i := 159) rfl)) rfl
theorem w_7_160 : (Jvm.Cond.instanceMethod ({ cls := "TaxFarmModel", name := "juror", desc := "(II)I" } : Jvm.MethodName)) ∈ tW := tWm (tm7 (List.mem_of_getElem? (i := 160) rfl)) rfl
theorem w_7_161 : (Jvm.Cond.selects "TaxFarmModel" ({ cls := "TaxFarmModel", name := "juror", desc := "(II)I" } : Jvm.MethodName) ({ cls := "TaxFarmModel", name := "juror", desc := "(II)I" } : Jvm.MethodName)) ∈ tW := tWm (tm7 (List.mem_of_getElem? (i := 161) rfl)) rfl
theorem w_7_162 : (Jvm.Cond.code ({ cls := "TaxFarmModel", name := "juror", desc := "(II)I" } : Jvm.MethodName) prog_13_method_83_code (3 : Nat) (Option.some Jvm.ClassFile.FieldType.int)) ∈ tW := tWm (tm7 (List.mem_of_getElem? (i := 162) rfl)) rfl
theorem w_7_179 : (Jvm.Cond.methodLink "TaxFarmLaw" (51 : Nat) ({ cls := "TaxFarmModel", name := "holder", desc := "()I" } : Jvm.MethodName)) ∈ tW := tWm (tm7 (List.mem_of_getElem? (i := 179) rfl)) rfl
theorem w_7_180 : (Jvm.Cond.instanceMethod ({ cls := "TaxFarmModel", name := "holder", desc := "()I" } : Jvm.MethodName)) ∈ tW := tWm (tm7 (List.mem_of_getElem? (i := 180) rfl)) rfl
theorem w_7_181 : (Jvm.Cond.selects "TaxFarmModel" ({ cls := "TaxFarmModel", name := "holder", desc := "()I" } : Jvm.MethodName) ({ cls := "TaxFarmModel", name := "holder", desc := "()I" } : Jvm.MethodName)) ∈ tW := tWm (tm7 (List.mem_of_getElem? (i := 181) rfl)) rfl
theorem w_7_182 : (Jvm.Cond.code ({ cls := "TaxFarmModel", name := "holder", desc := "()I" } : Jvm.MethodName) prog_13_method_84_code (1 : Nat) (Option.some Jvm.ClassFile.FieldType.int)) ∈ tW := tWm (tm7 (List.mem_of_getElem? (i := 182) rfl)) rfl
theorem w_7_183 : (Jvm.Cond.methodLink "TaxFarmLaw" (56 : Nat) ({ cls := "TaxFarmModel", name := "bid", desc := "(II)Z" } : Jvm.MethodName)) ∈ tW := tWm (tm7 (List.mem_of_getElem? (i := 183) rfl)) rfl
theorem w_7_184 : (Jvm.Cond.instanceMethod ({ cls := "TaxFarmModel", name := "bid", desc := "(II)Z" } : Jvm.MethodName)) ∈ tW := tWm (tm7 (List.mem_of_getElem? (i := 184) rfl)) rfl
theorem w_7_185 : (Jvm.Cond.selects "TaxFarmModel" ({ cls := "TaxFarmModel", name := "bid", desc := "(II)Z" } : Jvm.MethodName) ({ cls := "TaxFarmModel", name := "bid", desc := "(II)Z" } : Jvm.MethodName)) ∈ tW := tWm (tm7 (List.mem_of_getElem? (i := 185) rfl)) rfl
theorem w_7_186 : (Jvm.Cond.code ({ cls := "TaxFarmModel", name := "bid", desc := "(II)Z" } : Jvm.MethodName) prog_13_method_85_code (3 : Nat) (Option.some Jvm.ClassFile.FieldType.boolean)) ∈ tW := tWm (tm7 (List.mem_of_getElem? (i := 186) rfl)) rfl
theorem w_7_199 : (Jvm.Cond.methodLink "TaxFarmLaw" (60 : Nat) ({ cls := "TaxFarmModel", name := "award", desc := "()I" } : Jvm.MethodName)) ∈ tW := tWm (tm7 (List.mem_of_getElem? (i := 199) rfl)) rfl
theorem w_7_200 : (Jvm.Cond.instanceMethod ({ cls := "TaxFarmModel", name := "award", desc := "()I" } : Jvm.MethodName)) ∈ tW := tWm (tm7 (List.mem_of_getElem? (i := 200) rfl)) rfl
theorem w_7_201 : (Jvm.Cond.selects "TaxFarmModel" ({ cls := "TaxFarmModel", name := "award", desc := "()I" } : Jvm.MethodName) ({ cls := "TaxFarmModel", name := "award", desc := "()I" } : Jvm.MethodName)) ∈ tW := tWm (tm7 (List.mem_of_getElem? (i := 201) rfl)) rfl
theorem w_7_202 : (Jvm.Cond.code ({ cls := "TaxFarmModel", name := "award", desc := "()I" } : Jvm.MethodName) prog_13_method_86_code (1 : Nat) (Option.some Jvm.ClassFile.FieldType.int)) ∈ tW := tWm (tm7 (List.mem_of_getElem? (i := 202) rfl)) rfl
theorem w_7_215 : (Jvm.Cond.methodLink "TaxFarmLaw" (65 : Nat) ({ cls := "TaxFarmModel", name := "year", desc := "(I)I" } : Jvm.MethodName)) ∈ tW := tWm (tm7 (List.mem_of_getElem? (i := 215) rfl)) rfl
theorem w_7_216 : (Jvm.Cond.instanceMethod ({ cls := "TaxFarmModel", name := "year", desc := "(I)I" } : Jvm.MethodName)) ∈ tW := tWm (tm7 (List.mem_of_getElem? (i := 216) rfl)) rfl
theorem w_7_217 : (Jvm.Cond.selects "TaxFarmModel" ({ cls := "TaxFarmModel", name := "year", desc := "(I)I" } : Jvm.MethodName) ({ cls := "TaxFarmModel", name := "year", desc := "(I)I" } : Jvm.MethodName)) ∈ tW := tWm (tm7 (List.mem_of_getElem? (i := 217) rfl)) rfl
theorem w_7_218 : (Jvm.Cond.code ({ cls := "TaxFarmModel", name := "year", desc := "(I)I" } : Jvm.MethodName) prog_13_method_87_code (2 : Nat) (Option.some Jvm.ClassFile.FieldType.int)) ∈ tW := tWm (tm7 (List.mem_of_getElem? (i := 218) rfl)) rfl
theorem w_7_9 : (Jvm.Cond.methodLink "TaxFarmLaw" (30 : Nat) ({ cls := "TaxFarmModel", name := "province", desc := "()I" } : Jvm.MethodName)) ∈ tW := tWm (tm7 (List.mem_of_getElem? (i := 9) rfl)) rfl
theorem w_8_100 : (Jvm.Cond.methodLink "TaxFarmLaw" (99 : Nat) ({ cls := "TaxFarmModel", name := "undo", desc := "()Z" } : Jvm.MethodName)) ∈ tW := tWm (tm8 (List.mem_of_getElem? (i := 100) rfl)) rfl
theorem w_8_101 : (Jvm.Cond.instanceMethod ({ cls := "TaxFarmModel", name := "undo", desc := "()Z" } : Jvm.MethodName)) ∈ tW := tWm (tm8 (List.mem_of_getElem? (i := 101) rfl)) rfl
theorem w_8_102 : (Jvm.Cond.selects "TaxFarmModel" ({ cls := "TaxFarmModel", name := "undo", desc := "()Z" } : Jvm.MethodName) ({ cls := "TaxFarmModel", name := "undo", desc := "()Z" } : Jvm.MethodName)) ∈ tW := tWm (tm8 (List.mem_of_getElem? (i := 102) rfl)) rfl
theorem w_8_103 : (Jvm.Cond.code ({ cls := "TaxFarmModel", name := "undo", desc := "()Z" } : Jvm.MethodName) prog_13_method_95_code (1 : Nat) (Option.some Jvm.ClassFile.FieldType.boolean)) ∈ tW := tWm (tm8 (List.mem_of_getElem? (i := 103) rfl)) rfl
theorem w_8_104 : (Jvm.Cond.methodLink "TaxFarmLaw" (103 : Nat) ({ cls := "TaxFarmModel", name := "judged", desc := "(I)I" } : Jvm.MethodName)) ∈ tW := tWm (tm8 (List.mem_of_getElem? (i := 104) rfl)) rfl
theorem w_8_105 : (Jvm.Cond.instanceMethod ({ cls := "TaxFarmModel", name := "judged", desc := "(I)I" } : Jvm.MethodName)) ∈ tW := tWm (tm8 (List.mem_of_getElem? (i := 105) rfl)) rfl
theorem w_8_106 : (Jvm.Cond.selects "TaxFarmModel" ({ cls := "TaxFarmModel", name := "judged", desc := "(I)I" } : Jvm.MethodName) ({ cls := "TaxFarmModel", name := "judged", desc := "(I)I" } : Jvm.MethodName)) ∈ tW := tWm (tm8 (List.mem_of_getElem? (i := 106) rfl)) rfl
theorem w_8_107 : (Jvm.Cond.code ({ cls := "TaxFarmModel", name := "judged", desc := "(I)I" } : Jvm.MethodName) prog_13_method_99_code (6 : Nat) (Option.some Jvm.ClassFile.FieldType.int)) ∈ tW := tWm (tm8 (List.mem_of_getElem? (i := 107) rfl)) rfl
theorem w_8_120 : (Jvm.Cond.methodLink "TaxFarmLaw" (107 : Nat) ({ cls := "TaxFarmModel", name := "worth", desc := "(I)I" } : Jvm.MethodName)) ∈ tW := tWm (tm8 (List.mem_of_getElem? (i := 120) rfl)) rfl
theorem w_8_121 : (Jvm.Cond.instanceMethod ({ cls := "TaxFarmModel", name := "worth", desc := "(I)I" } : Jvm.MethodName)) ∈ tW := tWm (tm8 (List.mem_of_getElem? (i := 121) rfl)) rfl
theorem w_8_122 : (Jvm.Cond.selects "TaxFarmModel" ({ cls := "TaxFarmModel", name := "worth", desc := "(I)I" } : Jvm.MethodName) ({ cls := "TaxFarmModel", name := "worth", desc := "(I)I" } : Jvm.MethodName)) ∈ tW := tWm (tm8 (List.mem_of_getElem? (i := 122) rfl)) rfl
theorem w_8_123 : (Jvm.Cond.code ({ cls := "TaxFarmModel", name := "worth", desc := "(I)I" } : Jvm.MethodName) prog_13_method_102_code (2 : Nat) (Option.some Jvm.ClassFile.FieldType.int)) ∈ tW := tWm (tm8 (List.mem_of_getElem? (i := 123) rfl)) rfl
theorem w_8_13 : (Jvm.Cond.methodLink "TaxFarmLaw" (69 : Nat) ({ cls := "TaxFarmModel", name := "take", desc := "(II)I" } : Jvm.MethodName)) ∈ tW := tWm (tm8 (List.mem_of_getElem? (i := 13) rfl)) rfl
theorem w_8_132 : (Jvm.Cond.methodLink "TaxFarmLaw" (111 : Nat) ({ cls := "TaxFarmModel", name := "news", desc := "()I" } : Jvm.MethodName)) ∈ tW := tWm (tm8 (List.mem_of_getElem? (i := 132) rfl)) rfl
theorem w_8_133 : (Jvm.Cond.instanceMethod ({ cls := "TaxFarmModel", name := "news", desc := "()I" } : Jvm.MethodName)) ∈ tW := tWm (tm8 (List.mem_of_getElem? (i := 133) rfl)) rfl
theorem w_8_134 : (Jvm.Cond.selects "TaxFarmModel" ({ cls := "TaxFarmModel", name := "news", desc := "()I" } : Jvm.MethodName) ({ cls := "TaxFarmModel", name := "news", desc := "()I" } : Jvm.MethodName)) ∈ tW := tWm (tm8 (List.mem_of_getElem? (i := 134) rfl)) rfl
theorem w_8_135 : (Jvm.Cond.code ({ cls := "TaxFarmModel", name := "news", desc := "()I" } : Jvm.MethodName) prog_13_method_103_code (6 : Nat) (Option.some Jvm.ClassFile.FieldType.int)) ∈ tW := tWm (tm8 (List.mem_of_getElem? (i := 135) rfl)) rfl
theorem w_8_136 : (Jvm.Cond.methodLink "TaxFarmLaw" (116 : Nat) ({ cls := "TaxFarmModel", name := "gather", desc := "(IIII)I" } : Jvm.MethodName)) ∈ tW := tWm (tm8 (List.mem_of_getElem? (i := 136) rfl)) rfl
theorem w_8_137 : (Jvm.Cond.instanceMethod ({ cls := "TaxFarmModel", name := "gather", desc := "(IIII)I" } : Jvm.MethodName)) ∈ tW := tWm (tm8 (List.mem_of_getElem? (i := 137) rfl)) rfl
theorem w_8_138 : (Jvm.Cond.selects "TaxFarmModel" ({ cls := "TaxFarmModel", name := "gather", desc := "(IIII)I" } : Jvm.MethodName) ({ cls := "TaxFarmModel", name := "gather", desc := "(IIII)I" } : Jvm.MethodName)) ∈ tW := tWm (tm8 (List.mem_of_getElem? (i := 138) rfl)) rfl
theorem w_8_139 : (Jvm.Cond.code ({ cls := "TaxFarmModel", name := "gather", desc := "(IIII)I" } : Jvm.MethodName) prog_13_method_105_code (5 : Nat) (Option.some Jvm.ClassFile.FieldType.int)) ∈ tW := tWm (tm8 (List.mem_of_getElem? (i := 139) rfl)) rfl
theorem w_8_14 : (Jvm.Cond.instanceMethod ({ cls := "TaxFarmModel", name := "take", desc := "(II)I" } : Jvm.MethodName)) ∈ tW := tWm (tm8 (List.mem_of_getElem? (i := 14) rfl)) rfl
theorem w_8_144 : (Jvm.Cond.methodLink "TaxFarmLaw" (120 : Nat) ({ cls := "TaxFarmModel", name := "rate", desc := "(III)I" } : Jvm.MethodName)) ∈ tW := tWm (tm8 (List.mem_of_getElem? (i := 144) rfl)) rfl
theorem w_8_145 : (Jvm.Cond.instanceMethod ({ cls := "TaxFarmModel", name := "rate", desc := "(III)I" } : Jvm.MethodName)) ∈ tW := tWm (tm8 (List.mem_of_getElem? (i := 145) rfl)) rfl
theorem w_8_146 : (Jvm.Cond.selects "TaxFarmModel" ({ cls := "TaxFarmModel", name := "rate", desc := "(III)I" } : Jvm.MethodName) ({ cls := "TaxFarmModel", name := "rate", desc := "(III)I" } : Jvm.MethodName)) ∈ tW := tWm (tm8 (List.mem_of_getElem? (i := 146) rfl)) rfl
theorem w_8_147 : (Jvm.Cond.code ({ cls := "TaxFarmModel", name := "rate", desc := "(III)I" } : Jvm.MethodName) prog_13_method_107_code (5 : Nat) (Option.some Jvm.ClassFile.FieldType.int)) ∈ tW := tWm (tm8 (List.mem_of_getElem? (i := 147) rfl)) rfl
theorem w_8_15 : (Jvm.Cond.selects "TaxFarmModel" ({ cls := "TaxFarmModel", name := "take", desc := "(II)I" } : Jvm.MethodName) ({ cls := "TaxFarmModel", name := "take", desc := "(II)I" } : Jvm.MethodName)) ∈ tW := tWm (tm8 (List.mem_of_getElem? (i := 15) rfl)) rfl
theorem w_8_152 : (Jvm.Cond.methodLink "TaxFarmLaw" (124 : Nat) ({ cls := "TaxFarmModel", name := "free", desc := "(I)I" } : Jvm.MethodName)) ∈ tW := tWm (tm8 (List.mem_of_getElem? (i := 152) rfl)) rfl
theorem w_8_153 : (Jvm.Cond.instanceMethod ({ cls := "TaxFarmModel", name := "free", desc := "(I)I" } : Jvm.MethodName)) ∈ tW := tWm (tm8 (List.mem_of_getElem? (i := 153) rfl)) rfl
theorem w_8_154 : (Jvm.Cond.selects "TaxFarmModel" ({ cls := "TaxFarmModel", name := "free", desc := "(I)I" } : Jvm.MethodName) ({ cls := "TaxFarmModel", name := "free", desc := "(I)I" } : Jvm.MethodName)) ∈ tW := tWm (tm8 (List.mem_of_getElem? (i := 154) rfl)) rfl
theorem w_8_155 : (Jvm.Cond.code ({ cls := "TaxFarmModel", name := "free", desc := "(I)I" } : Jvm.MethodName) prog_13_method_109_code (6 : Nat) (Option.some Jvm.ClassFile.FieldType.int)) ∈ tW := tWm (tm8 (List.mem_of_getElem? (i := 155) rfl)) rfl
theorem w_8_16 : (Jvm.Cond.code ({ cls := "TaxFarmModel", name := "take", desc := "(II)I" } : Jvm.MethodName) prog_13_method_88_code (3 : Nat) (Option.some Jvm.ClassFile.FieldType.int)) ∈ tW := tWm (tm8 (List.mem_of_getElem? (i := 16) rfl)) rfl
theorem w_8_160 : (Jvm.Cond.methodLink "TaxFarmLaw" (128 : Nat) ({ cls := "TaxFarmModel", name := "agree", desc := "(II)I" } : Jvm.MethodName)) ∈ tW := tWm (tm8 (List.mem_of_getElem? (i := 160) rfl)) rfl
theorem w_8_161 : (Jvm.Cond.instanceMethod ({ cls := "TaxFarmModel", name := "agree", desc := "(II)I" } : Jvm.MethodName)) ∈ tW := tWm (tm8 (List.mem_of_getElem? (i := 161) rfl)) rfl
theorem w_8_162 : (Jvm.Cond.selects "TaxFarmModel" ({ cls := "TaxFarmModel", name := "agree", desc := "(II)I" } : Jvm.MethodName) ({ cls := "TaxFarmModel", name := "agree", desc := "(II)I" } : Jvm.MethodName)) ∈ tW := tWm (tm8 (List.mem_of_getElem? (i := 162) rfl)) rfl
theorem w_8_163 : (Jvm.Cond.code ({ cls := "TaxFarmModel", name := "agree", desc := "(II)I" } : Jvm.MethodName) prog_13_method_110_code (6 : Nat) (Option.some Jvm.ClassFile.FieldType.int)) ∈ tW := tWm (tm8 (List.mem_of_getElem? (i := 163) rfl)) rfl
theorem w_8_164 : (Jvm.Cond.methodLink "TaxFarmLaw" (132 : Nat) ({ cls := "TaxFarmModel", name := "tale", desc := "(II)Z" } : Jvm.MethodName)) ∈ tW := tWm (tm8 (List.mem_of_getElem? (i := 164) rfl)) rfl
theorem w_8_165 : (Jvm.Cond.instanceMethod ({ cls := "TaxFarmModel", name := "tale", desc := "(II)Z" } : Jvm.MethodName)) ∈ tW := tWm (tm8 (List.mem_of_getElem? (i := 165) rfl)) rfl
theorem w_8_166 : (Jvm.Cond.selects "TaxFarmModel" ({ cls := "TaxFarmModel", name := "tale", desc := "(II)Z" } : Jvm.MethodName) ({ cls := "TaxFarmModel", name := "tale", desc := "(II)Z" } : Jvm.MethodName)) ∈ tW := tWm (tm8 (List.mem_of_getElem? (i := 166) rfl)) rfl
theorem w_8_167 : (Jvm.Cond.code ({ cls := "TaxFarmModel", name := "tale", desc := "(II)Z" } : Jvm.MethodName) prog_13_method_111_code (3 : Nat) (Option.some Jvm.ClassFile.FieldType.boolean)) ∈ tW := tWm (tm8 (List.mem_of_getElem? (i := 167) rfl)) rfl
theorem w_8_169 : (Jvm.Cond.methodLink "TaxFarmLaw" (136 : Nat) ({ cls := "TaxFarmModel", name := "knew", desc := "(II)I" } : Jvm.MethodName)) ∈ tW := tWm (tm8 (List.mem_of_getElem? (i := 169) rfl)) rfl
theorem w_8_170 : (Jvm.Cond.instanceMethod ({ cls := "TaxFarmModel", name := "knew", desc := "(II)I" } : Jvm.MethodName)) ∈ tW := tWm (tm8 (List.mem_of_getElem? (i := 170) rfl)) rfl
theorem w_8_171 : (Jvm.Cond.selects "TaxFarmModel" ({ cls := "TaxFarmModel", name := "knew", desc := "(II)I" } : Jvm.MethodName) ({ cls := "TaxFarmModel", name := "knew", desc := "(II)I" } : Jvm.MethodName)) ∈ tW := tWm (tm8 (List.mem_of_getElem? (i := 171) rfl)) rfl
theorem w_8_172 : (Jvm.Cond.code ({ cls := "TaxFarmModel", name := "knew", desc := "(II)I" } : Jvm.MethodName) prog_13_method_113_code (3 : Nat) (Option.some Jvm.ClassFile.FieldType.int)) ∈ tW := tWm (tm8 (List.mem_of_getElem? (i := 172) rfl)) rfl
theorem w_8_177 : (Jvm.Cond.methodLink "TaxFarmLaw" (140 : Nat) ({ cls := "TaxFarmModel", name := "secret", desc := "()I" } : Jvm.MethodName)) ∈ tW := tWm (tm8 (List.mem_of_getElem? (i := 177) rfl)) rfl
theorem w_8_178 : (Jvm.Cond.instanceMethod ({ cls := "TaxFarmModel", name := "secret", desc := "()I" } : Jvm.MethodName)) ∈ tW := tWm (tm8 (List.mem_of_getElem? (i := 178) rfl)) rfl
theorem w_8_179 : (Jvm.Cond.selects "TaxFarmModel" ({ cls := "TaxFarmModel", name := "secret", desc := "()I" } : Jvm.MethodName) ({ cls := "TaxFarmModel", name := "secret", desc := "()I" } : Jvm.MethodName)) ∈ tW := tWm (tm8 (List.mem_of_getElem? (i := 179) rfl)) rfl
theorem w_8_180 : (Jvm.Cond.code ({ cls := "TaxFarmModel", name := "secret", desc := "()I" } : Jvm.MethodName) prog_13_method_114_code (3 : Nat) (Option.some Jvm.ClassFile.FieldType.int)) ∈ tW := tWm (tm8 (List.mem_of_getElem? (i := 180) rfl)) rfl
theorem w_8_181 : (Jvm.Cond.methodLink "TaxFarmLaw" (144 : Nat) ({ cls := "TaxFarmModel", name := "next", desc := "()I" } : Jvm.MethodName)) ∈ tW := tWm (tm8 (List.mem_of_getElem? (i := 181) rfl)) rfl
theorem w_8_182 : (Jvm.Cond.instanceMethod ({ cls := "TaxFarmModel", name := "next", desc := "()I" } : Jvm.MethodName)) ∈ tW := tWm (tm8 (List.mem_of_getElem? (i := 182) rfl)) rfl
theorem w_8_183 : (Jvm.Cond.selects "TaxFarmModel" ({ cls := "TaxFarmModel", name := "next", desc := "()I" } : Jvm.MethodName) ({ cls := "TaxFarmModel", name := "next", desc := "()I" } : Jvm.MethodName)) ∈ tW := tWm (tm8 (List.mem_of_getElem? (i := 183) rfl)) rfl
theorem w_8_184 : (Jvm.Cond.code ({ cls := "TaxFarmModel", name := "next", desc := "()I" } : Jvm.MethodName) prog_13_method_116_code (6 : Nat) (Option.some Jvm.ClassFile.FieldType.int)) ∈ tW := tWm (tm8 (List.mem_of_getElem? (i := 184) rfl)) rfl
theorem w_8_189 : (Jvm.Cond.methodLink "TaxFarmLaw" (150 : Nat) ({ cls := "TaxFarmModel", name := "rests", desc := "(III)I" } : Jvm.MethodName)) ∈ tW := tWm (tm8 (List.mem_of_getElem? (i := 189) rfl)) rfl
theorem w_8_190 : (Jvm.Cond.instanceMethod ({ cls := "TaxFarmModel", name := "rests", desc := "(III)I" } : Jvm.MethodName)) ∈ tW := tWm (tm8 (List.mem_of_getElem? (i := 190) rfl)) rfl
theorem w_8_191 : (Jvm.Cond.selects "TaxFarmModel" ({ cls := "TaxFarmModel", name := "rests", desc := "(III)I" } : Jvm.MethodName) ({ cls := "TaxFarmModel", name := "rests", desc := "(III)I" } : Jvm.MethodName)) ∈ tW := tWm (tm8 (List.mem_of_getElem? (i := 191) rfl)) rfl
theorem w_8_192 : (Jvm.Cond.code ({ cls := "TaxFarmModel", name := "rests", desc := "(III)I" } : Jvm.MethodName) prog_13_method_118_code (12 : Nat) (Option.some Jvm.ClassFile.FieldType.int)) ∈ tW := tWm (tm8 (List.mem_of_getElem? (i := 192) rfl)) rfl
theorem w_8_196 : (Jvm.Cond.methodLink "TaxFarmLaw" (157 : Nat) ({ cls := "TaxFarmModel", name := "lustra", desc := "(III)I" } : Jvm.MethodName)) ∈ tW := tWm (tm8 (List.mem_of_getElem? (i := 196) rfl)) rfl
theorem w_8_197 : (Jvm.Cond.instanceMethod ({ cls := "TaxFarmModel", name := "lustra", desc := "(III)I" } : Jvm.MethodName)) ∈ tW := tWm (tm8 (List.mem_of_getElem? (i := 197) rfl)) rfl
theorem w_8_198 : (Jvm.Cond.selects "TaxFarmModel" ({ cls := "TaxFarmModel", name := "lustra", desc := "(III)I" } : Jvm.MethodName) ({ cls := "TaxFarmModel", name := "lustra", desc := "(III)I" } : Jvm.MethodName)) ∈ tW := tWm (tm8 (List.mem_of_getElem? (i := 198) rfl)) rfl
theorem w_8_199 : (Jvm.Cond.code ({ cls := "TaxFarmModel", name := "lustra", desc := "(III)I" } : Jvm.MethodName) prog_13_method_122_code (6 : Nat) (Option.some Jvm.ClassFile.FieldType.int)) ∈ tW := tWm (tm8 (List.mem_of_getElem? (i := 199) rfl)) rfl
theorem w_8_216 : (Jvm.Cond.methodLink "TaxFarmLaw" (162 : Nat) ({ cls := "TaxFarmModel", name := "mark", desc := "(IZ)Z" } : Jvm.MethodName)) ∈ tW := tWm (tm8 (List.mem_of_getElem? (i := 216) rfl)) rfl
theorem w_8_217 : (Jvm.Cond.instanceMethod ({ cls := "TaxFarmModel", name := "mark", desc := "(IZ)Z" } : Jvm.MethodName)) ∈ tW := tWm (tm8 (List.mem_of_getElem? (i := 217) rfl)) rfl
theorem w_8_218 : (Jvm.Cond.selects "TaxFarmModel" ({ cls := "TaxFarmModel", name := "mark", desc := "(IZ)Z" } : Jvm.MethodName) ({ cls := "TaxFarmModel", name := "mark", desc := "(IZ)Z" } : Jvm.MethodName)) ∈ tW := tWm (tm8 (List.mem_of_getElem? (i := 218) rfl)) rfl
theorem w_8_219 : (Jvm.Cond.code ({ cls := "TaxFarmModel", name := "mark", desc := "(IZ)Z" } : Jvm.MethodName) prog_13_method_123_code (3 : Nat) (Option.some Jvm.ClassFile.FieldType.boolean)) ∈ tW := tWm (tm8 (List.mem_of_getElem? (i := 219) rfl)) rfl
theorem w_8_220 : (Jvm.Cond.methodLink "TaxFarmLaw" (166 : Nat) ({ cls := "TaxFarmModel", name := "count", desc := "(I)I" } : Jvm.MethodName)) ∈ tW := tWm (tm8 (List.mem_of_getElem? (i := 220) rfl)) rfl
theorem w_8_221 : (Jvm.Cond.instanceMethod ({ cls := "TaxFarmModel", name := "count", desc := "(I)I" } : Jvm.MethodName)) ∈ tW := tWm (tm8 (List.mem_of_getElem? (i := 221) rfl)) rfl
theorem w_8_222 : (Jvm.Cond.selects "TaxFarmModel" ({ cls := "TaxFarmModel", name := "count", desc := "(I)I" } : Jvm.MethodName) ({ cls := "TaxFarmModel", name := "count", desc := "(I)I" } : Jvm.MethodName)) ∈ tW := tWm (tm8 (List.mem_of_getElem? (i := 222) rfl)) rfl
theorem w_8_223 : (Jvm.Cond.code ({ cls := "TaxFarmModel", name := "count", desc := "(I)I" } : Jvm.MethodName) prog_13_method_125_code (2 : Nat) (Option.some Jvm.ClassFile.FieldType.int)) ∈ tW := tWm (tm8 (List.mem_of_getElem? (i := 223) rfl)) rfl
theorem w_8_228 : (Jvm.Cond.constantLong "TaxFarmLaw" (19 : Nat) (4294967295 : Int64)) ∈ tW := tWm (tm8 (List.mem_of_getElem? (i := 228) rfl)) rfl
theorem w_8_32 : (Jvm.Cond.methodLink "TaxFarmLaw" (73 : Nat) ({ cls := "TaxFarmModel", name := "lend", desc := "(II)I" } : Jvm.MethodName)) ∈ tW := tWm (tm8 (List.mem_of_getElem? (i := 32) rfl)) rfl
theorem w_8_33 : (Jvm.Cond.instanceMethod ({ cls := "TaxFarmModel", name := "lend", desc := "(II)I" } : Jvm.MethodName)) ∈ tW := tWm (tm8 (List.mem_of_getElem? (i := 33) rfl)) rfl
theorem w_8_34 : (Jvm.Cond.selects "TaxFarmModel" ({ cls := "TaxFarmModel", name := "lend", desc := "(II)I" } : Jvm.MethodName) ({ cls := "TaxFarmModel", name := "lend", desc := "(II)I" } : Jvm.MethodName)) ∈ tW := tWm (tm8 (List.mem_of_getElem? (i := 34) rfl)) rfl
theorem w_8_35 : (Jvm.Cond.code ({ cls := "TaxFarmModel", name := "lend", desc := "(II)I" } : Jvm.MethodName) prog_13_method_89_code (3 : Nat) (Option.some Jvm.ClassFile.FieldType.int)) ∈ tW := tWm (tm8 (List.mem_of_getElem? (i := 35) rfl)) rfl
theorem w_8_44 : (Jvm.Cond.methodLink "TaxFarmLaw" (77 : Nat) ({ cls := "TaxFarmModel", name := "call", desc := "(II)I" } : Jvm.MethodName)) ∈ tW := tWm (tm8 (List.mem_of_getElem? (i := 44) rfl)) rfl
theorem w_8_45 : (Jvm.Cond.instanceMethod ({ cls := "TaxFarmModel", name := "call", desc := "(II)I" } : Jvm.MethodName)) ∈ tW := tWm (tm8 (List.mem_of_getElem? (i := 45) rfl)) rfl
theorem w_8_46 : (Jvm.Cond.selects "TaxFarmModel" ({ cls := "TaxFarmModel", name := "call", desc := "(II)I" } : Jvm.MethodName) ({ cls := "TaxFarmModel", name := "call", desc := "(II)I" } : Jvm.MethodName)) ∈ tW := tWm (tm8 (List.mem_of_getElem? (i := 46) rfl)) rfl
theorem w_8_47 : (Jvm.Cond.code ({ cls := "TaxFarmModel", name := "call", desc := "(II)I" } : Jvm.MethodName) prog_13_method_90_code (3 : Nat) (Option.some Jvm.ClassFile.FieldType.int)) ∈ tW := tWm (tm8 (List.mem_of_getElem? (i := 47) rfl)) rfl
theorem w_8_56 : (Jvm.Cond.methodLink "TaxFarmLaw" (81 : Nat) ({ cls := "TaxFarmModel", name := "spare", desc := "(I)I" } : Jvm.MethodName)) ∈ tW := tWm (tm8 (List.mem_of_getElem? (i := 56) rfl)) rfl
theorem w_8_57 : (Jvm.Cond.instanceMethod ({ cls := "TaxFarmModel", name := "spare", desc := "(I)I" } : Jvm.MethodName)) ∈ tW := tWm (tm8 (List.mem_of_getElem? (i := 57) rfl)) rfl
theorem w_8_58 : (Jvm.Cond.selects "TaxFarmModel" ({ cls := "TaxFarmModel", name := "spare", desc := "(I)I" } : Jvm.MethodName) ({ cls := "TaxFarmModel", name := "spare", desc := "(I)I" } : Jvm.MethodName)) ∈ tW := tWm (tm8 (List.mem_of_getElem? (i := 58) rfl)) rfl
theorem w_8_59 : (Jvm.Cond.code ({ cls := "TaxFarmModel", name := "spare", desc := "(I)I" } : Jvm.MethodName) prog_13_method_91_code (2 : Nat) (Option.some Jvm.ClassFile.FieldType.int)) ∈ tW := tWm (tm8 (List.mem_of_getElem? (i := 59) rfl)) rfl
theorem w_8_68 : (Jvm.Cond.methodLink "TaxFarmLaw" (86 : Nat) ({ cls := "TaxFarmModel", name := "bribe", desc := "(I)Z" } : Jvm.MethodName)) ∈ tW := tWm (tm8 (List.mem_of_getElem? (i := 68) rfl)) rfl
theorem w_8_69 : (Jvm.Cond.instanceMethod ({ cls := "TaxFarmModel", name := "bribe", desc := "(I)Z" } : Jvm.MethodName)) ∈ tW := tWm (tm8 (List.mem_of_getElem? (i := 69) rfl)) rfl
theorem w_8_70 : (Jvm.Cond.selects "TaxFarmModel" ({ cls := "TaxFarmModel", name := "bribe", desc := "(I)Z" } : Jvm.MethodName) ({ cls := "TaxFarmModel", name := "bribe", desc := "(I)Z" } : Jvm.MethodName)) ∈ tW := tWm (tm8 (List.mem_of_getElem? (i := 70) rfl)) rfl
theorem w_8_71 : (Jvm.Cond.code ({ cls := "TaxFarmModel", name := "bribe", desc := "(I)Z" } : Jvm.MethodName) prog_13_method_92_code (2 : Nat) (Option.some Jvm.ClassFile.FieldType.boolean)) ∈ tW := tWm (tm8 (List.mem_of_getElem? (i := 71) rfl)) rfl
theorem w_8_80 : (Jvm.Cond.methodLink "TaxFarmLaw" (90 : Nat) ({ cls := "TaxFarmModel", name := "sue", desc := "()I" } : Jvm.MethodName)) ∈ tW := tWm (tm8 (List.mem_of_getElem? (i := 80) rfl)) rfl
theorem w_8_81 : (Jvm.Cond.instanceMethod ({ cls := "TaxFarmModel", name := "sue", desc := "()I" } : Jvm.MethodName)) ∈ tW := tWm (tm8 (List.mem_of_getElem? (i := 81) rfl)) rfl
theorem w_8_82 : (Jvm.Cond.selects "TaxFarmModel" ({ cls := "TaxFarmModel", name := "sue", desc := "()I" } : Jvm.MethodName) ({ cls := "TaxFarmModel", name := "sue", desc := "()I" } : Jvm.MethodName)) ∈ tW := tWm (tm8 (List.mem_of_getElem? (i := 82) rfl)) rfl
theorem w_8_83 : (Jvm.Cond.code ({ cls := "TaxFarmModel", name := "sue", desc := "()I" } : Jvm.MethodName) prog_13_method_93_code (1 : Nat) (Option.some Jvm.ClassFile.FieldType.int)) ∈ tW := tWm (tm8 (List.mem_of_getElem? (i := 83) rfl)) rfl
theorem w_8_92 : (Jvm.Cond.methodLink "TaxFarmLaw" (95 : Nat) ({ cls := "TaxFarmModel", name := "close", desc := "()Z" } : Jvm.MethodName)) ∈ tW := tWm (tm8 (List.mem_of_getElem? (i := 92) rfl)) rfl
theorem w_8_93 : (Jvm.Cond.instanceMethod ({ cls := "TaxFarmModel", name := "close", desc := "()Z" } : Jvm.MethodName)) ∈ tW := tWm (tm8 (List.mem_of_getElem? (i := 93) rfl)) rfl
theorem w_8_94 : (Jvm.Cond.selects "TaxFarmModel" ({ cls := "TaxFarmModel", name := "close", desc := "()Z" } : Jvm.MethodName) ({ cls := "TaxFarmModel", name := "close", desc := "()Z" } : Jvm.MethodName)) ∈ tW := tWm (tm8 (List.mem_of_getElem? (i := 94) rfl)) rfl
theorem w_8_95 : (Jvm.Cond.code ({ cls := "TaxFarmModel", name := "close", desc := "()Z" } : Jvm.MethodName) prog_13_method_94_code (1 : Nat) (Option.some Jvm.ClassFile.FieldType.boolean)) ∈ tW := tWm (tm8 (List.mem_of_getElem? (i := 95) rfl)) rfl
set_option maxRecDepth 100000 in
theorem law_feed {E : tE} {A : Nat → Prop} {p : Program} {l : Launch} {e : Env} {s : State} {m : MethodId} {below : List Frame} {meth : Method} {c : Code} {b L out i cells slots : Nat} {xs : Nat → Int32} {Q : State → Prop} {G : tH} {f : Nat → Int64} {H : Heap} {locs : List Loc} {ls : Array Slot} (hX : lwX E A p l s m c b L xs) (hi : i + 7 ≤ L) (hL : L ≤ 3584) (hG : INV G) (ht : tokG G) (hV : nV E A s (tWd E G ++ [(out, lgC E f)]) H locs) (hl : lv_has ls 7 (lwL E b out i)) (hc : cells + 1 ≤ 601024) (hs : slots + 6 ≤ 7293033) (nx : lwN E A p l e s m below meth c b out i Q (cells + 1) (slots + 6)) : W p l e room_1 s m #[Value.ref b] below meth c H locs cells slots Q (F0 m 188 ls []) := by
  obtain ⟨hX0, hAl, hXs, hbl, htr, hTh, hs1, hs2⟩ := hX
  have hx := hX0.1
  have hb := hX0.2.1
  have hbA : ¬ A b := hAl b hbl
  obtain ⟨r, G1, G2, e1, e2, hG2⟩ := p_feed (lw2 (xs (i + 1)) (xs (i + 2))) (lw2 (xs (i + 3)) (xs (i + 4))) (lw2 (xs (i + 5)) (xs (i + 6))) hG
  refine lv_aload_n hx hb (by decide +kernel : decode cL_law 188 = .ok (.aload_n 1, 1)) rfl (lv_at hl 2 rfl) ?_
  refine lv_aload_n hx hb (by decide +kernel : decode cL_law 189 = .ok (.aload_n 0, 1)) rfl (lv_at hl 1 rfl) ?_
  refine lv_iload hx hb (by decide +kernel : decode cL_law 190 = .ok (.iload 4, 2)) (lv_at hl 0 rfl) ?_
  refine lv_iconst (v := nI 1) hx hb (by decide +kernel : decode cL_law 192 = .ok (.iconst 1, 1)) (by decide +kernel) ?_
  refine lv_iadd hx hb (by decide +kernel : decode cL_law 193 = .ok (.iadd, 1)) ?_
  rw [nI_add]
  refine va_sld hx hb hXs hbl hbA hV.2.2 (i := nI (i + 1)) (vp_in_nI (by omega) (by omega)) (by decide +kernel : decode cL_law 194 = .ok (.iaload, 1)) ?_
  rw [nI_clamp (n := i + 1) (by omega)]
  refine lv_i2l (v := (xs (i + 1)).toInt64) hx hb (by decide +kernel : decode cL_law 195 = .ok (.i2l, 1)) rfl ?_
  refine lv_bipush (v := 32) hx hb (by decide +kernel : decode cL_law 196 = .ok (.bipush 32, 2)) (by decide) ?_
  refine lv_lshl (v := (xs (i + 1)).toInt64 <<< ((32 : Int32).toInt64 &&& 63)) hx hb (by decide +kernel : decode cL_law 198 = .ok (.lshl, 1)) rfl ?_
  refine lv_aload_n hx hb (by decide +kernel : decode cL_law 199 = .ok (.aload_n 0, 1)) rfl (lv_at hl 1 rfl) ?_
  refine lv_iload hx hb (by decide +kernel : decode cL_law 200 = .ok (.iload 4, 2)) (lv_at hl 0 rfl) ?_
  refine lv_iconst (v := nI 2) hx hb (by decide +kernel : decode cL_law 202 = .ok (.iconst 2, 1)) (by decide +kernel) ?_
  refine lv_iadd hx hb (by decide +kernel : decode cL_law 203 = .ok (.iadd, 1)) ?_
  rw [nI_add]
  refine va_sld hx hb hXs hbl hbA hV.2.2 (i := nI (i + 2)) (vp_in_nI (by omega) (by omega)) (by decide +kernel : decode cL_law 204 = .ok (.iaload, 1)) ?_
  rw [nI_clamp (n := i + 2) (by omega)]
  refine lv_i2l (v := (xs (i + 2)).toInt64) hx hb (by decide +kernel : decode cL_law 205 = .ok (.i2l, 1)) rfl ?_
  refine lv_ldc2 (v := 4294967295) hx hb hX0.2.2.2.1 (hX0.2.2.2.2.1 _ w_8_228) (by decide +kernel : decode cL_law 206 = .ok (.ldc2_w 19, 3)) ?_
  refine lv_land hx hb (by decide +kernel : decode cL_law 209 = .ok (.land, 1)) ?_
  refine lv_lor hx hb (by decide +kernel : decode cL_law 210 = .ok (.lor, 1)) ?_
  refine lv_aload_n hx hb (by decide +kernel : decode cL_law 211 = .ok (.aload_n 0, 1)) rfl (lv_at hl 1 rfl) ?_
  refine lv_iload hx hb (by decide +kernel : decode cL_law 212 = .ok (.iload 4, 2)) (lv_at hl 0 rfl) ?_
  refine lv_iconst (v := nI 3) hx hb (by decide +kernel : decode cL_law 214 = .ok (.iconst 3, 1)) (by decide +kernel) ?_
  refine lv_iadd hx hb (by decide +kernel : decode cL_law 215 = .ok (.iadd, 1)) ?_
  rw [nI_add]
  refine va_sld hx hb hXs hbl hbA hV.2.2 (i := nI (i + 3)) (vp_in_nI (by omega) (by omega)) (by decide +kernel : decode cL_law 216 = .ok (.iaload, 1)) ?_
  rw [nI_clamp (n := i + 3) (by omega)]
  refine lv_i2l (v := (xs (i + 3)).toInt64) hx hb (by decide +kernel : decode cL_law 217 = .ok (.i2l, 1)) rfl ?_
  refine lv_bipush (v := 32) hx hb (by decide +kernel : decode cL_law 218 = .ok (.bipush 32, 2)) (by decide) ?_
  refine lv_lshl (v := (xs (i + 3)).toInt64 <<< ((32 : Int32).toInt64 &&& 63)) hx hb (by decide +kernel : decode cL_law 220 = .ok (.lshl, 1)) rfl ?_
  refine lv_aload_n hx hb (by decide +kernel : decode cL_law 221 = .ok (.aload_n 0, 1)) rfl (lv_at hl 1 rfl) ?_
  refine lv_iload hx hb (by decide +kernel : decode cL_law 222 = .ok (.iload 4, 2)) (lv_at hl 0 rfl) ?_
  refine lv_iconst (v := nI 4) hx hb (by decide +kernel : decode cL_law 224 = .ok (.iconst 4, 1)) (by decide +kernel) ?_
  refine lv_iadd hx hb (by decide +kernel : decode cL_law 225 = .ok (.iadd, 1)) ?_
  rw [nI_add]
  refine va_sld hx hb hXs hbl hbA hV.2.2 (i := nI (i + 4)) (vp_in_nI (by omega) (by omega)) (by decide +kernel : decode cL_law 226 = .ok (.iaload, 1)) ?_
  rw [nI_clamp (n := i + 4) (by omega)]
  refine lv_i2l (v := (xs (i + 4)).toInt64) hx hb (by decide +kernel : decode cL_law 227 = .ok (.i2l, 1)) rfl ?_
  refine lv_ldc2 (v := 4294967295) hx hb hX0.2.2.2.1 (hX0.2.2.2.2.1 _ w_8_228) (by decide +kernel : decode cL_law 228 = .ok (.ldc2_w 19, 3)) ?_
  refine lv_land hx hb (by decide +kernel : decode cL_law 231 = .ok (.land, 1)) ?_
  refine lv_lor hx hb (by decide +kernel : decode cL_law 232 = .ok (.lor, 1)) ?_
  refine lv_aload_n hx hb (by decide +kernel : decode cL_law 233 = .ok (.aload_n 0, 1)) rfl (lv_at hl 1 rfl) ?_
  refine lv_iload hx hb (by decide +kernel : decode cL_law 234 = .ok (.iload 4, 2)) (lv_at hl 0 rfl) ?_
  refine lv_iconst (v := nI 5) hx hb (by decide +kernel : decode cL_law 236 = .ok (.iconst 5, 1)) (by decide +kernel) ?_
  refine lv_iadd hx hb (by decide +kernel : decode cL_law 237 = .ok (.iadd, 1)) ?_
  rw [nI_add]
  refine va_sld hx hb hXs hbl hbA hV.2.2 (i := nI (i + 5)) (vp_in_nI (by omega) (by omega)) (by decide +kernel : decode cL_law 238 = .ok (.iaload, 1)) ?_
  rw [nI_clamp (n := i + 5) (by omega)]
  refine lv_i2l (v := (xs (i + 5)).toInt64) hx hb (by decide +kernel : decode cL_law 239 = .ok (.i2l, 1)) rfl ?_
  refine lv_bipush (v := 32) hx hb (by decide +kernel : decode cL_law 240 = .ok (.bipush 32, 2)) (by decide) ?_
  refine lv_lshl (v := (xs (i + 5)).toInt64 <<< ((32 : Int32).toInt64 &&& 63)) hx hb (by decide +kernel : decode cL_law 242 = .ok (.lshl, 1)) rfl ?_
  refine lv_aload_n hx hb (by decide +kernel : decode cL_law 243 = .ok (.aload_n 0, 1)) rfl (lv_at hl 1 rfl) ?_
  refine lv_iload hx hb (by decide +kernel : decode cL_law 244 = .ok (.iload 4, 2)) (lv_at hl 0 rfl) ?_
  refine lv_bipush (v := nI 6) hx hb (by decide +kernel : decode cL_law 246 = .ok (.bipush 6, 2)) (by decide +kernel) ?_
  refine lv_iadd hx hb (by decide +kernel : decode cL_law 248 = .ok (.iadd, 1)) ?_
  rw [nI_add]
  refine va_sld hx hb hXs hbl hbA hV.2.2 (i := nI (i + 6)) (vp_in_nI (by omega) (by omega)) (by decide +kernel : decode cL_law 249 = .ok (.iaload, 1)) ?_
  rw [nI_clamp (n := i + 6) (by omega)]
  refine lv_i2l (v := (xs (i + 6)).toInt64) hx hb (by decide +kernel : decode cL_law 250 = .ok (.i2l, 1)) rfl ?_
  refine lv_ldc2 (v := 4294967295) hx hb hX0.2.2.2.1 (hX0.2.2.2.2.1 _ w_8_228) (by decide +kernel : decode cL_law 251 = .ok (.ldc2_w 19, 3)) ?_
  refine lv_land hx hb (by decide +kernel : decode cL_law 254 = .ok (.land, 1)) ?_
  refine lv_lor hx hb (by decide +kernel : decode cL_law 255 = .ok (.lor, 1)) ?_
  refine l_call (as := [vL (lw2 (xs (i + 1)) (xs (i + 2))), vL (lw2 (xs (i + 3)) (xs (i + 4))), vL (lw2 (xs (i + 5)) (xs (i + 6)))]) (ci := 10) (o := 0) (rest := []) (n := 3) hX0 (l_met (mid := 97) hX0.2.2.2.2.2.2.2 rfl rfl (tok_l (tok_l (tok_l (tok_1 tvd_10)))) ht rfl e1) tc_10 w_2_202 w_2_205 w_2_203 w_2_204 w_1_1 rfl (by decide +kernel) rfl (by decide +kernel) ⟨Nat.le_of_ble_eq_true rfl, Nat.le_of_ble_eq_true rfl⟩ hl.1 (Nat.le_of_ble_eq_true rfl) (by decide +kernel : decode cL_law 256 = .ok (.invokevirtual 21, 3)) ⟨by show cells ≤ 601024; omega, by show slots ≤ 7293033; omega⟩ hV (fun H locs ht10 hV => ?_)
  refine (?_ : W p l e room_1 s m #[Value.ref b] below meth c H locs cells slots Q (F0 m 259 ls [.int r]))
  refine lv_aload_n hx hb (by decide +kernel : decode cL_law 259 = .ok (.aload_n 2, 1)) rfl (lv_at hl 3 rfl) ?_
  refine lv_aload_n hx hb (by decide +kernel : decode cL_law 260 = .ok (.aload_n 0, 1)) rfl (lv_at hl 1 rfl) ?_
  refine lv_iload hx hb (by decide +kernel : decode cL_law 261 = .ok (.iload 4, 2)) (lv_at hl 0 rfl) ?_
  refine lv_iconst (v := nI 1) hx hb (by decide +kernel : decode cL_law 263 = .ok (.iconst 1, 1)) (by decide +kernel) ?_
  refine lv_iadd hx hb (by decide +kernel : decode cL_law 264 = .ok (.iadd, 1)) ?_
  rw [nI_add]
  refine va_sld hx hb hXs hbl hbA hV.2.2 (i := nI (i + 1)) (vp_in_nI (by omega) (by omega)) (by decide +kernel : decode cL_law 265 = .ok (.iaload, 1)) ?_
  rw [nI_clamp (n := i + 1) (by omega)]
  refine lv_i2l (v := (xs (i + 1)).toInt64) hx hb (by decide +kernel : decode cL_law 266 = .ok (.i2l, 1)) rfl ?_
  refine lv_bipush (v := 32) hx hb (by decide +kernel : decode cL_law 267 = .ok (.bipush 32, 2)) (by decide) ?_
  refine lv_lshl (v := (xs (i + 1)).toInt64 <<< ((32 : Int32).toInt64 &&& 63)) hx hb (by decide +kernel : decode cL_law 269 = .ok (.lshl, 1)) rfl ?_
  refine lv_aload_n hx hb (by decide +kernel : decode cL_law 270 = .ok (.aload_n 0, 1)) rfl (lv_at hl 1 rfl) ?_
  refine lv_iload hx hb (by decide +kernel : decode cL_law 271 = .ok (.iload 4, 2)) (lv_at hl 0 rfl) ?_
  refine lv_iconst (v := nI 2) hx hb (by decide +kernel : decode cL_law 273 = .ok (.iconst 2, 1)) (by decide +kernel) ?_
  refine lv_iadd hx hb (by decide +kernel : decode cL_law 274 = .ok (.iadd, 1)) ?_
  rw [nI_add]
  refine va_sld hx hb hXs hbl hbA hV.2.2 (i := nI (i + 2)) (vp_in_nI (by omega) (by omega)) (by decide +kernel : decode cL_law 275 = .ok (.iaload, 1)) ?_
  rw [nI_clamp (n := i + 2) (by omega)]
  refine lv_i2l (v := (xs (i + 2)).toInt64) hx hb (by decide +kernel : decode cL_law 276 = .ok (.i2l, 1)) rfl ?_
  refine lv_ldc2 (v := 4294967295) hx hb hX0.2.2.2.1 (hX0.2.2.2.2.1 _ w_8_228) (by decide +kernel : decode cL_law 277 = .ok (.ldc2_w 19, 3)) ?_
  refine lv_land hx hb (by decide +kernel : decode cL_law 280 = .ok (.land, 1)) ?_
  refine lv_lor hx hb (by decide +kernel : decode cL_law 281 = .ok (.lor, 1)) ?_
  refine lv_aload_n hx hb (by decide +kernel : decode cL_law 282 = .ok (.aload_n 0, 1)) rfl (lv_at hl 1 rfl) ?_
  refine lv_iload hx hb (by decide +kernel : decode cL_law 283 = .ok (.iload 4, 2)) (lv_at hl 0 rfl) ?_
  refine lv_iconst (v := nI 3) hx hb (by decide +kernel : decode cL_law 285 = .ok (.iconst 3, 1)) (by decide +kernel) ?_
  refine lv_iadd hx hb (by decide +kernel : decode cL_law 286 = .ok (.iadd, 1)) ?_
  rw [nI_add]
  refine va_sld hx hb hXs hbl hbA hV.2.2 (i := nI (i + 3)) (vp_in_nI (by omega) (by omega)) (by decide +kernel : decode cL_law 287 = .ok (.iaload, 1)) ?_
  rw [nI_clamp (n := i + 3) (by omega)]
  refine lv_i2l (v := (xs (i + 3)).toInt64) hx hb (by decide +kernel : decode cL_law 288 = .ok (.i2l, 1)) rfl ?_
  refine lv_bipush (v := 32) hx hb (by decide +kernel : decode cL_law 289 = .ok (.bipush 32, 2)) (by decide) ?_
  refine lv_lshl (v := (xs (i + 3)).toInt64 <<< ((32 : Int32).toInt64 &&& 63)) hx hb (by decide +kernel : decode cL_law 291 = .ok (.lshl, 1)) rfl ?_
  refine lv_aload_n hx hb (by decide +kernel : decode cL_law 292 = .ok (.aload_n 0, 1)) rfl (lv_at hl 1 rfl) ?_
  refine lv_iload hx hb (by decide +kernel : decode cL_law 293 = .ok (.iload 4, 2)) (lv_at hl 0 rfl) ?_
  refine lv_iconst (v := nI 4) hx hb (by decide +kernel : decode cL_law 295 = .ok (.iconst 4, 1)) (by decide +kernel) ?_
  refine lv_iadd hx hb (by decide +kernel : decode cL_law 296 = .ok (.iadd, 1)) ?_
  rw [nI_add]
  refine va_sld hx hb hXs hbl hbA hV.2.2 (i := nI (i + 4)) (vp_in_nI (by omega) (by omega)) (by decide +kernel : decode cL_law 297 = .ok (.iaload, 1)) ?_
  rw [nI_clamp (n := i + 4) (by omega)]
  refine lv_i2l (v := (xs (i + 4)).toInt64) hx hb (by decide +kernel : decode cL_law 298 = .ok (.i2l, 1)) rfl ?_
  refine lv_ldc2 (v := 4294967295) hx hb hX0.2.2.2.1 (hX0.2.2.2.2.1 _ w_8_228) (by decide +kernel : decode cL_law 299 = .ok (.ldc2_w 19, 3)) ?_
  refine lv_land hx hb (by decide +kernel : decode cL_law 302 = .ok (.land, 1)) ?_
  refine lv_lor hx hb (by decide +kernel : decode cL_law 303 = .ok (.lor, 1)) ?_
  refine lv_aload_n hx hb (by decide +kernel : decode cL_law 304 = .ok (.aload_n 0, 1)) rfl (lv_at hl 1 rfl) ?_
  refine lv_iload hx hb (by decide +kernel : decode cL_law 305 = .ok (.iload 4, 2)) (lv_at hl 0 rfl) ?_
  refine lv_iconst (v := nI 5) hx hb (by decide +kernel : decode cL_law 307 = .ok (.iconst 5, 1)) (by decide +kernel) ?_
  refine lv_iadd hx hb (by decide +kernel : decode cL_law 308 = .ok (.iadd, 1)) ?_
  rw [nI_add]
  refine va_sld hx hb hXs hbl hbA hV.2.2 (i := nI (i + 5)) (vp_in_nI (by omega) (by omega)) (by decide +kernel : decode cL_law 309 = .ok (.iaload, 1)) ?_
  rw [nI_clamp (n := i + 5) (by omega)]
  refine lv_i2l (v := (xs (i + 5)).toInt64) hx hb (by decide +kernel : decode cL_law 310 = .ok (.i2l, 1)) rfl ?_
  refine lv_bipush (v := 32) hx hb (by decide +kernel : decode cL_law 311 = .ok (.bipush 32, 2)) (by decide) ?_
  refine lv_lshl (v := (xs (i + 5)).toInt64 <<< ((32 : Int32).toInt64 &&& 63)) hx hb (by decide +kernel : decode cL_law 313 = .ok (.lshl, 1)) rfl ?_
  refine lv_aload_n hx hb (by decide +kernel : decode cL_law 314 = .ok (.aload_n 0, 1)) rfl (lv_at hl 1 rfl) ?_
  refine lv_iload hx hb (by decide +kernel : decode cL_law 315 = .ok (.iload 4, 2)) (lv_at hl 0 rfl) ?_
  refine lv_bipush (v := nI 6) hx hb (by decide +kernel : decode cL_law 317 = .ok (.bipush 6, 2)) (by decide +kernel) ?_
  refine lv_iadd hx hb (by decide +kernel : decode cL_law 319 = .ok (.iadd, 1)) ?_
  rw [nI_add]
  refine va_sld hx hb hXs hbl hbA hV.2.2 (i := nI (i + 6)) (vp_in_nI (by omega) (by omega)) (by decide +kernel : decode cL_law 320 = .ok (.iaload, 1)) ?_
  rw [nI_clamp (n := i + 6) (by omega)]
  refine lv_i2l (v := (xs (i + 6)).toInt64) hx hb (by decide +kernel : decode cL_law 321 = .ok (.i2l, 1)) rfl ?_
  refine lv_ldc2 (v := 4294967295) hx hb hX0.2.2.2.1 (hX0.2.2.2.2.1 _ w_8_228) (by decide +kernel : decode cL_law 322 = .ok (.ldc2_w 19, 3)) ?_
  refine lv_land hx hb (by decide +kernel : decode cL_law 325 = .ok (.land, 1)) ?_
  refine lv_lor hx hb (by decide +kernel : decode cL_law 326 = .ok (.lor, 1)) ?_
  refine l_call (as := [vL (lw2 (xs (i + 1)) (xs (i + 2))), vL (lw2 (xs (i + 3)) (xs (i + 4))), vL (lw2 (xs (i + 5)) (xs (i + 6)))]) (ci := 11) (o := 0) (rest := [.int r]) (n := 3) hX0 (l_met (mid := 136) hX0.2.2.2.2.2.2.2 rfl rfl (tok_l (tok_l (tok_l (tok_1 tvd_11)))) ht10.1 rfl e2) tc_11 w_6_57 w_6_60 w_6_58 w_6_59 w_1_13 rfl (by decide +kernel) rfl (by decide +kernel) ⟨Nat.le_of_ble_eq_true rfl, Nat.le_of_ble_eq_true rfl⟩ hl.1 (Nat.le_of_ble_eq_true rfl) (by decide +kernel : decode cL_law 327 = .ok (.invokevirtual 25, 3)) ⟨by show cells ≤ 601024; omega, by show slots ≤ 7293033; omega⟩ hV (fun H locs ht11 hV => ?_)
  refine (?_ : W p l e room_1 s m #[Value.ref b] below meth c H locs cells slots Q (F0 m 330 ls [.int r, .int r]))
  refine lv_icmp_eq (tgt := 1302) hx hb (by decide +kernel : decode cL_law 330 = .ok (.if_icmp .eq 972, 3)) (by decide) (fun _ => ?_) (fun h => absurd rfl h)
  exact W.widen (k := cells + 1) (n := slots + 6) (by omega) (by omega) (nx G2 f H locs ls hG2 ht11.1 hV hl)
set_option maxRecDepth 100000 in
theorem law_province {E : tE} {A : Nat → Prop} {p : Program} {l : Launch} {e : Env} {s : State} {m : MethodId} {below : List Frame} {meth : Method} {c : Code} {b L out i cells slots : Nat} {xs : Nat → Int32} {Q : State → Prop} {G : tH} {f : Nat → Int64} {H : Heap} {locs : List Loc} {ls : Array Slot} (hX : lwX E A p l s m c b L xs) (hi : i + 7 ≤ L) (hL : L ≤ 3584) (hG : INV G) (ht : tokG G) (hV : nV E A s (tWd E G ++ [(out, lgC E f)]) H locs) (hl : lv_has ls 7 (lwL E b out i)) (hc : cells + 1 ≤ 601024) (hs : slots + 6 ≤ 7293033) (nx : lwN E A p l e s m below meth c b out i Q (cells + 1) (slots + 6)) : W p l e room_1 s m #[Value.ref b] below meth c H locs cells slots Q (F0 m 335 ls []) := by
  obtain ⟨hX0, hAl, hXs, hbl, htr, hTh, hs1, hs2⟩ := hX
  have hx := hX0.1
  have hb := hX0.2.1
  have hbA : ¬ A b := hAl b hbl
  obtain ⟨r, G1, G2, e1, e2, hG2⟩ := p_province  hG
  refine lv_aload_n hx hb (by decide +kernel : decode cL_law 335 = .ok (.aload_n 1, 1)) rfl (lv_at hl 2 rfl) ?_
  refine l_call (as := []) (ci := 10) (o := 0) (rest := []) (n := 0) hX0 (l_met (mid := 99) hX0.2.2.2.2.2.2.2 rfl rfl (tok_1 tvd_10) ht rfl e1) tc_10 w_2_215 w_2_218 w_2_216 w_2_217 w_1_1 rfl (by decide +kernel) rfl (by decide +kernel) ⟨Nat.le_of_ble_eq_true rfl, Nat.le_of_ble_eq_true rfl⟩ hl.1 (Nat.le_of_ble_eq_true rfl) (by decide +kernel : decode cL_law 336 = .ok (.invokevirtual 26, 3)) ⟨by show cells ≤ 601024; omega, by show slots ≤ 7293033; omega⟩ hV (fun H locs ht10 hV => ?_)
  refine (?_ : W p l e room_1 s m #[Value.ref b] below meth c H locs cells slots Q (F0 m 339 ls [.int r]))
  refine lv_aload_n hx hb (by decide +kernel : decode cL_law 339 = .ok (.aload_n 2, 1)) rfl (lv_at hl 3 rfl) ?_
  refine l_call (as := []) (ci := 11) (o := 0) (rest := [.int r]) (n := 0) hX0 (l_met (mid := 159) hX0.2.2.2.2.2.2.2 rfl rfl (tok_1 tvd_11) ht10.1 rfl e2) tc_11 w_7_9 w_7_12 w_7_10 w_7_11 w_1_13 rfl (by decide +kernel) rfl (by decide +kernel) ⟨Nat.le_of_ble_eq_true rfl, Nat.le_of_ble_eq_true rfl⟩ hl.1 (Nat.le_of_ble_eq_true rfl) (by decide +kernel : decode cL_law 340 = .ok (.invokevirtual 30, 3)) ⟨by show cells ≤ 601024; omega, by show slots ≤ 7293033; omega⟩ hV (fun H locs ht11 hV => ?_)
  refine (?_ : W p l e room_1 s m #[Value.ref b] below meth c H locs cells slots Q (F0 m 343 ls [.int r, .int r]))
  refine lv_icmp_eq (tgt := 1302) hx hb (by decide +kernel : decode cL_law 343 = .ok (.if_icmp .eq 959, 3)) (by decide) (fun _ => ?_) (fun h => absurd rfl h)
  exact W.widen (k := cells + 1) (n := slots + 6) (by omega) (by omega) (nx G2 f H locs ls hG2 ht11.1 hV hl)
set_option maxRecDepth 100000 in
theorem law_past {E : tE} {A : Nat → Prop} {p : Program} {l : Launch} {e : Env} {s : State} {m : MethodId} {below : List Frame} {meth : Method} {c : Code} {b L out i cells slots : Nat} {xs : Nat → Int32} {Q : State → Prop} {G : tH} {f : Nat → Int64} {H : Heap} {locs : List Loc} {ls : Array Slot} (hX : lwX E A p l s m c b L xs) (hi : i + 7 ≤ L) (hL : L ≤ 3584) (hG : INV G) (ht : tokG G) (hV : nV E A s (tWd E G ++ [(out, lgC E f)]) H locs) (hl : lv_has ls 7 (lwL E b out i)) (hc : cells + 1 ≤ 601024) (hs : slots + 6 ≤ 7293033) (nx : lwN E A p l e s m below meth c b out i Q (cells + 1) (slots + 6)) : W p l e room_1 s m #[Value.ref b] below meth c H locs cells slots Q (F0 m 348 ls []) := by
  obtain ⟨hX0, hAl, hXs, hbl, htr, hTh, hs1, hs2⟩ := hX
  have hx := hX0.1
  have hb := hX0.2.1
  have hbA : ¬ A b := hAl b hbl
  obtain ⟨r, G1, G2, e1, e2, hG2⟩ := p_past  hG
  refine lv_aload_n hx hb (by decide +kernel : decode cL_law 348 = .ok (.aload_n 1, 1)) rfl (lv_at hl 2 rfl) ?_
  refine l_call (as := []) (ci := 10) (o := 0) (rest := []) (n := 0) hX0 (l_met (mid := 101) hX0.2.2.2.2.2.2.2 rfl rfl (tok_1 tvd_10) ht rfl e1) tc_10 w_4_12 w_4_15 w_4_13 w_4_14 w_1_1 rfl (by decide +kernel) rfl (by decide +kernel) ⟨Nat.le_of_ble_eq_true rfl, Nat.le_of_ble_eq_true rfl⟩ hl.1 (Nat.le_of_ble_eq_true rfl) (by decide +kernel : decode cL_law 349 = .ok (.invokevirtual 31, 3)) ⟨by show cells ≤ 601024; omega, by show slots ≤ 7293033; omega⟩ hV (fun H locs ht10 hV => ?_)
  refine (?_ : W p l e room_1 s m #[Value.ref b] below meth c H locs cells slots Q (F0 m 352 ls [.int r]))
  refine lv_aload_n hx hb (by decide +kernel : decode cL_law 352 = .ok (.aload_n 2, 1)) rfl (lv_at hl 3 rfl) ?_
  refine l_call (as := []) (ci := 11) (o := 0) (rest := [.int r]) (n := 0) hX0 (l_met (mid := 163) hX0.2.2.2.2.2.2.2 rfl rfl (tok_1 tvd_11) ht10.1 rfl e2) tc_11 w_7_127 w_7_130 w_7_128 w_7_129 w_1_13 rfl (by decide +kernel) rfl (by decide +kernel) ⟨Nat.le_of_ble_eq_true rfl, Nat.le_of_ble_eq_true rfl⟩ hl.1 (Nat.le_of_ble_eq_true rfl) (by decide +kernel : decode cL_law 353 = .ok (.invokevirtual 34, 3)) ⟨by show cells ≤ 601024; omega, by show slots ≤ 7293033; omega⟩ hV (fun H locs ht11 hV => ?_)
  refine (?_ : W p l e room_1 s m #[Value.ref b] below meth c H locs cells slots Q (F0 m 356 ls [.int r, .int r]))
  refine lv_icmp_eq (tgt := 1302) hx hb (by decide +kernel : decode cL_law 356 = .ok (.if_icmp .eq 946, 3)) (by decide) (fun _ => ?_) (fun h => absurd rfl h)
  exact W.widen (k := cells + 1) (n := slots + 6) (by omega) (by omega) (nx G2 f H locs ls hG2 ht11.1 hV hl)
set_option maxRecDepth 100000 in
theorem law_town {E : tE} {A : Nat → Prop} {p : Program} {l : Launch} {e : Env} {s : State} {m : MethodId} {below : List Frame} {meth : Method} {c : Code} {b L out i cells slots : Nat} {xs : Nat → Int32} {Q : State → Prop} {G : tH} {f : Nat → Int64} {H : Heap} {locs : List Loc} {ls : Array Slot} (hX : lwX E A p l s m c b L xs) (hi : i + 7 ≤ L) (hL : L ≤ 3584) (hG : INV G) (ht : tokG G) (hV : nV E A s (tWd E G ++ [(out, lgC E f)]) H locs) (hl : lv_has ls 7 (lwL E b out i)) (hc : cells + 1 ≤ 601024) (hs : slots + 6 ≤ 7293033) (nx : lwN E A p l e s m below meth c b out i Q (cells + 1) (slots + 6)) : W p l e room_1 s m #[Value.ref b] below meth c H locs cells slots Q (F0 m 361 ls []) := by
  obtain ⟨hX0, hAl, hXs, hbl, htr, hTh, hs1, hs2⟩ := hX
  have hx := hX0.1
  have hb := hX0.2.1
  have hbA : ¬ A b := hAl b hbl
  obtain ⟨r, G1, G2, e1, e2, hG2⟩ := p_town (xs (i + 1)) (xs (i + 2)) hG
  refine lv_aload_n hx hb (by decide +kernel : decode cL_law 361 = .ok (.aload_n 1, 1)) rfl (lv_at hl 2 rfl) ?_
  refine lv_aload_n hx hb (by decide +kernel : decode cL_law 362 = .ok (.aload_n 0, 1)) rfl (lv_at hl 1 rfl) ?_
  refine lv_iload hx hb (by decide +kernel : decode cL_law 363 = .ok (.iload 4, 2)) (lv_at hl 0 rfl) ?_
  refine lv_iconst (v := nI 1) hx hb (by decide +kernel : decode cL_law 365 = .ok (.iconst 1, 1)) (by decide +kernel) ?_
  refine lv_iadd hx hb (by decide +kernel : decode cL_law 366 = .ok (.iadd, 1)) ?_
  rw [nI_add]
  refine va_sld hx hb hXs hbl hbA hV.2.2 (i := nI (i + 1)) (vp_in_nI (by omega) (by omega)) (by decide +kernel : decode cL_law 367 = .ok (.iaload, 1)) ?_
  rw [nI_clamp (n := i + 1) (by omega)]
  refine lv_aload_n hx hb (by decide +kernel : decode cL_law 368 = .ok (.aload_n 0, 1)) rfl (lv_at hl 1 rfl) ?_
  refine lv_iload hx hb (by decide +kernel : decode cL_law 369 = .ok (.iload 4, 2)) (lv_at hl 0 rfl) ?_
  refine lv_iconst (v := nI 2) hx hb (by decide +kernel : decode cL_law 371 = .ok (.iconst 2, 1)) (by decide +kernel) ?_
  refine lv_iadd hx hb (by decide +kernel : decode cL_law 372 = .ok (.iadd, 1)) ?_
  rw [nI_add]
  refine va_sld hx hb hXs hbl hbA hV.2.2 (i := nI (i + 2)) (vp_in_nI (by omega) (by omega)) (by decide +kernel : decode cL_law 373 = .ok (.iaload, 1)) ?_
  rw [nI_clamp (n := i + 2) (by omega)]
  refine l_call (as := [vI (xs (i + 1)), vI (xs (i + 2))]) (ci := 10) (o := 0) (rest := []) (n := 2) hX0 (l_met (mid := 102) hX0.2.2.2.2.2.2.2 rfl rfl (tok_i (tok_i (tok_1 tvd_10))) ht rfl e1) tc_10 w_4_39 w_4_42 w_4_40 w_4_41 w_1_1 rfl (by decide +kernel) rfl (by decide +kernel) ⟨Nat.le_of_ble_eq_true rfl, Nat.le_of_ble_eq_true rfl⟩ hl.1 (Nat.le_of_ble_eq_true rfl) (by decide +kernel : decode cL_law 374 = .ok (.invokevirtual 35, 3)) ⟨by show cells ≤ 601024; omega, by show slots ≤ 7293033; omega⟩ hV (fun H locs ht10 hV => ?_)
  refine (?_ : W p l e room_1 s m #[Value.ref b] below meth c H locs cells slots Q (F0 m 377 ls [.int r]))
  refine lv_aload_n hx hb (by decide +kernel : decode cL_law 377 = .ok (.aload_n 2, 1)) rfl (lv_at hl 3 rfl) ?_
  refine lv_aload_n hx hb (by decide +kernel : decode cL_law 378 = .ok (.aload_n 0, 1)) rfl (lv_at hl 1 rfl) ?_
  refine lv_iload hx hb (by decide +kernel : decode cL_law 379 = .ok (.iload 4, 2)) (lv_at hl 0 rfl) ?_
  refine lv_iconst (v := nI 1) hx hb (by decide +kernel : decode cL_law 381 = .ok (.iconst 1, 1)) (by decide +kernel) ?_
  refine lv_iadd hx hb (by decide +kernel : decode cL_law 382 = .ok (.iadd, 1)) ?_
  rw [nI_add]
  refine va_sld hx hb hXs hbl hbA hV.2.2 (i := nI (i + 1)) (vp_in_nI (by omega) (by omega)) (by decide +kernel : decode cL_law 383 = .ok (.iaload, 1)) ?_
  rw [nI_clamp (n := i + 1) (by omega)]
  refine lv_aload_n hx hb (by decide +kernel : decode cL_law 384 = .ok (.aload_n 0, 1)) rfl (lv_at hl 1 rfl) ?_
  refine lv_iload hx hb (by decide +kernel : decode cL_law 385 = .ok (.iload 4, 2)) (lv_at hl 0 rfl) ?_
  refine lv_iconst (v := nI 2) hx hb (by decide +kernel : decode cL_law 387 = .ok (.iconst 2, 1)) (by decide +kernel) ?_
  refine lv_iadd hx hb (by decide +kernel : decode cL_law 388 = .ok (.iadd, 1)) ?_
  rw [nI_add]
  refine va_sld hx hb hXs hbl hbA hV.2.2 (i := nI (i + 2)) (vp_in_nI (by omega) (by omega)) (by decide +kernel : decode cL_law 389 = .ok (.iaload, 1)) ?_
  rw [nI_clamp (n := i + 2) (by omega)]
  refine l_call (as := [vI (xs (i + 1)), vI (xs (i + 2))]) (ci := 11) (o := 0) (rest := [.int r]) (n := 2) hX0 (l_met (mid := 214) hX0.2.2.2.2.2.2.2 rfl rfl (tok_i (tok_i (tok_1 tvd_11))) ht10.1 rfl e2) tc_11 w_7_135 w_7_138 w_7_136 w_7_137 w_1_13 rfl (by decide +kernel) rfl (by decide +kernel) ⟨Nat.le_of_ble_eq_true rfl, Nat.le_of_ble_eq_true rfl⟩ hl.1 (Nat.le_of_ble_eq_true rfl) (by decide +kernel : decode cL_law 390 = .ok (.invokevirtual 39, 3)) ⟨by show cells ≤ 601024; omega, by show slots ≤ 7293033; omega⟩ hV (fun H locs ht11 hV => ?_)
  refine (?_ : W p l e room_1 s m #[Value.ref b] below meth c H locs cells slots Q (F0 m 393 ls [.int r, .int r]))
  refine lv_icmp_eq (tgt := 1302) hx hb (by decide +kernel : decode cL_law 393 = .ok (.if_icmp .eq 909, 3)) (by decide) (fun _ => ?_) (fun h => absurd rfl h)
  exact W.widen (k := cells + 1) (n := slots + 6) (by omega) (by omega) (nx G2 f H locs ls hG2 ht11.1 hV hl)
