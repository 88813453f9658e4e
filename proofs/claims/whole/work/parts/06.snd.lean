/-! What the pure machine says holds of the machine itself: each action -/
def tRm (d : Nat) : Room := { frames := d, cells := 0, slots := 0, locals := 64 * d }
def tW : List Cond := lw_tbl.filter goodWord
def tNest : List Cond := [.fieldLinkNest "TaxFarm$Outlook" 25 "TaxFarm$State" "told" "LTaxFarm$Province;" "TaxFarm", .fieldLinkNest "TaxFarm$Gathering" 38 "TaxFarm$State" "told" "LTaxFarm$Province;" "TaxFarm", .fieldLinkNest "TaxFarm$Draws" 29 "TaxFarm$State" "told" "LTaxFarm$Province;" "TaxFarm", .methodLinkNest "TaxFarm$State" 113 ⟨"TaxFarm", "within", "(III)I"⟩ "TaxFarm"]
def tStr : List (String × Nat × String × Nat) := [("TaxFarm$Tape", 51, "()<=+-*;", 0), ("TaxFarm$Province", 99, "town company harvest juror tithe bar alone owes", 1), ("TaxFarm$Tape", 68, "town company harvest juror tithe bar alone owes", 1), ("TaxFarm$Tape", 74, "bid award year take lend call spare bribe sue close", 2), ("TaxFarm$Tape", 76, "plain rich proud port", 3), ("TaxFarm$Tape", 78, "honest straw noble fair", 4), ("TaxFarm$Tape", 80, "means coins grows odds holds price not and or", 5), ("TaxFarm$Province", 160, "plain rich proud port", 3), ("TaxFarm$Province", 165, "means", 6), ("TaxFarm$Province", 170, "honest straw noble fair", 4), ("TaxFarm$Province", 172, "coins", 7), ("TaxFarm$Province", 173, "grows", 8), ("TaxFarm$Province", 174, "odds", 9), ("TaxFarm$Province", 175, "holds", 10), ("TaxFarm$Province", 181, "price", 11), ("TaxFarm$Law", 53, "wealth crop debt", 12), ("TaxFarm$Law", 58, "not", 13), ("TaxFarm$Law", 43, "and or", 14), ("TaxFarm$Past", 34, "bid award year take lend call spare bribe sue close", 2)]
def tKN (E : tE) (U : State) : Prop := va_K E.1 vwCl (ttys E) U ∧ (∀ w ∈ tNest, va_Nw w U) ∧ ∀ q ∈ tStr, vk_R q.1 q.2.1 q.2.2.1 (E.2.2 20 q.2.2.2) U
def tHK (E : tE) (U : State) (H : Heap) : Prop := vk_S 15 tslen tsbyt (E.2.2 20) (E.2.2 21) (tAP E) U H ∧ va_Z "java/lang/String" "COMPACT_STRINGS" "Z" (.int 1) (tAP E) U H ∧ va_Zq "jdk/internal/util/Preconditions" "SIOOBE_FORMATTER" "Ljava/util/function/BiFunction;" (tAP E) U H
def tPc (E : tE) (as : List tV) (G : tH) : Array Value → State → Prop := va_Pc (as.map (tmv E)) fun U => va_P E.1 vwCl (tWd E G) U.heap ∧ tKN E U ∧ tHK E U U.heap
def tvd (c o : Nat) : Prop := (c = 20 ∨ c = 21 ∨ c ∈ 22 :: tcomps) ∧ o < tcnt c
def tokV (v : tV) : Prop := match v with
  | .inr (.inr q) => tvd q.1 q.2
  | _ => True
def tokS (st : List tV) : Prop := ∀ v ∈ st, tokV v
def tokL (ls : tL) : Prop := ∀ i v, lget ls i = some v → tokV v
def tmut : List (Nat × Nat) := [(700, 5), (1001, 5), (1002, 5), (1003, 4), (1004, 4), (100, 5)]
def tokG (G : tH) : Prop := ∀ q ∈ tmut, ∀ o, gR G q.1 o < tcnt q.2
def tokR (r : tRes) : Prop := tokG r.2 ∧ ∀ v, r.1 = some v → tokV v
def tQ (E : tE) (r : tRes) : Array Value → State → Outcome → State → Prop := fun _ st oc t => oc = .returned (r.1.map (tmv E)) ∧ tokR r ∧ va_P E.1 vwCl (tWd E r.2) t.heap ∧ va_F (tAP E) st t
def tLR (E : tE) (nL : Nat) (lsA : Array Slot) (ls : tL) : Prop := lsA.size = nL ∧ lv_wf lsA ∧ ls.length ≤ nL ∧ ∀ i v, lget ls i = some v → lsA[i]? = some (.val (tmv E v))
def tX (E : tE) (p : Program) (s : State) (m : MethodId) (args : Array Value) (meth : Method) (c : Code) (own : String) (cc : ByteArray) (nL : Nat) (ret : Option FieldType) : Prop :=
  p.tables.exec = Jvm.exec ∧ c.code = cc ∧ c.maxLocals = nL ∧ meth.sig.returnType = ret ∧ meth.locks = false ∧ s.vm.findClass own = some m.cls ∧ (∀ w ∈ tW, w.before args s = true) ∧ tKN E s ∧ tHK E s s.heap ∧ tInj E
def tWc (E : tE) (p : Program) (l : Launch) (e : Env) (s : State) (m : MethodId) (args : Array Value) (below : List Frame) (meth : Method) (c : Code) (nL d : Nat) (q : tC) (r : tRes) : Prop :=
  ∀ (H : Heap) (locs : List Loc) (lsA : Array Slot), va_P E.1 vwCl (tWd E q.2.2.2) H → va_S (tAP E) s.heap H locs → tLR E nL lsA q.2.1 →
    W p l e (tRm d) s m args below meth c H locs 0 0 (MQ below (tQ E r) args s 0 0 (tAP E)) (F0 m q.1 lsA (q.2.2.1.map (tmv E)))
def tOk (q : tC) : Prop := tokS q.2.2.1 ∧ tokL q.2.1 ∧ tokG q.2.2.2
def tKS (E : tE) (p : Program) (l : Launch) (e : Env) (s : State) (m : MethodId) (args : Array Value) (below : List Frame) (meth : Method) (c : Code) (nL d : Nat) (K : tK) : Prop := ∀ q, tOk q → ∀ r, K q = some r → tWc E p l e s m args below meth c nL d q r
section TSND
variable (my : Nat → MethodName) (mc : Nat → ByteArray) (mL : Nat → Nat) (mr : Nat → Option FieldType)
def tmw (my : Nat → MethodName) (mc : Nat → ByteArray) (mL : Nat → Nat) (mr : Nat → Option FieldType) (mid : Nat) : List Cond := .code (my mid) (mc mid) (mL mid) (mr mid) :: tW
def tRS (E : tE) (l : Launch) (d : Nat) (rec : tRec) : Prop := ∀ mid as G r, tokS as → tokG G → rec mid as G = some r → ∃ d' : Nat, d' < d ∧ Met l (my mid) (tmw my mc mL mr mid) (tRm d') (tPc E as G) (tQ E r) 0 0 (tAP E)
def tSnd (own : String) (cc : ByteArray) (nL : Nat) (ret : Option FieldType) (pc : Nat) (a : tAct) : Prop :=
  ∀ (E : tE) (p : Program) (l : Launch) (e : Env) (s : State) (m : MethodId) (args : Array Value) (below : List Frame) (meth : Method) (c : Code) (d : Nat), tX E p s m args meth c own cc nL ret →
    ∀ rec, tRS my mc mL mr E l d rec → ∀ K, tKS E p l e s m args below meth c nL d K → ∀ ls st G r, tOk (pc, ls, st, G) → a d rec (pc, ls, st, G) K = some r → tWc E p l e s m args below meth c nL d (pc, ls, st, G) r
end TSND
theorem tokS_c {v : tV} {st : List tV} : tokS (v :: st) ↔ tokV v ∧ tokS st := List.forall_mem_cons
theorem lget_mask {bs : List Bool} : ∀ {ls : tL} {i : Nat} {v : tV}, lget (lmask bs ls) i = some v → lget ls i = some v := by
  induction bs with
  | nil => intro ls i v h; cases ls <;> cases h
  | cons b bs ih =>
    intro ls i v h
    cases ls with
    | nil => cases h
    | cons x ls =>
      cases i with
      | zero => cases b <;> first | exact h | cases h
      | succ i => exact ih (ls := ls) (i := i) h
theorem lmask_len {bs : List Bool} : ∀ {ls : tL}, (lmask bs ls).length ≤ ls.length := by
  induction bs with
  | nil => intro ls; cases ls <;> simp [lmask]
  | cons b bs ih =>
    intro ls
    cases ls with
    | nil => simp [lmask]
    | cons x ls => simp only [lmask, List.length_cons]; exact Nat.succ_le_succ ih
theorem tLR.mask {E : tE} {nL : Nat} {lsA : Array Slot} {ls : tL} {bs : List Bool} (h : tLR E nL lsA ls) : tLR E nL lsA (lmask bs ls) := ⟨h.1, h.2.1, Nat.le_trans lmask_len h.2.2.1, fun i v hv => h.2.2.2 i v (lget_mask hv)⟩
theorem lset1_len : ∀ (ls : tL) (i : Nat) (v : tV), (lset1 ls i v).length = ls.length
  | [], i, v => by simp [lset1]
  | x :: l, 0, v => by simp [lset1]
  | x :: l, 1, v => by simp [lset1, lset1_len l 0 v]
  | x :: l, i + 2, v => by simp [lset1, lset1_len l (i + 1) v]
theorem lset2_len : ∀ (ls : tL) (i : Nat) (v : tV), (lset2 ls i v).length = ls.length
  | [], i, v => by simp [lset2]
  | x :: l, 0, v => by cases l <;> simp [lset2, lnone]
  | x :: l, 1, v => by simp [lset2, lset2_len l 0 v]
  | x :: l, i + 2, v => by simp [lset2, lset2_len l (i + 1) v]
theorem lkill_some {x : Option tV} {w : tV} (h : lkill x = some w) : x = some w ∧ tcat w = 1 := by
  unfold lkill at h
  split at h
  · cases h
  · rename_i h2
    refine ⟨h, ?_⟩
    subst h
    unfold tcat
    split
    · rename_i z; exact absurd rfl (h2 z)
    · rfl
theorem lget_set1 : ∀ (ls : tL) (i : Nat) (v : tV) (j : Nat) (w : tV), lget (lset1 ls i v) j = some w → (j = i ∧ w = v) ∨ (j ≠ i ∧ lget ls j = some w ∧ ¬ (j + 1 = i ∧ tcat w = 2))
  | [], i, v, j, w, h => by simp [lset1, lget] at h
  | x :: l, 0, v, 0, w, h => by simp only [lset1, lget, Option.some.injEq] at h; exact Or.inl ⟨rfl, h.symm⟩
  | x :: l, 0, v, j + 1, w, h => Or.inr ⟨Nat.succ_ne_zero j, h, fun q => by omega⟩
  | x :: l, 1, v, 0, w, h => by
    obtain ⟨h1, h2⟩ := lkill_some (show lkill x = some w from h)
    exact Or.inr ⟨by omega, h1, fun q => by omega⟩
  | x :: l, 1, v, j + 1, w, h => by
    rcases lget_set1 l 0 v j w h with ⟨h1, h2⟩ | ⟨h1, h2, h3⟩
    · exact Or.inl ⟨by omega, h2⟩
    · exact Or.inr ⟨by omega, h2, fun q => by omega⟩
  | x :: l, i + 2, v, 0, w, h => Or.inr ⟨by omega, h, fun q => by omega⟩
  | x :: l, i + 2, v, j + 1, w, h => by
    rcases lget_set1 l (i + 1) v j w h with ⟨h1, h2⟩ | ⟨h1, h2, h3⟩
    · exact Or.inl ⟨by omega, h2⟩
    · exact Or.inr ⟨by omega, h2, fun q => h3 ⟨by omega, q.2⟩⟩
theorem lget_none1 {l : tL} {j : Nat} {w : tV} (h : lget (lnone l) j = some w) : j ≠ 0 ∧ lget l j = some w := by
  cases l with
  | nil => cases h
  | cons x l =>
    cases j with
    | zero => cases h
    | succ j => exact ⟨Nat.succ_ne_zero j, h⟩
theorem lget_set2 : ∀ (ls : tL) (i : Nat) (v : tV) (j : Nat) (w : tV), lget (lset2 ls i v) j = some w → (j = i ∧ w = v) ∨ (j ≠ i ∧ j ≠ i + 1 ∧ lget ls j = some w ∧ ¬ (j + 1 = i ∧ tcat w = 2))
  | [], i, v, j, w, h => by simp [lset2, lget] at h
  | x :: l, 0, v, 0, w, h => by simp only [lset2, lget, Option.some.injEq] at h; exact Or.inl ⟨rfl, h.symm⟩
  | x :: l, 0, v, j + 1, w, h => by
    obtain ⟨h1, h2⟩ := lget_none1 (show lget (lnone l) j = some w from h)
    exact Or.inr ⟨Nat.succ_ne_zero j, by omega, h2, fun q => by omega⟩
  | x :: l, 1, v, 0, w, h => by
    obtain ⟨h1, h2⟩ := lkill_some (show lkill x = some w from h)
    exact Or.inr ⟨by omega, by omega, h1, fun q => by omega⟩
  | x :: l, 1, v, j + 1, w, h => by
    rcases lget_set2 l 0 v j w h with ⟨h1, h2⟩ | ⟨h1, h0, h2, h3⟩
    · exact Or.inl ⟨by omega, h2⟩
    · exact Or.inr ⟨by omega, by omega, h2, fun q => by omega⟩
  | x :: l, i + 2, v, 0, w, h => Or.inr ⟨by omega, by omega, h, fun q => by omega⟩
  | x :: l, i + 2, v, j + 1, w, h => by
    rcases lget_set2 l (i + 1) v j w h with ⟨h1, h2⟩ | ⟨h1, h0, h2, h3⟩
    · exact Or.inl ⟨by omega, h2⟩
    · exact Or.inr ⟨by omega, by omega, h2, fun q => h3 ⟨by omega, q.2⟩⟩
theorem lget_lt : ∀ {ls : tL} {i : Nat} {v : tV}, lget ls i = some v → i < ls.length
  | [], i, v, h => by cases h
  | x :: l, 0, v, h => by simp
  | x :: l, i + 1, v, h => by have := lget_lt (ls := l) h; simp only [List.length_cons]; omega
/-- the locals as the kit has them -/
def tlv (E : tE) (ls : tL) : List (Nat × Value) := (List.range ls.length).filterMap fun i => (lget ls i).map fun v => (i, tmv E v)
theorem tlv_mem {E : tE} {ls : tL} {q : Nat × Value} : q ∈ tlv E ls ↔ ∃ v, lget ls q.1 = some v ∧ q.2 = tmv E v := by
  unfold tlv
  rw [List.mem_filterMap]
  constructor
  · rintro ⟨i, hi, h⟩
    cases hv : lget ls i with
    | none => rw [hv] at h; cases h
    | some v => rw [hv] at h; cases h; exact ⟨v, hv, rfl⟩
  · rintro ⟨v, h1, h2⟩
    refine ⟨q.1, List.mem_range.mpr (lget_lt h1), ?_⟩
    rw [h1, Option.map_some, ← h2]
theorem tLR.has {E : tE} {nL : Nat} {lsA : Array Slot} {ls : tL} (h : tLR E nL lsA ls) : lv_has lsA nL (tlv E ls) := ⟨h.1, h.2.1, fun q hq => by
  obtain ⟨v, h1, h2⟩ := tlv_mem.mp hq
  rw [h2]
  exact h.2.2.2 _ _ h1⟩
theorem tmv_cat (E : tE) (v : tV) : (tmv E v).category = tcat v := by
  match v with
  | .inl x => rfl
  | .inr (.inl x) => rfl
  | .inr (.inr q) => rfl
theorem tcats_sum (E : tE) : ∀ st : List tV, ((st.map (tmv E)).map fun v => v.category).sum = tcats st
  | [] => rfl
  | v :: st => by simp only [List.map_cons, List.sum_cons, tcats, tmv_cat, tcats_sum E st]
theorem tLR.set1 {E : tE} {nL i : Nat} {lsA ls' : Array Slot} {ls : tL} {v : tV} (h0 : tLR E nL lsA ls) (h : lv_has ls' nL ((i, tmv E v) :: (tlv E ls).filter (fun q => !(q.1 == i) && !(q.1 + 1 == i && q.2.category == 2)))) : tLR E nL ls' (lset1 ls i v) := by
  refine ⟨h.1, h.2.1, by rw [lset1_len]; exact h0.2.2.1, fun j w hw => ?_⟩
  rcases lget_set1 ls i v j w hw with ⟨h1, h2⟩ | ⟨h1, h2, h3⟩
  · subst h1; subst h2
    exact h.2.2 _ List.mem_cons_self
  · refine h.2.2 (j, tmv E w) (List.mem_cons_of_mem _ (List.mem_filter.mpr ⟨tlv_mem.mpr ⟨w, h2, rfl⟩, ?_⟩))
    simp only [tmv_cat]
    by_cases q1 : j + 1 = i
    · have q2 : tcat w ≠ 2 := fun q => h3 ⟨q1, q⟩
      simp [h1, q2]
    · simp [h1, q1]
theorem tLR.set2 {E : tE} {nL i : Nat} {lsA ls' : Array Slot} {ls : tL} {v : tV} (h0 : tLR E nL lsA ls) (h : lv_has ls' nL ((i, tmv E v) :: (tlv E ls).filter (fun q => !(q.1 == i) && (!(q.1 == i + 1) && !(q.1 + 1 == i && q.2.category == 2))))) : tLR E nL ls' (lset2 ls i v) := by
  refine ⟨h.1, h.2.1, by rw [lset2_len]; exact h0.2.2.1, fun j w hw => ?_⟩
  rcases lget_set2 ls i v j w hw with ⟨h1, h2⟩ | ⟨h1, h0, h2, h3⟩
  · subst h1; subst h2
    exact h.2.2 _ List.mem_cons_self
  · refine h.2.2 (j, tmv E w) (List.mem_cons_of_mem _ (List.mem_filter.mpr ⟨tlv_mem.mpr ⟨w, h2, rfl⟩, ?_⟩))
    simp only [tmv_cat]
    by_cases q1 : j + 1 = i
    · have q2 : tcat w ≠ 2 := fun q => h3 ⟨q1, q⟩
      simp [h1, h0, q2]
    · simp [h1, h0, q1]
theorem tokL_set1 {ls : tL} {i : Nat} {v : tV} (h : tokL ls) (hv : tokV v) : tokL (lset1 ls i v) := fun j w hw => by
  rcases lget_set1 ls i v j w hw with ⟨h1, h2⟩ | ⟨h1, h2, h3⟩
  · rw [h2]; exact hv
  · exact h j w h2
theorem tokL_set2 {ls : tL} {i : Nat} {v : tV} (h : tokL ls) (hv : tokV v) : tokL (lset2 ls i v) := fun j w hw => by
  rcases lget_set2 ls i v j w hw with ⟨h1, h2⟩ | ⟨h1, h0, h2, h3⟩
  · rw [h2]; exact hv
  · exact h j w h2
theorem tin_vp {i : Int32} {n : Nat} (h : tin i n) : vp_in i n := vp_in_iff.mpr h
section TSN
variable {my : Nat → MethodName} {mc : Nat → ByteArray} {mL : Nat → Nat} {mr : Nat → Option FieldType} {own : String} {cc : ByteArray} {nL : Nat} {ret : Option FieldType} {pc nx : Nat}
theorem snd_Mk {a : tAct} {bs : List Bool} (h : tSnd my mc mL mr own cc nL ret pc a) : tSnd my mc mL mr own cc nL ret pc (aMk bs a) := by
  intro E p l e s m args below meth c d hX rec hR K hK ls st G r hO hr
  have h1 := h E p l e s m args below meth c d hX rec hR K hK (lmask bs ls) st G r ⟨hO.1, fun i v hv => hO.2.1 i v (lget_mask hv), hO.2.2⟩ hr
  exact fun H locs lsA hP hS hl => h1 H locs lsA hP hS hl.mask
theorem snd_iconst {n : Int} {x : Int32} (hdg : decode cc pc = .ok (.iconst n, 1)) (hv : Int32.ofInt n = x) (hn : pc + 1 = nx) : tSnd my mc mL mr own cc nL ret pc (aCn x nx) := by
  subst hn
  intro E p l e s m args below meth c d hX rec hR K hK ls st G r hO hr
  have h1 := hK (pc + 1, ls, vI x :: st, G) ⟨tokS_c.mpr ⟨trivial, hO.1⟩, hO.2⟩ r hr
  exact fun H locs lsA hP hS hl => lv_iconst hX.1 hX.2.1 hdg hv (h1 H locs lsA hP hS hl)
theorem snd_bipush {n : Int} {x : Int32} (hdg : decode cc pc = .ok (.bipush n, 2)) (hv : (Int8.ofInt n).toInt32 = x) (hn : pc + 2 = nx) : tSnd my mc mL mr own cc nL ret pc (aCn x nx) := by
  subst hn
  intro E p l e s m args below meth c d hX rec hR K hK ls st G r hO hr
  have h1 := hK (pc + 2, ls, vI x :: st, G) ⟨tokS_c.mpr ⟨trivial, hO.1⟩, hO.2⟩ r hr
  exact fun H locs lsA hP hS hl => lv_bipush hX.1 hX.2.1 hdg hv (h1 H locs lsA hP hS hl)
theorem snd_sipush {n : Int} {x : Int32} (hdg : decode cc pc = .ok (.sipush n, 3)) (hv : (Int16.ofInt n).toInt32 = x) (hn : pc + 3 = nx) : tSnd my mc mL mr own cc nL ret pc (aCn x nx) := by
  subst hn
  intro E p l e s m args below meth c d hX rec hR K hK ls st G r hO hr
  have h1 := hK (pc + 3, ls, vI x :: st, G) ⟨tokS_c.mpr ⟨trivial, hO.1⟩, hO.2⟩ r hr
  exact fun H locs lsA hP hS hl => lv_sipush hX.1 hX.2.1 hdg hv (h1 H locs lsA hP hS hl)
theorem snd_ldc {n : Nat} {x : Int32} (hdg : decode cc pc = .ok (.ldc n, 2)) (hv : Cond.constant own n x ∈ tW) (hn : pc + 2 = nx) : tSnd my mc mL mr own cc nL ret pc (aCn x nx) := by
  subst hn
  intro E p l e s m args below meth c d hX rec hR K hK ls st G r hO hr
  have h1 := hK (pc + 2, ls, vI x :: st, G) ⟨tokS_c.mpr ⟨trivial, hO.1⟩, hO.2⟩ r hr
  exact fun H locs lsA hP hS hl => lv_ldc hX.1 hX.2.1 hX.2.2.2.2.2.1 (hX.2.2.2.2.2.2.1 _ hv) hdg (h1 H locs lsA hP hS hl)
theorem snd_ldcw {n : Nat} {x : Int32} (hdg : decode cc pc = .ok (.ldc_w n, 3)) (hv : Cond.constant own n x ∈ tW) (hn : pc + 3 = nx) : tSnd my mc mL mr own cc nL ret pc (aCn x nx) := by
  subst hn
  intro E p l e s m args below meth c d hX rec hR K hK ls st G r hO hr
  have h1 := hK (pc + 3, ls, vI x :: st, G) ⟨tokS_c.mpr ⟨trivial, hO.1⟩, hO.2⟩ r hr
  exact fun H locs lsA hP hS hl => lv_ldcw hX.1 hX.2.1 hX.2.2.2.2.2.1 (hX.2.2.2.2.2.2.1 _ hv) hdg (h1 H locs lsA hP hS hl)
theorem snd_lconst {n : Fin 2} {x : Int64} (hdg : decode cc pc = .ok (.lconst n, 1)) (hv : Int64.ofNat (n : Nat) = x) (hn : pc + 1 = nx) : tSnd my mc mL mr own cc nL ret pc (aLc x nx) := by
  subst hn
  intro E p l e s m args below meth c d hX rec hR K hK ls st G r hO hr
  have h1 := hK (pc + 1, ls, vL x :: st, G) ⟨tokS_c.mpr ⟨trivial, hO.1⟩, hO.2⟩ r hr
  exact fun H locs lsA hP hS hl => lv_lconst hX.1 hX.2.1 hdg hv (h1 H locs lsA hP hS hl)
theorem snd_ldc2 {n : Nat} {x : Int64} (hdg : decode cc pc = .ok (.ldc2_w n, 3)) (hv : Cond.constantLong own n x ∈ tW) (hn : pc + 3 = nx) : tSnd my mc mL mr own cc nL ret pc (aLc x nx) := by
  subst hn
  intro E p l e s m args below meth c d hX rec hR K hK ls st G r hO hr
  have h1 := hK (pc + 3, ls, vL x :: st, G) ⟨tokS_c.mpr ⟨trivial, hO.1⟩, hO.2⟩ r hr
  exact fun H locs lsA hP hS hl => lv_ldc2 hX.1 hX.2.1 hX.2.2.2.2.2.1 (hX.2.2.2.2.2.2.1 _ hv) hdg (h1 H locs lsA hP hS hl)
theorem snd_ldcs {n j : Nat} {tx : String} (hdg : decode cc pc = .ok (.ldc n, 2)) (hv : (own, n, tx, j) ∈ tStr) (hn : pc + 2 = nx) : tSnd my mc mL mr own cc nL ret pc (aSt j nx) := by
  subst hn
  intro E p l e s m args below meth c d hX rec hR K hK ls st G r hO hr
  obtain ⟨hb0, hr⟩ := tcond_some.mp hr
  have h1 := hK (pc + 2, ls, vR 20 j :: st, G) ⟨tokS_c.mpr ⟨⟨Or.inl rfl, Nat.le_of_ble_eq_true hb0⟩, hO.1⟩, hO.2⟩ r hr
  exact fun H locs lsA hP hS hl => va_ldcS hX.1 hX.2.1 hX.2.2.2.2.2.1 (hX.2.2.2.2.2.2.2.1.2.2 _ hv) hdg (h1 H locs lsA hP hS hl)
theorem snd_iload_n {i : Nat} {k : Fin 4} (hdg : decode cc pc = .ok (.iload_n k, 1)) (hi : (k : Nat) = i) (hn : pc + 1 = nx) : tSnd my mc mL mr own cc nL ret pc (aIld i nx) := by
  subst hn
  intro E p l e s m args below meth c d hX rec hR K hK ls st G r hO hr
  unfold aIld at hr
  dsimp only at hr
  split at hr
  · rename_i x hx
    have h1 := hK (pc + 1, ls, vI x :: st, G) ⟨tokS_c.mpr ⟨trivial, hO.1⟩, hO.2⟩ r hr
    exact fun H locs lsA hP hS hl => lv_iload_n hX.1 hX.2.1 hdg hi (hl.2.2.2 i _ hx) (h1 H locs lsA hP hS hl)
  · cases hr
theorem snd_iload {i : Nat} (hdg : decode cc pc = .ok (.iload i, 2)) (hn : pc + 2 = nx) : tSnd my mc mL mr own cc nL ret pc (aIld i nx) := by
  subst hn
  intro E p l e s m args below meth c d hX rec hR K hK ls st G r hO hr
  unfold aIld at hr
  dsimp only at hr
  split at hr
  · rename_i x hx
    have h1 := hK (pc + 2, ls, vI x :: st, G) ⟨tokS_c.mpr ⟨trivial, hO.1⟩, hO.2⟩ r hr
    exact fun H locs lsA hP hS hl => lv_iload hX.1 hX.2.1 hdg (hl.2.2.2 i _ hx) (h1 H locs lsA hP hS hl)
  · cases hr
theorem snd_lload_n {i : Nat} {k : Fin 4} (hdg : decode cc pc = .ok (.lload_n k, 1)) (hi : (k : Nat) = i) (hn : pc + 1 = nx) : tSnd my mc mL mr own cc nL ret pc (aLld i nx) := by
  subst hn
  intro E p l e s m args below meth c d hX rec hR K hK ls st G r hO hr
  unfold aLld at hr
  dsimp only at hr
  split at hr
  · rename_i x hx
    have h1 := hK (pc + 1, ls, vL x :: st, G) ⟨tokS_c.mpr ⟨trivial, hO.1⟩, hO.2⟩ r hr
    exact fun H locs lsA hP hS hl => lv_lload_n hX.1 hX.2.1 hdg hi (hl.2.2.2 i _ hx) (h1 H locs lsA hP hS hl)
  · cases hr
theorem snd_lload {i : Nat} (hdg : decode cc pc = .ok (.lload i, 2)) (hn : pc + 2 = nx) : tSnd my mc mL mr own cc nL ret pc (aLld i nx) := by
  subst hn
  intro E p l e s m args below meth c d hX rec hR K hK ls st G r hO hr
  unfold aLld at hr
  dsimp only at hr
  split at hr
  · rename_i x hx
    have h1 := hK (pc + 2, ls, vL x :: st, G) ⟨tokS_c.mpr ⟨trivial, hO.1⟩, hO.2⟩ r hr
    exact fun H locs lsA hP hS hl => lv_lload hX.1 hX.2.1 hdg (hl.2.2.2 i _ hx) (h1 H locs lsA hP hS hl)
  · cases hr
theorem snd_aload_n {i : Nat} {k : Fin 4} (hdg : decode cc pc = .ok (.aload_n k, 1)) (hi : (k : Nat) = i) (hn : pc + 1 = nx) : tSnd my mc mL mr own cc nL ret pc (aAld i nx) := by
  subst hn
  intro E p l e s m args below meth c d hX rec hR K hK ls st G r hO hr
  unfold aAld at hr
  dsimp only at hr
  split at hr
  · rename_i x hx
    have h1 := hK (pc + 1, ls, .inr (.inr x) :: st, G) ⟨tokS_c.mpr ⟨hO.2.1 i _ hx, hO.1⟩, hO.2⟩ r hr
    exact fun H locs lsA hP hS hl => lv_aload_n hX.1 hX.2.1 hdg hi (hl.2.2.2 i _ hx) (h1 H locs lsA hP hS hl)
  · cases hr
theorem snd_aload {i : Nat} (hdg : decode cc pc = .ok (.aload i, 2)) (hn : pc + 2 = nx) : tSnd my mc mL mr own cc nL ret pc (aAld i nx) := by
  subst hn
  intro E p l e s m args below meth c d hX rec hR K hK ls st G r hO hr
  unfold aAld at hr
  dsimp only at hr
  split at hr
  · rename_i x hx
    have h1 := hK (pc + 2, ls, .inr (.inr x) :: st, G) ⟨tokS_c.mpr ⟨hO.2.1 i _ hx, hO.1⟩, hO.2⟩ r hr
    exact fun H locs lsA hP hS hl => lv_aload hX.1 hX.2.1 hdg (hl.2.2.2 i _ hx) (h1 H locs lsA hP hS hl)
  · cases hr
theorem snd_istore_n {i : Nat} {k : Fin 4} (hdg : decode cc pc = .ok (.istore_n k, 1)) (hi : (k : Nat) = i) (hn : pc + 1 = nx) : tSnd my mc mL mr own cc nL ret pc (aIst i nx) := by
  subst hn
  intro E p l e s m args below meth c d hX rec hR K hK ls st G r hO hr
  unfold aIst at hr
  dsimp only at hr
  split at hr
  · rename_i x st'
    obtain ⟨hb0, hr⟩ := tcond_some.mp hr
    have hlt : i < ls.length := Nat.le_of_ble_eq_true hb0
    have h1 := hK (pc + 1, lset1 ls i (vI x), st', G) ⟨(tokS_c.mp hO.1).2, tokL_set1 hO.2.1 trivial, hO.2.2⟩ r hr
    exact fun H locs lsA hP hS hl => lv_istore_n hX.1 hX.2.1 hdg hi hl.has (Nat.lt_of_lt_of_le hlt hl.2.2.1) rfl (fun ls' h' => h1 H locs ls' hP hS (tLR.set1 (v := vI x) hl h'))
  · cases hr
theorem snd_istore {i : Nat} (hdg : decode cc pc = .ok (.istore i, 2)) (hn : pc + 2 = nx) : tSnd my mc mL mr own cc nL ret pc (aIst i nx) := by
  subst hn
  intro E p l e s m args below meth c d hX rec hR K hK ls st G r hO hr
  unfold aIst at hr
  dsimp only at hr
  split at hr
  · rename_i x st'
    obtain ⟨hb0, hr⟩ := tcond_some.mp hr
    have hlt : i < ls.length := Nat.le_of_ble_eq_true hb0
    have h1 := hK (pc + 2, lset1 ls i (vI x), st', G) ⟨(tokS_c.mp hO.1).2, tokL_set1 hO.2.1 trivial, hO.2.2⟩ r hr
    exact fun H locs lsA hP hS hl => lv_istore hX.1 hX.2.1 hdg hl.has (Nat.lt_of_lt_of_le hlt hl.2.2.1) rfl (fun ls' h' => h1 H locs ls' hP hS (tLR.set1 (v := vI x) hl h'))
  · cases hr
theorem snd_lstore_n {i : Nat} {k : Fin 4} (hdg : decode cc pc = .ok (.lstore_n k, 1)) (hi : (k : Nat) = i) (hn : pc + 1 = nx) : tSnd my mc mL mr own cc nL ret pc (aLst i nx) := by
  subst hn
  intro E p l e s m args below meth c d hX rec hR K hK ls st G r hO hr
  unfold aLst at hr
  dsimp only at hr
  split at hr
  · rename_i x st'
    obtain ⟨hb0, hr⟩ := tcond_some.mp hr
    have hlt : i + 1 < ls.length := Nat.le_of_ble_eq_true hb0
    have h1 := hK (pc + 1, lset2 ls i (vL x), st', G) ⟨(tokS_c.mp hO.1).2, tokL_set2 hO.2.1 trivial, hO.2.2⟩ r hr
    exact fun H locs lsA hP hS hl => lv_lstore_n hX.1 hX.2.1 hdg hi hl.has (Nat.lt_of_lt_of_le hlt hl.2.2.1) rfl (fun ls' h' => h1 H locs ls' hP hS (tLR.set2 (v := vL x) hl h'))
  · cases hr
theorem snd_lstore {i : Nat} (hdg : decode cc pc = .ok (.lstore i, 2)) (hn : pc + 2 = nx) : tSnd my mc mL mr own cc nL ret pc (aLst i nx) := by
  subst hn
  intro E p l e s m args below meth c d hX rec hR K hK ls st G r hO hr
  unfold aLst at hr
  dsimp only at hr
  split at hr
  · rename_i x st'
    obtain ⟨hb0, hr⟩ := tcond_some.mp hr
    have hlt : i + 1 < ls.length := Nat.le_of_ble_eq_true hb0
    have h1 := hK (pc + 2, lset2 ls i (vL x), st', G) ⟨(tokS_c.mp hO.1).2, tokL_set2 hO.2.1 trivial, hO.2.2⟩ r hr
    exact fun H locs lsA hP hS hl => lv_lstore hX.1 hX.2.1 hdg hl.has (Nat.lt_of_lt_of_le hlt hl.2.2.1) rfl (fun ls' h' => h1 H locs ls' hP hS (tLR.set2 (v := vL x) hl h'))
  · cases hr
theorem snd_astore_n {i : Nat} {k : Fin 4} (hdg : decode cc pc = .ok (.astore_n k, 1)) (hi : (k : Nat) = i) (hn : pc + 1 = nx) : tSnd my mc mL mr own cc nL ret pc (aAst i nx) := by
  subst hn
  intro E p l e s m args below meth c d hX rec hR K hK ls st G r hO hr
  unfold aAst at hr
  dsimp only at hr
  split at hr
  · rename_i x st'
    obtain ⟨hb0, hr⟩ := tcond_some.mp hr
    have hlt : i < ls.length := Nat.le_of_ble_eq_true hb0
    have h1 := hK (pc + 1, lset1 ls i (.inr (.inr x)), st', G) ⟨(tokS_c.mp hO.1).2, tokL_set1 hO.2.1 (tokS_c.mp hO.1).1, hO.2.2⟩ r hr
    exact fun H locs lsA hP hS hl => lv_astore_n hX.1 hX.2.1 hdg hi hl.has (Nat.lt_of_lt_of_le hlt hl.2.2.1) rfl (fun ls' h' => h1 H locs ls' hP hS (tLR.set1 (v := .inr (.inr x)) hl h'))
  · cases hr
theorem snd_astore {i : Nat} (hdg : decode cc pc = .ok (.astore i, 2)) (hn : pc + 2 = nx) : tSnd my mc mL mr own cc nL ret pc (aAst i nx) := by
  subst hn
  intro E p l e s m args below meth c d hX rec hR K hK ls st G r hO hr
  unfold aAst at hr
  dsimp only at hr
  split at hr
  · rename_i x st'
    obtain ⟨hb0, hr⟩ := tcond_some.mp hr
    have hlt : i < ls.length := Nat.le_of_ble_eq_true hb0
    have h1 := hK (pc + 2, lset1 ls i (.inr (.inr x)), st', G) ⟨(tokS_c.mp hO.1).2, tokL_set1 hO.2.1 (tokS_c.mp hO.1).1, hO.2.2⟩ r hr
    exact fun H locs lsA hP hS hl => lv_astore hX.1 hX.2.1 hdg hl.has (Nat.lt_of_lt_of_le hlt hl.2.2.1) rfl (fun ls' h' => h1 H locs ls' hP hS (tLR.set1 (v := .inr (.inr x)) hl h'))
  · cases hr
theorem snd_iinc {i : Nat} {n : Int} {z : Int32} (hdg : decode cc pc = .ok (.iinc i n, 3)) (hz : Int32.ofInt n = z) (hn : pc + 3 = nx) : tSnd my mc mL mr own cc nL ret pc (aInc i z nx) := by
  subst hn
  intro E p l e s m args below meth c d hX rec hR K hK ls st G r hO hr
  subst hz
  unfold aInc at hr
  dsimp only at hr
  split at hr
  · rename_i x hx
    obtain ⟨hb0, hr⟩ := tcond_some.mp hr
    have hlt : i < ls.length := Nat.le_of_ble_eq_true hb0
    have h1 := hK (pc + 3, lset1 ls i (vI (x + Int32.ofInt n)), st, G) ⟨hO.1, tokL_set1 hO.2.1 trivial, hO.2.2⟩ r hr
    refine fun H locs lsA hP hS hl => ?_
    obtain ⟨k, hk⟩ := List.getElem?_of_mem (tlv_mem (E := E) (ls := ls) (q := (i, .int x)) |>.mpr ⟨vI x, hx, rfl⟩)
    exact lv_iinc hX.1 hX.2.1 hdg hl.has hk rfl (Nat.lt_of_lt_of_le hlt hl.2.2.1) rfl (fun ls' h' => h1 H locs ls' hP hS (tLR.set1 (v := vI (x + Int32.ofInt n)) hl h'))
  · cases hr
theorem snd_iadd (hdg : decode cc pc = .ok (.iadd, 1)) (hn : pc + 1 = nx) : tSnd my mc mL mr own cc nL ret pc (aBin (fun x y => x + y) nx) := by
  subst hn
  intro E p l e s m args below meth c d hX rec hR K hK ls st G r hO hr
  unfold aBin at hr
  dsimp only at hr
  split at hr
  · rename_i y x st'
    have h1 := hK (pc + 1, ls, vI (x + y) :: st', G) ⟨tokS_c.mpr ⟨trivial, (tokS_c.mp (tokS_c.mp hO.1).2).2⟩, hO.2⟩ r hr
    exact fun H locs lsA hP hS hl => lv_iadd hX.1 hX.2.1 hdg (h1 H locs lsA hP hS hl)
  · cases hr
theorem snd_isub (hdg : decode cc pc = .ok (.isub, 1)) (hn : pc + 1 = nx) : tSnd my mc mL mr own cc nL ret pc (aBin (fun x y => x - y) nx) := by
  subst hn
  intro E p l e s m args below meth c d hX rec hR K hK ls st G r hO hr
  unfold aBin at hr
  dsimp only at hr
  split at hr
  · rename_i y x st'
    have h1 := hK (pc + 1, ls, vI (x - y) :: st', G) ⟨tokS_c.mpr ⟨trivial, (tokS_c.mp (tokS_c.mp hO.1).2).2⟩, hO.2⟩ r hr
    exact fun H locs lsA hP hS hl => lv_isub hX.1 hX.2.1 hdg (h1 H locs lsA hP hS hl)
  · cases hr
theorem snd_imul (hdg : decode cc pc = .ok (.imul, 1)) (hn : pc + 1 = nx) : tSnd my mc mL mr own cc nL ret pc (aBin (fun x y => x * y) nx) := by
  subst hn
  intro E p l e s m args below meth c d hX rec hR K hK ls st G r hO hr
  unfold aBin at hr
  dsimp only at hr
  split at hr
  · rename_i y x st'
    have h1 := hK (pc + 1, ls, vI (x * y) :: st', G) ⟨tokS_c.mpr ⟨trivial, (tokS_c.mp (tokS_c.mp hO.1).2).2⟩, hO.2⟩ r hr
    exact fun H locs lsA hP hS hl => lv_imul hX.1 hX.2.1 hdg (h1 H locs lsA hP hS hl)
  · cases hr
theorem snd_iand (hdg : decode cc pc = .ok (.iand, 1)) (hn : pc + 1 = nx) : tSnd my mc mL mr own cc nL ret pc (aBin (fun x y => x &&& y) nx) := by
  subst hn
  intro E p l e s m args below meth c d hX rec hR K hK ls st G r hO hr
  unfold aBin at hr
  dsimp only at hr
  split at hr
  · rename_i y x st'
    have h1 := hK (pc + 1, ls, vI (x &&& y) :: st', G) ⟨tokS_c.mpr ⟨trivial, (tokS_c.mp (tokS_c.mp hO.1).2).2⟩, hO.2⟩ r hr
    exact fun H locs lsA hP hS hl => lv_iand hX.1 hX.2.1 hdg (h1 H locs lsA hP hS hl)
  · cases hr
theorem snd_ior (hdg : decode cc pc = .ok (.ior, 1)) (hn : pc + 1 = nx) : tSnd my mc mL mr own cc nL ret pc (aBin (fun x y => x ||| y) nx) := by
  subst hn
  intro E p l e s m args below meth c d hX rec hR K hK ls st G r hO hr
  unfold aBin at hr
  dsimp only at hr
  split at hr
  · rename_i y x st'
    have h1 := hK (pc + 1, ls, vI (x ||| y) :: st', G) ⟨tokS_c.mpr ⟨trivial, (tokS_c.mp (tokS_c.mp hO.1).2).2⟩, hO.2⟩ r hr
    exact fun H locs lsA hP hS hl => lv_ior hX.1 hX.2.1 hdg (h1 H locs lsA hP hS hl)
  · cases hr
theorem snd_ixor (hdg : decode cc pc = .ok (.ixor, 1)) (hn : pc + 1 = nx) : tSnd my mc mL mr own cc nL ret pc (aBin (fun x y => x ^^^ y) nx) := by
  subst hn
  intro E p l e s m args below meth c d hX rec hR K hK ls st G r hO hr
  unfold aBin at hr
  dsimp only at hr
  split at hr
  · rename_i y x st'
    have h1 := hK (pc + 1, ls, vI (x ^^^ y) :: st', G) ⟨tokS_c.mpr ⟨trivial, (tokS_c.mp (tokS_c.mp hO.1).2).2⟩, hO.2⟩ r hr
    exact fun H locs lsA hP hS hl => lv_ixor hX.1 hX.2.1 hdg (h1 H locs lsA hP hS hl)
  · cases hr
theorem snd_ishl (hdg : decode cc pc = .ok (.ishl, 1)) (hn : pc + 1 = nx) : tSnd my mc mL mr own cc nL ret pc (aBin (fun x y => x <<< (y &&& 31)) nx) := by
  subst hn
  intro E p l e s m args below meth c d hX rec hR K hK ls st G r hO hr
  unfold aBin at hr
  dsimp only at hr
  split at hr
  · rename_i y x st'
    have h1 := hK (pc + 1, ls, vI (x <<< (y &&& 31)) :: st', G) ⟨tokS_c.mpr ⟨trivial, (tokS_c.mp (tokS_c.mp hO.1).2).2⟩, hO.2⟩ r hr
    exact fun H locs lsA hP hS hl => lv_ishl hX.1 hX.2.1 hdg (h1 H locs lsA hP hS hl)
  · cases hr
theorem snd_ishr (hdg : decode cc pc = .ok (.ishr, 1)) (hn : pc + 1 = nx) : tSnd my mc mL mr own cc nL ret pc (aBin (fun x y => x >>> (y &&& 31)) nx) := by
  subst hn
  intro E p l e s m args below meth c d hX rec hR K hK ls st G r hO hr
  unfold aBin at hr
  dsimp only at hr
  split at hr
  · rename_i y x st'
    have h1 := hK (pc + 1, ls, vI (x >>> (y &&& 31)) :: st', G) ⟨tokS_c.mpr ⟨trivial, (tokS_c.mp (tokS_c.mp hO.1).2).2⟩, hO.2⟩ r hr
    exact fun H locs lsA hP hS hl => lv_ishr hX.1 hX.2.1 hdg (h1 H locs lsA hP hS hl)
  · cases hr
theorem snd_iushr (hdg : decode cc pc = .ok (.iushr, 1)) (hn : pc + 1 = nx) : tSnd my mc mL mr own cc nL ret pc (aBin (fun x y => (x.toUInt32 >>> (y.toUInt32 &&& Int32.toUInt32 31)).toInt32) nx) := by
  subst hn
  intro E p l e s m args below meth c d hX rec hR K hK ls st G r hO hr
  unfold aBin at hr
  dsimp only at hr
  split at hr
  · rename_i y x st'
    have h1 := hK (pc + 1, ls, vI ((x.toUInt32 >>> (y.toUInt32 &&& Int32.toUInt32 31)).toInt32) :: st', G) ⟨tokS_c.mpr ⟨trivial, (tokS_c.mp (tokS_c.mp hO.1).2).2⟩, hO.2⟩ r hr
    exact fun H locs lsA hP hS hl => lv_iushr hX.1 hX.2.1 hdg rfl (h1 H locs lsA hP hS hl)
  · cases hr
theorem snd_ladd (hdg : decode cc pc = .ok (.ladd, 1)) (hn : pc + 1 = nx) : tSnd my mc mL mr own cc nL ret pc (aLb (fun x y => x + y) nx) := by
  subst hn
  intro E p l e s m args below meth c d hX rec hR K hK ls st G r hO hr
  unfold aLb at hr
  dsimp only at hr
  split at hr
  · rename_i y x st'
    have h1 := hK (pc + 1, ls, vL (x + y) :: st', G) ⟨tokS_c.mpr ⟨trivial, (tokS_c.mp (tokS_c.mp hO.1).2).2⟩, hO.2⟩ r hr
    exact fun H locs lsA hP hS hl => lv_ladd hX.1 hX.2.1 hdg (h1 H locs lsA hP hS hl)
  · cases hr
theorem snd_lsub (hdg : decode cc pc = .ok (.lsub, 1)) (hn : pc + 1 = nx) : tSnd my mc mL mr own cc nL ret pc (aLb (fun x y => x - y) nx) := by
  subst hn
  intro E p l e s m args below meth c d hX rec hR K hK ls st G r hO hr
  unfold aLb at hr
  dsimp only at hr
  split at hr
  · rename_i y x st'
    have h1 := hK (pc + 1, ls, vL (x - y) :: st', G) ⟨tokS_c.mpr ⟨trivial, (tokS_c.mp (tokS_c.mp hO.1).2).2⟩, hO.2⟩ r hr
    exact fun H locs lsA hP hS hl => lv_lsub hX.1 hX.2.1 hdg (h1 H locs lsA hP hS hl)
  · cases hr
theorem snd_lmul (hdg : decode cc pc = .ok (.lmul, 1)) (hn : pc + 1 = nx) : tSnd my mc mL mr own cc nL ret pc (aLb (fun x y => x * y) nx) := by
  subst hn
  intro E p l e s m args below meth c d hX rec hR K hK ls st G r hO hr
  unfold aLb at hr
  dsimp only at hr
  split at hr
  · rename_i y x st'
    have h1 := hK (pc + 1, ls, vL (x * y) :: st', G) ⟨tokS_c.mpr ⟨trivial, (tokS_c.mp (tokS_c.mp hO.1).2).2⟩, hO.2⟩ r hr
    exact fun H locs lsA hP hS hl => lv_lmul hX.1 hX.2.1 hdg (h1 H locs lsA hP hS hl)
  · cases hr
theorem snd_land (hdg : decode cc pc = .ok (.land, 1)) (hn : pc + 1 = nx) : tSnd my mc mL mr own cc nL ret pc (aLb (fun x y => x &&& y) nx) := by
  subst hn
  intro E p l e s m args below meth c d hX rec hR K hK ls st G r hO hr
  unfold aLb at hr
  dsimp only at hr
  split at hr
  · rename_i y x st'
    have h1 := hK (pc + 1, ls, vL (x &&& y) :: st', G) ⟨tokS_c.mpr ⟨trivial, (tokS_c.mp (tokS_c.mp hO.1).2).2⟩, hO.2⟩ r hr
    exact fun H locs lsA hP hS hl => lv_land hX.1 hX.2.1 hdg (h1 H locs lsA hP hS hl)
  · cases hr
theorem snd_lor (hdg : decode cc pc = .ok (.lor, 1)) (hn : pc + 1 = nx) : tSnd my mc mL mr own cc nL ret pc (aLb (fun x y => x ||| y) nx) := by
  subst hn
  intro E p l e s m args below meth c d hX rec hR K hK ls st G r hO hr
  unfold aLb at hr
  dsimp only at hr
  split at hr
  · rename_i y x st'
    have h1 := hK (pc + 1, ls, vL (x ||| y) :: st', G) ⟨tokS_c.mpr ⟨trivial, (tokS_c.mp (tokS_c.mp hO.1).2).2⟩, hO.2⟩ r hr
    exact fun H locs lsA hP hS hl => lv_lor hX.1 hX.2.1 hdg (h1 H locs lsA hP hS hl)
  · cases hr
theorem snd_lshl (hdg : decode cc pc = .ok (.lshl, 1)) (hn : pc + 1 = nx) : tSnd my mc mL mr own cc nL ret pc (aLs (fun x y => x <<< (y.toInt64 &&& 63)) nx) := by
  subst hn
  intro E p l e s m args below meth c d hX rec hR K hK ls st G r hO hr
  unfold aLs at hr
  dsimp only at hr
  split at hr
  · rename_i y x st'
    have h1 := hK (pc + 1, ls, vL (x <<< (y.toInt64 &&& 63)) :: st', G) ⟨tokS_c.mpr ⟨trivial, (tokS_c.mp (tokS_c.mp hO.1).2).2⟩, hO.2⟩ r hr
    exact fun H locs lsA hP hS hl => lv_lshl hX.1 hX.2.1 hdg rfl (h1 H locs lsA hP hS hl)
  · cases hr
theorem snd_lshr (hdg : decode cc pc = .ok (.lshr, 1)) (hn : pc + 1 = nx) : tSnd my mc mL mr own cc nL ret pc (aLs (fun x y => x >>> (y.toInt64 &&& 63)) nx) := by
  subst hn
  intro E p l e s m args below meth c d hX rec hR K hK ls st G r hO hr
  unfold aLs at hr
  dsimp only at hr
  split at hr
  · rename_i y x st'
    have h1 := hK (pc + 1, ls, vL (x >>> (y.toInt64 &&& 63)) :: st', G) ⟨tokS_c.mpr ⟨trivial, (tokS_c.mp (tokS_c.mp hO.1).2).2⟩, hO.2⟩ r hr
    exact fun H locs lsA hP hS hl => lv_lshr hX.1 hX.2.1 hdg rfl (h1 H locs lsA hP hS hl)
  · cases hr
theorem snd_lushr (hdg : decode cc pc = .ok (.lushr, 1)) (hn : pc + 1 = nx) : tSnd my mc mL mr own cc nL ret pc (aLs (fun x y => (x.toUInt64 >>> (y.toInt64.toUInt64 &&& Int64.toUInt64 63)).toInt64) nx) := by
  subst hn
  intro E p l e s m args below meth c d hX rec hR K hK ls st G r hO hr
  unfold aLs at hr
  dsimp only at hr
  split at hr
  · rename_i y x st'
    have h1 := hK (pc + 1, ls, vL ((x.toUInt64 >>> (y.toInt64.toUInt64 &&& Int64.toUInt64 63)).toInt64) :: st', G) ⟨tokS_c.mpr ⟨trivial, (tokS_c.mp (tokS_c.mp hO.1).2).2⟩, hO.2⟩ r hr
    exact fun H locs lsA hP hS hl => lv_lushr hX.1 hX.2.1 hdg rfl (h1 H locs lsA hP hS hl)
  · cases hr
theorem snd_lcmp (hdg : decode cc pc = .ok (.lcmp, 1)) (hn : pc + 1 = nx) : tSnd my mc mL mr own cc nL ret pc (aCmp nx) := by
  subst hn
  intro E p l e s m args below meth c d hX rec hR K hK ls st G r hO hr
  unfold aCmp at hr
  dsimp only at hr
  split at hr
  · rename_i y x st'
    have h1 := hK (pc + 1, ls, vI (lg_cmp x y) :: st', G) ⟨tokS_c.mpr ⟨trivial, (tokS_c.mp (tokS_c.mp hO.1).2).2⟩, hO.2⟩ r hr
    exact fun H locs lsA hP hS hl => W.lcmp hX.1 hX.2.1 hdg (h1 H locs lsA hP hS hl)
  · cases hr
theorem snd_ineg (hdg : decode cc pc = .ok (.ineg, 1)) (hn : pc + 1 = nx) : tSnd my mc mL mr own cc nL ret pc (aUn (fun x => -x) nx) := by
  subst hn
  intro E p l e s m args below meth c d hX rec hR K hK ls st G r hO hr
  unfold aUn at hr
  dsimp only at hr
  split at hr
  · rename_i x st'
    have h1 := hK (pc + 1, ls, vI (-x) :: st', G) ⟨tokS_c.mpr ⟨trivial, (tokS_c.mp hO.1).2⟩, hO.2⟩ r hr
    exact fun H locs lsA hP hS hl => lv_ineg hX.1 hX.2.1 hdg (h1 H locs lsA hP hS hl)
  · cases hr
theorem snd_i2c (hdg : decode cc pc = .ok (.i2c, 1)) (hn : pc + 1 = nx) : tSnd my mc mL mr own cc nL ret pc (aUn (fun x => (x.toUInt32 % 65536).toInt32) nx) := by
  subst hn
  intro E p l e s m args below meth c d hX rec hR K hK ls st G r hO hr
  unfold aUn at hr
  dsimp only at hr
  split at hr
  · rename_i x st'
    have h1 := hK (pc + 1, ls, vI ((x.toUInt32 % 65536).toInt32) :: st', G) ⟨tokS_c.mpr ⟨trivial, (tokS_c.mp hO.1).2⟩, hO.2⟩ r hr
    exact fun H locs lsA hP hS hl => lv_i2c hX.1 hX.2.1 hdg rfl (h1 H locs lsA hP hS hl)
  · cases hr
theorem snd_i2b (hdg : decode cc pc = .ok (.i2b, 1)) (hn : pc + 1 = nx) : tSnd my mc mL mr own cc nL ret pc (aUn (fun x => x.toInt8.toInt32) nx) := by
  subst hn
  intro E p l e s m args below meth c d hX rec hR K hK ls st G r hO hr
  unfold aUn at hr
  dsimp only at hr
  split at hr
  · rename_i x st'
    have h1 := hK (pc + 1, ls, vI (x.toInt8.toInt32) :: st', G) ⟨tokS_c.mpr ⟨trivial, (tokS_c.mp hO.1).2⟩, hO.2⟩ r hr
    exact fun H locs lsA hP hS hl => lv_i2b hX.1 hX.2.1 hdg rfl (h1 H locs lsA hP hS hl)
  · cases hr
theorem snd_i2l (hdg : decode cc pc = .ok (.i2l, 1)) (hn : pc + 1 = nx) : tSnd my mc mL mr own cc nL ret pc (aIl nx) := by
  subst hn
  intro E p l e s m args below meth c d hX rec hR K hK ls st G r hO hr
  unfold aIl at hr
  dsimp only at hr
  split at hr
  · rename_i x st'
    have h1 := hK (pc + 1, ls, vL x.toInt64 :: st', G) ⟨tokS_c.mpr ⟨trivial, (tokS_c.mp hO.1).2⟩, hO.2⟩ r hr
    exact fun H locs lsA hP hS hl => lv_i2l hX.1 hX.2.1 hdg rfl (h1 H locs lsA hP hS hl)
  · cases hr
theorem snd_l2i (hdg : decode cc pc = .ok (.l2i, 1)) (hn : pc + 1 = nx) : tSnd my mc mL mr own cc nL ret pc (aLi nx) := by
  subst hn
  intro E p l e s m args below meth c d hX rec hR K hK ls st G r hO hr
  unfold aLi at hr
  dsimp only at hr
  split at hr
  · rename_i x st'
    have h1 := hK (pc + 1, ls, vI x.toInt32 :: st', G) ⟨tokS_c.mpr ⟨trivial, (tokS_c.mp hO.1).2⟩, hO.2⟩ r hr
    exact fun H locs lsA hP hS hl => lv_l2i hX.1 hX.2.1 hdg rfl (h1 H locs lsA hP hS hl)
  · cases hr
theorem snd_idiv (hdg : decode cc pc = .ok (.idiv, 1)) (hn : pc + 1 = nx) : tSnd my mc mL mr own cc nL ret pc (aDiv (fun x y => x / y) nx) := by
  subst hn
  intro E p l e s m args below meth c d hX rec hR K hK ls st G r hO hr
  unfold aDiv at hr
  dsimp only at hr
  split at hr
  · rename_i y x st'
    by_cases h0 : y = 0
    · rw [if_pos h0] at hr; cases hr
    rw [if_neg h0] at hr
    have h1 := hK (pc + 1, ls, vI (x / y) :: st', G) ⟨tokS_c.mpr ⟨trivial, (tokS_c.mp (tokS_c.mp hO.1).2).2⟩, hO.2⟩ r hr
    exact fun H locs lsA hP hS hl => lv_idiv hX.1 hX.2.1 hdg h0 (h1 H locs lsA hP hS hl)
  · cases hr
theorem snd_irem (hdg : decode cc pc = .ok (.irem, 1)) (hn : pc + 1 = nx) : tSnd my mc mL mr own cc nL ret pc (aDiv (fun x y => x - x / y * y) nx) := by
  subst hn
  intro E p l e s m args below meth c d hX rec hR K hK ls st G r hO hr
  unfold aDiv at hr
  dsimp only at hr
  split at hr
  · rename_i y x st'
    by_cases h0 : y = 0
    · rw [if_pos h0] at hr; cases hr
    rw [if_neg h0] at hr
    have h1 := hK (pc + 1, ls, vI (x - x / y * y) :: st', G) ⟨tokS_c.mpr ⟨trivial, (tokS_c.mp (tokS_c.mp hO.1).2).2⟩, hO.2⟩ r hr
    exact fun H locs lsA hP hS hl => lv_irem hX.1 hX.2.1 hdg h0 (h1 H locs lsA hP hS hl)
  · cases hr
theorem snd_ldiv (hdg : decode cc pc = .ok (.ldiv, 1)) (hn : pc + 1 = nx) : tSnd my mc mL mr own cc nL ret pc (aLd (fun x y => x / y) nx) := by
  subst hn
  intro E p l e s m args below meth c d hX rec hR K hK ls st G r hO hr
  unfold aLd at hr
  dsimp only at hr
  split at hr
  · rename_i y x st'
    by_cases h0 : y = 0
    · rw [if_pos h0] at hr; cases hr
    rw [if_neg h0] at hr
    have h1 := hK (pc + 1, ls, vL (x / y) :: st', G) ⟨tokS_c.mpr ⟨trivial, (tokS_c.mp (tokS_c.mp hO.1).2).2⟩, hO.2⟩ r hr
    exact fun H locs lsA hP hS hl => lv_ldiv hX.1 hX.2.1 hdg h0 (h1 H locs lsA hP hS hl)
  · cases hr
theorem snd_lrem (hdg : decode cc pc = .ok (.lrem, 1)) (hn : pc + 1 = nx) : tSnd my mc mL mr own cc nL ret pc (aLd (fun x y => x - x / y * y) nx) := by
  subst hn
  intro E p l e s m args below meth c d hX rec hR K hK ls st G r hO hr
  unfold aLd at hr
  dsimp only at hr
  split at hr
  · rename_i y x st'
    by_cases h0 : y = 0
    · rw [if_pos h0] at hr; cases hr
    rw [if_neg h0] at hr
    have h1 := hK (pc + 1, ls, vL (x - x / y * y) :: st', G) ⟨tokS_c.mpr ⟨trivial, (tokS_c.mp (tokS_c.mp hO.1).2).2⟩, hO.2⟩ r hr
    exact fun H locs lsA hP hS hl => lv_lrem hX.1 hX.2.1 hdg h0 (h1 H locs lsA hP hS hl)
  · cases hr
theorem snd_dup (hdg : decode cc pc = .ok (.dup, 1)) (hn : pc + 1 = nx) : tSnd my mc mL mr own cc nL ret pc (aDup nx) := by
  subst hn
  intro E p l e s m args below meth c d hX rec hR K hK ls st G r hO hr
  unfold aDup at hr
  dsimp only at hr
  split at hr
  · rename_i x st'
    have h1 := hK (pc + 1, ls, vI x :: vI x :: st', G) ⟨tokS_c.mpr ⟨trivial, hO.1⟩, hO.2⟩ r hr
    exact fun H locs lsA hP hS hl => lv_dup hX.1 hX.2.1 hdg rfl (h1 H locs lsA hP hS hl)
  · rename_i x st'
    have h1 := hK (pc + 1, ls, .inr (.inr x) :: .inr (.inr x) :: st', G) ⟨tokS_c.mpr ⟨(tokS_c.mp hO.1).1, hO.1⟩, hO.2⟩ r hr
    exact fun H locs lsA hP hS hl => lv_dup hX.1 hX.2.1 hdg rfl (h1 H locs lsA hP hS hl)
  · cases hr
theorem snd_pop (hdg : decode cc pc = .ok (.pop, 1)) (hn : pc + 1 = nx) : tSnd my mc mL mr own cc nL ret pc (aPop nx) := by
  subst hn
  intro E p l e s m args below meth c d hX rec hR K hK ls st G r hO hr
  unfold aPop at hr
  dsimp only at hr
  split at hr
  · rename_i x st'
    have h1 := hK (pc + 1, ls, st', G) ⟨(tokS_c.mp hO.1).2, hO.2⟩ r hr
    exact fun H locs lsA hP hS hl => lv_pop hX.1 hX.2.1 hdg rfl (h1 H locs lsA hP hS hl)
  · rename_i x st'
    have h1 := hK (pc + 1, ls, st', G) ⟨(tokS_c.mp hO.1).2, hO.2⟩ r hr
    exact fun H locs lsA hP hS hl => lv_pop hX.1 hX.2.1 hdg rfl (h1 H locs lsA hP hS hl)
  · cases hr
theorem snd_dup2 (hdg : decode cc pc = .ok (.dup2, 1)) (hn : pc + 1 = nx) : tSnd my mc mL mr own cc nL ret pc (aDp2 nx) := by
  subst hn
  intro E p l e s m args below meth c d hX rec hR K hK ls st G r hO hr
  unfold aDp2 at hr
  dsimp only at hr
  split at hr
  · rename_i x y st'
    have h1 := hK (pc + 1, ls, vI x :: .inr (.inr y) :: vI x :: .inr (.inr y) :: st', G) ⟨tokS_c.mpr ⟨trivial, tokS_c.mpr ⟨(tokS_c.mp (tokS_c.mp hO.1).2).1, hO.1⟩⟩, hO.2⟩ r hr
    exact fun H locs lsA hP hS hl => lv_dup2_11 hX.1 hX.2.1 hdg rfl rfl (h1 H locs lsA hP hS hl)
  · cases hr
theorem snd_ifeq {t : Nat} {off : Int} (hdg : decode cc pc = .ok (.ifCond .eq off, 3)) (ht : (pc : Int) + off = (t : Int)) (hn : pc + 3 = nx) : tSnd my mc mL mr own cc nL ret pc (aEq0 t nx) := by
  subst hn
  intro E p l e s m args below meth c d hX rec hR K hK ls st G r hO hr
  unfold aEq0 at hr
  dsimp only at hr
  split at hr
  · rename_i x st'
    by_cases h0 : x = 0
    · rw [if_pos h0] at hr
      have h1 := hK (t, ls, st', G) ⟨(tokS_c.mp hO.1).2, hO.2⟩ r hr
      exact fun H locs lsA hP hS hl => lv_if_eq hX.1 hX.2.1 hdg ht (fun _ => h1 H locs lsA hP hS hl) (fun h => absurd h0 h)
    · rw [if_neg h0] at hr
      have h1 := hK (pc + 3, ls, st', G) ⟨(tokS_c.mp hO.1).2, hO.2⟩ r hr
      exact fun H locs lsA hP hS hl => lv_if_eq hX.1 hX.2.1 hdg ht (fun h => absurd h h0) (fun _ => h1 H locs lsA hP hS hl)
  · cases hr
theorem snd_ifne {t : Nat} {off : Int} (hdg : decode cc pc = .ok (.ifCond .ne off, 3)) (ht : (pc : Int) + off = (t : Int)) (hn : pc + 3 = nx) : tSnd my mc mL mr own cc nL ret pc (aEq0 nx t) := by
  subst hn
  intro E p l e s m args below meth c d hX rec hR K hK ls st G r hO hr
  unfold aEq0 at hr
  dsimp only at hr
  split at hr
  · rename_i x st'
    by_cases h0 : x = 0
    · rw [if_pos h0] at hr
      have h1 := hK (pc + 3, ls, st', G) ⟨(tokS_c.mp hO.1).2, hO.2⟩ r hr
      exact fun H locs lsA hP hS hl => lv_if_ne hX.1 hX.2.1 hdg ht (fun h => absurd h0 h) (fun _ => h1 H locs lsA hP hS hl)
    · rw [if_neg h0] at hr
      have h1 := hK (t, ls, st', G) ⟨(tokS_c.mp hO.1).2, hO.2⟩ r hr
      exact fun H locs lsA hP hS hl => lv_if_ne hX.1 hX.2.1 hdg ht (fun _ => h1 H locs lsA hP hS hl) (fun h => absurd h h0)
  · cases hr
theorem snd_iflt {t : Nat} {off : Int} (hdg : decode cc pc = .ok (.ifCond .lt off, 3)) (ht : (pc : Int) + off = (t : Int)) (hn : pc + 3 = nx) : tSnd my mc mL mr own cc nL ret pc (aLt0 t nx) := by
  subst hn
  intro E p l e s m args below meth c d hX rec hR K hK ls st G r hO hr
  unfold aLt0 at hr
  dsimp only at hr
  split at hr
  · rename_i x st'
    by_cases h0 : x < 0
    · rw [if_pos h0] at hr
      have h1 := hK (t, ls, st', G) ⟨(tokS_c.mp hO.1).2, hO.2⟩ r hr
      exact fun H locs lsA hP hS hl => lv_if_lt hX.1 hX.2.1 hdg ht (fun _ => h1 H locs lsA hP hS hl) (fun h => absurd h0 h)
    · rw [if_neg h0] at hr
      have h1 := hK (pc + 3, ls, st', G) ⟨(tokS_c.mp hO.1).2, hO.2⟩ r hr
      exact fun H locs lsA hP hS hl => lv_if_lt hX.1 hX.2.1 hdg ht (fun h => absurd h h0) (fun _ => h1 H locs lsA hP hS hl)
  · cases hr
theorem snd_ifge {t : Nat} {off : Int} (hdg : decode cc pc = .ok (.ifCond .ge off, 3)) (ht : (pc : Int) + off = (t : Int)) (hn : pc + 3 = nx) : tSnd my mc mL mr own cc nL ret pc (aLt0 nx t) := by
  subst hn
  intro E p l e s m args below meth c d hX rec hR K hK ls st G r hO hr
  unfold aLt0 at hr
  dsimp only at hr
  split at hr
  · rename_i x st'
    by_cases h0 : x < 0
    · rw [if_pos h0] at hr
      have h1 := hK (pc + 3, ls, st', G) ⟨(tokS_c.mp hO.1).2, hO.2⟩ r hr
      exact fun H locs lsA hP hS hl => lv_if_ge hX.1 hX.2.1 hdg ht (fun h => absurd h (Int32.not_le.mpr h0)) (fun _ => h1 H locs lsA hP hS hl)
    · rw [if_neg h0] at hr
      have h1 := hK (t, ls, st', G) ⟨(tokS_c.mp hO.1).2, hO.2⟩ r hr
      exact fun H locs lsA hP hS hl => lv_if_ge hX.1 hX.2.1 hdg ht (fun _ => h1 H locs lsA hP hS hl) (fun h => absurd (Int32.not_lt.mp h0) h)
  · cases hr
theorem snd_ifgt {t : Nat} {off : Int} (hdg : decode cc pc = .ok (.ifCond .gt off, 3)) (ht : (pc : Int) + off = (t : Int)) (hn : pc + 3 = nx) : tSnd my mc mL mr own cc nL ret pc (aGt0 t nx) := by
  subst hn
  intro E p l e s m args below meth c d hX rec hR K hK ls st G r hO hr
  unfold aGt0 at hr
  dsimp only at hr
  split at hr
  · rename_i x st'
    by_cases h0 : 0 < x
    · rw [if_pos h0] at hr
      have h1 := hK (t, ls, st', G) ⟨(tokS_c.mp hO.1).2, hO.2⟩ r hr
      exact fun H locs lsA hP hS hl => lv_if_gt hX.1 hX.2.1 hdg ht (fun _ => h1 H locs lsA hP hS hl) (fun h => absurd h0 h)
    · rw [if_neg h0] at hr
      have h1 := hK (pc + 3, ls, st', G) ⟨(tokS_c.mp hO.1).2, hO.2⟩ r hr
      exact fun H locs lsA hP hS hl => lv_if_gt hX.1 hX.2.1 hdg ht (fun h => absurd h h0) (fun _ => h1 H locs lsA hP hS hl)
  · cases hr
theorem snd_ifle {t : Nat} {off : Int} (hdg : decode cc pc = .ok (.ifCond .le off, 3)) (ht : (pc : Int) + off = (t : Int)) (hn : pc + 3 = nx) : tSnd my mc mL mr own cc nL ret pc (aGt0 nx t) := by
  subst hn
  intro E p l e s m args below meth c d hX rec hR K hK ls st G r hO hr
  unfold aGt0 at hr
  dsimp only at hr
  split at hr
  · rename_i x st'
    by_cases h0 : 0 < x
    · rw [if_pos h0] at hr
      have h1 := hK (pc + 3, ls, st', G) ⟨(tokS_c.mp hO.1).2, hO.2⟩ r hr
      exact fun H locs lsA hP hS hl => lv_if_le hX.1 hX.2.1 hdg ht (fun h => absurd h (Int32.not_le.mpr h0)) (fun _ => h1 H locs lsA hP hS hl)
    · rw [if_neg h0] at hr
      have h1 := hK (t, ls, st', G) ⟨(tokS_c.mp hO.1).2, hO.2⟩ r hr
      exact fun H locs lsA hP hS hl => lv_if_le hX.1 hX.2.1 hdg ht (fun _ => h1 H locs lsA hP hS hl) (fun h => absurd (Int32.not_lt.mp h0) h)
  · cases hr
theorem snd_icmpeq {t : Nat} {off : Int} (hdg : decode cc pc = .ok (.if_icmp .eq off, 3)) (ht : (pc : Int) + off = (t : Int)) (hn : pc + 3 = nx) : tSnd my mc mL mr own cc nL ret pc (aEq t nx) := by
  subst hn
  intro E p l e s m args below meth c d hX rec hR K hK ls st G r hO hr
  unfold aEq at hr
  dsimp only at hr
  split at hr
  · rename_i y x st'
    by_cases h0 : x = y
    · rw [if_pos h0] at hr
      have h1 := hK (t, ls, st', G) ⟨(tokS_c.mp (tokS_c.mp hO.1).2).2, hO.2⟩ r hr
      exact fun H locs lsA hP hS hl => lv_icmp_eq hX.1 hX.2.1 hdg ht (fun _ => h1 H locs lsA hP hS hl) (fun h => absurd h0 h)
    · rw [if_neg h0] at hr
      have h1 := hK (pc + 3, ls, st', G) ⟨(tokS_c.mp (tokS_c.mp hO.1).2).2, hO.2⟩ r hr
      exact fun H locs lsA hP hS hl => lv_icmp_eq hX.1 hX.2.1 hdg ht (fun h => absurd h h0) (fun _ => h1 H locs lsA hP hS hl)
  · cases hr
theorem snd_icmpne {t : Nat} {off : Int} (hdg : decode cc pc = .ok (.if_icmp .ne off, 3)) (ht : (pc : Int) + off = (t : Int)) (hn : pc + 3 = nx) : tSnd my mc mL mr own cc nL ret pc (aEq nx t) := by
  subst hn
  intro E p l e s m args below meth c d hX rec hR K hK ls st G r hO hr
  unfold aEq at hr
  dsimp only at hr
  split at hr
  · rename_i y x st'
    by_cases h0 : x = y
    · rw [if_pos h0] at hr
      have h1 := hK (pc + 3, ls, st', G) ⟨(tokS_c.mp (tokS_c.mp hO.1).2).2, hO.2⟩ r hr
      exact fun H locs lsA hP hS hl => lv_icmp_ne hX.1 hX.2.1 hdg ht (fun h => absurd h0 h) (fun _ => h1 H locs lsA hP hS hl)
    · rw [if_neg h0] at hr
      have h1 := hK (t, ls, st', G) ⟨(tokS_c.mp (tokS_c.mp hO.1).2).2, hO.2⟩ r hr
      exact fun H locs lsA hP hS hl => lv_icmp_ne hX.1 hX.2.1 hdg ht (fun _ => h1 H locs lsA hP hS hl) (fun h => absurd h h0)
  · cases hr
theorem snd_icmplt {t : Nat} {off : Int} (hdg : decode cc pc = .ok (.if_icmp .lt off, 3)) (ht : (pc : Int) + off = (t : Int)) (hn : pc + 3 = nx) : tSnd my mc mL mr own cc nL ret pc (aLt t nx) := by
  subst hn
  intro E p l e s m args below meth c d hX rec hR K hK ls st G r hO hr
  unfold aLt at hr
  dsimp only at hr
  split at hr
  · rename_i y x st'
    by_cases h0 : x < y
    · rw [if_pos h0] at hr
      have h1 := hK (t, ls, st', G) ⟨(tokS_c.mp (tokS_c.mp hO.1).2).2, hO.2⟩ r hr
      exact fun H locs lsA hP hS hl => lv_icmp_lt hX.1 hX.2.1 hdg ht (fun _ => h1 H locs lsA hP hS hl) (fun h => absurd h0 h)
    · rw [if_neg h0] at hr
      have h1 := hK (pc + 3, ls, st', G) ⟨(tokS_c.mp (tokS_c.mp hO.1).2).2, hO.2⟩ r hr
      exact fun H locs lsA hP hS hl => lv_icmp_lt hX.1 hX.2.1 hdg ht (fun h => absurd h h0) (fun _ => h1 H locs lsA hP hS hl)
  · cases hr
theorem snd_icmpge {t : Nat} {off : Int} (hdg : decode cc pc = .ok (.if_icmp .ge off, 3)) (ht : (pc : Int) + off = (t : Int)) (hn : pc + 3 = nx) : tSnd my mc mL mr own cc nL ret pc (aLt nx t) := by
  subst hn
  intro E p l e s m args below meth c d hX rec hR K hK ls st G r hO hr
  unfold aLt at hr
  dsimp only at hr
  split at hr
  · rename_i y x st'
    by_cases h0 : x < y
    · rw [if_pos h0] at hr
      have h1 := hK (pc + 3, ls, st', G) ⟨(tokS_c.mp (tokS_c.mp hO.1).2).2, hO.2⟩ r hr
      exact fun H locs lsA hP hS hl => lv_icmp_ge hX.1 hX.2.1 hdg ht (fun h => absurd h (Int32.not_le.mpr h0)) (fun _ => h1 H locs lsA hP hS hl)
    · rw [if_neg h0] at hr
      have h1 := hK (t, ls, st', G) ⟨(tokS_c.mp (tokS_c.mp hO.1).2).2, hO.2⟩ r hr
      exact fun H locs lsA hP hS hl => lv_icmp_ge hX.1 hX.2.1 hdg ht (fun _ => h1 H locs lsA hP hS hl) (fun h => absurd (Int32.not_lt.mp h0) h)
  · cases hr
theorem snd_icmpgt {t : Nat} {off : Int} (hdg : decode cc pc = .ok (.if_icmp .gt off, 3)) (ht : (pc : Int) + off = (t : Int)) (hn : pc + 3 = nx) : tSnd my mc mL mr own cc nL ret pc (aGt t nx) := by
  subst hn
  intro E p l e s m args below meth c d hX rec hR K hK ls st G r hO hr
  unfold aGt at hr
  dsimp only at hr
  split at hr
  · rename_i y x st'
    by_cases h0 : y < x
    · rw [if_pos h0] at hr
      have h1 := hK (t, ls, st', G) ⟨(tokS_c.mp (tokS_c.mp hO.1).2).2, hO.2⟩ r hr
      exact fun H locs lsA hP hS hl => lv_icmp_gt hX.1 hX.2.1 hdg ht (fun _ => h1 H locs lsA hP hS hl) (fun h => absurd h0 h)
    · rw [if_neg h0] at hr
      have h1 := hK (pc + 3, ls, st', G) ⟨(tokS_c.mp (tokS_c.mp hO.1).2).2, hO.2⟩ r hr
      exact fun H locs lsA hP hS hl => lv_icmp_gt hX.1 hX.2.1 hdg ht (fun h => absurd h h0) (fun _ => h1 H locs lsA hP hS hl)
  · cases hr
theorem snd_icmple {t : Nat} {off : Int} (hdg : decode cc pc = .ok (.if_icmp .le off, 3)) (ht : (pc : Int) + off = (t : Int)) (hn : pc + 3 = nx) : tSnd my mc mL mr own cc nL ret pc (aGt nx t) := by
  subst hn
  intro E p l e s m args below meth c d hX rec hR K hK ls st G r hO hr
  unfold aGt at hr
  dsimp only at hr
  split at hr
  · rename_i y x st'
    by_cases h0 : y < x
    · rw [if_pos h0] at hr
      have h1 := hK (pc + 3, ls, st', G) ⟨(tokS_c.mp (tokS_c.mp hO.1).2).2, hO.2⟩ r hr
      exact fun H locs lsA hP hS hl => lv_icmp_le hX.1 hX.2.1 hdg ht (fun h => absurd h (Int32.not_le.mpr h0)) (fun _ => h1 H locs lsA hP hS hl)
    · rw [if_neg h0] at hr
      have h1 := hK (t, ls, st', G) ⟨(tokS_c.mp (tokS_c.mp hO.1).2).2, hO.2⟩ r hr
      exact fun H locs lsA hP hS hl => lv_icmp_le hX.1 hX.2.1 hdg ht (fun _ => h1 H locs lsA hP hS hl) (fun h => absurd (Int32.not_lt.mp h0) h)
  · cases hr
theorem snd_goto {t : Nat} {off : Int} (hdg : decode cc pc = .ok (.goto off, 3)) (ht : (pc : Int) + off = (t : Int)) : tSnd my mc mL mr own cc nL ret pc (aGo t) := by
  intro E p l e s m args below meth c d hX rec hR K hK ls st G r hO hr
  have h1 := hK (t, ls, st, G) hO r hr
  exact fun H locs lsA hP hS hl => lv_goto hX.1 hX.2.1 hdg ht (h1 H locs lsA hP hS hl)
end TSN
