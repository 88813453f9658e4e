/-! What the pure machine says of a method holds of the machine -/
theorem tpad_get : ∀ (n : Nat) (l : tL) (i : Nat) (v : tV), lget (tpad n l) i = some v → lget l i = some v
  | 0, l, i, v, h => by cases h
  | n + 1, [], 0, v, h => by cases h
  | n + 1, [], i + 1, v, h => by have := tpad_get n [] i v h; cases this
  | n + 1, x :: l, 0, v, h => h
  | n + 1, x :: l, i + 1, v, h => tpad_get n l i v h
theorem tpad_len : ∀ (n : Nat) (l : tL), (tpad n l).length = n
  | 0, l => rfl
  | n + 1, [] => by simp [tpad, tpad_len n []]
  | n + 1, x :: l => by simp [tpad, tpad_len n l]
theorem targs_get (E : tE) : ∀ (as : List tV) (j i : Nat) (v : tV), lget (targs as) i = some v → (j + i, tmv E v) ∈ lv_args j (as.map (tmv E))
  | [], j, i, v, h => by cases h
  | .inl x :: as, j, 0, v, h => by cases h; exact List.mem_cons_self
  | .inl x :: as, j, i + 1, v, h => by
    have := targs_get E as (j + 1) i v h
    rw [Nat.add_right_comm] at this
    exact List.mem_cons_of_mem _ this
  | .inr (.inr q) :: as, j, 0, v, h => by cases h; exact List.mem_cons_self
  | .inr (.inr q) :: as, j, i + 1, v, h => by
    have := targs_get E as (j + 1) i v h
    rw [Nat.add_right_comm] at this
    exact List.mem_cons_of_mem _ this
  | .inr (.inl x) :: as, j, 0, v, h => by cases h; exact List.mem_cons_self
  | .inr (.inl x) :: as, j, 1, v, h => by cases h
  | .inr (.inl x) :: as, j, i + 2, v, h => by
    have := targs_get E as (j + 2) i v h
    rw [Nat.add_right_comm] at this
    exact List.mem_cons_of_mem _ this
theorem targs_ok {as : List tV} (h : tokS as) : ∀ (i : Nat) (v : tV), lget (targs as) i = some v → tokV v := by
  induction as with
  | nil => intro i v hv; cases hv
  | cons a as ih =>
    obtain ⟨h1, h2⟩ := tokS_c.mp h
    intro i v hv
    match a, h1, hv with
    | .inl x, h1, hv =>
      cases i with
      | zero => cases hv; trivial
      | succ i => exact ih h2 i v hv
    | .inr (.inr q), h1, hv =>
      cases i with
      | zero => cases hv; exact h1
      | succ i => exact ih h2 i v hv
    | .inr (.inl x), h1, hv =>
      match i, hv with
      | 0, hv => cases hv; trivial
      | 1, hv => cases hv
      | i + 2, hv => exact ih h2 i v hv
theorem targs_len (E : tE) : ∀ as : List tV, (lg_sl (as.map (tmv E))).length = (targs as).length
  | [] => rfl
  | .inl x :: as => by
    have h := targs_len E as
    simp only [lg_sl, List.map_cons, List.flatMap_cons, List.length_append, targs, List.length_cons] at h ⊢
    rw [h]
    simp [tmv, Value.category]
    omega
  | .inr (.inr q) :: as => by
    have h := targs_len E as
    simp only [lg_sl, List.map_cons, List.flatMap_cons, List.length_append, targs, List.length_cons] at h ⊢
    rw [h]
    simp [tmv, Value.category]
    omega
  | .inr (.inl x) :: as => by
    have h := targs_len E as
    simp only [lg_sl, List.map_cons, List.flatMap_cons, List.length_append, targs, List.length_cons] at h ⊢
    rw [h]
    simp [tmv, Value.category]
    omega
section TMAS
variable {code : Nat → Nat → Option tAct} {rank : Nat → List tV → Nat} {my : Nat → MethodName} {mc : Nat → ByteArray} {mL : Nat → Nat} {mr : Nat → Option FieldType} {E : tE} {l : Launch}
def tSA (code : Nat → Nat → Option tAct) (rank : Nat → List tV → Nat) (my : Nat → MethodName) (mc : Nat → ByteArray) (mL : Nat → Nat) (mr : Nat → Option FieldType) (E : tE) (l : Launch) (n : Nat) : Prop :=
  ∀ mid d q r, tOk q → tex code rank mL n mid d q = some r → ∀ p e s m args below meth c, tX E p s m args meth c (my mid).cls (mc mid) (mL mid) (mr mid) → tWc E p l e s m args below meth c (mL mid) d q r
theorem tmet (hI : tInj E) {n mid d : Nat} {as : List tV} {G : tH} {r : tRes} (hA : tSA code rank my mc mL mr E l n) (hpl : plainName (my mid).cls = true) (has : tokS as) (hG : tokG G) (hln : (targs as).length ≤ mL mid) (h : tex code rank mL n mid d (tin0 mL mid as G) = some r) :
    Met l (my mid) (tmw my mc mL mr mid) (tRm d) (tPc E as G) (tQ E r) 0 0 (tAP E) := by
  refine Met.ofW (cc := mc mid) (maxL := mL mid) (ret := mr mid) hpl rfl ?_
  intro p e s m args below meth c s₁ B hml hv
  obtain ⟨rfl, hP, hKN, hHK⟩ := hv
  have hts := atoms_spec (ws := tmw my mc mL mr mid) B.pre
  have hX : tX E p s m (as.map (tmv E)).toArray meth c (my mid).cls (mc mid) (mL mid) (mr mid) := ⟨B.exec, B.bytes, hml, B.returns, B.notSynchronized, findClass_of_methodNamed B.named, fun w hw => hts w (List.mem_cons_of_mem _ hw), hKN, hHK, hI⟩
  have h1 := hA mid d (tin0 mL mid as G) r ⟨fun v hv => (by cases hv), fun i v hv => targs_ok has i v (tpad_get _ _ _ _ hv), hG⟩ h p e s m _ below meth c hX
  have hl := lv_entry (as.map (tmv E)) (n := mL mid) (by rw [targs_len]; exact hln)
  rw [lg_entry_eq]
  exact h1 s.heap [] _ hP va_S.rf ⟨hl.1, hl.2.1, by rw [show (tin0 mL mid as G).2.1 = tpad (mL mid) (targs as) from rfl, tpad_len]; exact Nat.le_refl _, fun i v hv => by
    have hm := targs_get E as 0 i v (tpad_get _ _ _ _ hv)
    rw [Nat.zero_add] at hm
    exact hl.2.2 _ hm⟩
theorem tmaster (hI : tInj E) (hsn : ∀ mid pc a, code mid pc = some a → tSnd my mc mL mr (my mid).cls (mc mid) (mL mid) (mr mid) pc a) (hpl : ∀ mid pc a, code mid pc = some a → plainName (my mid).cls = true) : ∀ n, tSA code rank my mc mL mr E l n := by
  intro n
  induction n with
  | zero => intro mid d q r hO h; cases h
  | succ n ih =>
    intro mid d q r hO h p e s m args below meth c hX
    unfold tex at h
    cases hc : code mid q.1 with
    | none => rw [hc] at h; cases h
    | some a =>
      rw [hc] at h
      obtain ⟨pc, ls, st, G⟩ := q
      refine hsn mid pc a hc E p l e s m args below meth c d hX _ ?_ _ ?_ ls st G r hO h
      · intro mid' as G' r' has hG' hr'
        obtain ⟨hb, hr'⟩ := tcond_some.mp hr'
        simp only [Bool.and_eq_true] at hb
        refine ⟨rank mid' as, Nat.le_of_ble_eq_true hb.1, ?_⟩
        have hne : ∃ pc a, code mid' pc = some a := by
          cases n with
          | zero => cases hr'
          | succ n =>
            unfold tex at hr'
            cases hc' : code mid' (tin0 mL mid' as G').1 with
            | none => rw [hc'] at hr'; cases hr'
            | some a' => exact ⟨_, _, hc'⟩
        obtain ⟨pc', a', hc'⟩ := hne
        exact tmet hI ih (hpl mid' pc' a' hc') has hG' (Nat.le_of_ble_eq_true hb.2) hr'
      · intro q' hO' r' hr'
        exact ih mid d q' r' hO' hr' p e s m args below meth c hX
/-- the contract of a method out of its value -/
theorem tcontract (hI : tInj E) (hS : ∀ mid pc a, code mid pc = some a → tSh a) (hsn : ∀ mid pc a, code mid pc = some a → tSnd my mc mL mr (my mid).cls (mc mid) (mL mid) (mr mid) pc a) (hpl : ∀ mid pc a, code mid pc = some a → plainName (my mid).cls = true) {mid : Nat} {as : List tV} {G : tH} {r : tRes} (hp : plainName (my mid).cls = true) (has : tokS as) (hG : tokG G) (hln : (targs as).length ≤ mL mid) (h : tvm code rank mL hS mid as G = some r) :
    Met l (my mid) (tmw my mc mL mr mid) (tRm (rank mid as)) (tPc E as G) (tQ E r) 0 0 (tAP E) := by
  obtain ⟨n, hn⟩ := (tvl_iff hS).mp h
  exact tmet hI (tmaster hI hsn hpl n) hp has hG hln hn
end TMAS
