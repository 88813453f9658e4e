/-! CONSTRUCTORS: a Roll's max, a Law's numbers -/
section NROW3
variable {E : tE} {A : Nat → Prop} {p : Program} {l : Launch} {e : Env} {R : Room} {s : State} {m : MethodId} {args : Array Value} {below : List Frame} {meth : Method} {c : Code} {own : String} {cc : ByteArray} {nL : Nat} {H : Heap} {locs : List Loc} {cells slots : Nat} {Q : State → Prop} {pc : Nat} {ls : Array Slot} {rest : List Value} {ws : va_W}
theorem n_max {a b v : Int32} {index : Nat} (hX : nX E A p s m args meth c own cc nL) (w1 : Cond.methodLink own index Lib.Math.max.name ∈ tW) (w2 : Cond.static Lib.Math.max.name ∈ tW) (w3 : Cond.initialized "java/lang/Math" ∈ tW) (w4 : Cond.code Lib.Math.max.name Lib.Math.max.code 2 (some .int) ∈ tW) (hv : (if a < b then b else a) = v) (hl : ls.size = nL) (hf : 1 ≤ R.frames) (hlo : (rest.map fun v => v.category).sum + 13 ≤ R.locals) (hc : cells ≤ R.cells) (hs : slots ≤ R.slots) (hdg : decode cc pc = .ok (.invokestatic index, 3))
    (kk : W p l e R s m args below meth c H locs cells slots Q (F0 m (pc + 3) ls (.int v :: rest))) : W p l e R s m args below meth c H locs cells slots Q (F0 m pc ls (.int b :: .int a :: rest)) := by
  obtain ⟨hx, hb, hml, hown, hts, hin, hK, hA⟩ := hX
  subst hv
  intro T hT X
  obtain ⟨vm', X', hst⟩ := va_mathMaxV X hx hown (hts _ w1) (hts _ w2) (hts _ w3) (hts _ w4) (g := F0 m pc ls (.int b :: .int a :: rest)) rfl (hl.trans hml.symm) (a := a) (b := b) (rest := rest) rfl (by rw [hb]; exact hdg) hf (by show 2 * 0 + _ + 13 ≤ _; rw [Nat.mul_zero, Nat.zero_add]; exact hlo) hc hs
  obtain ⟨t, a1, b1⟩ := kk (T.setVm vm') hT X'
  exact ⟨t, hst t a1, b1⟩
theorem nV.sub {ws' : va_W} (h : nV E A s ws H locs) (is : List Nat) (hn : va_nd is = true) (hs : is.map (fun i => ws[i]?) = ws'.map some) : nV E A s ws' H locs := ⟨va_P.iff.mpr fun x hx => by
    obtain ⟨k, hk⟩ := List.getElem?_of_mem hx
    have h1 : (is.map (fun i => ws[i]?))[k]? = some (some x) := by rw [hs, List.getElem?_map, hk]; rfl
    rw [List.getElem?_map] at h1
    cases hi : is[k]? with
    | none => rw [hi] at h1; cases h1
    | some i => rw [hi] at h1; exact h.1 i x (Option.some.inj h1), h.2.1.sub is hn hs, h.2.2⟩
/-- a method that writes to the cells of its own world alone -/
def mA (ws : va_W) : Nat → Prop := fun q => ∃ x ∈ ws, x.1 = q
def mPc (E : tE) (as : List Value) (ws : va_W) : Array Value → State → Prop := va_Pc as fun U => va_P E.1 vwCl ws U.heap ∧ va_D (fun _ => True) ws ∧ nK E U
def mCon (l : Launch) (E : tE) (y : MethodName) (bytes : ByteArray) (maxL : Nat) (rm : Room) (as : List Value) (ws ws' : va_W) : Prop := Met l y (.code y bytes maxL none :: tW) rm (mPc E as ws) (va_Qv (fun _ : Unit => True) (fun _ t => va_P E.1 vwCl ws' t.heap) (mA ws)) 0 0 (mA ws)
theorem mPc_blind {as : List Value} : FrameBlind (mPc E as ws) := fun a U g mk q => by
  obtain ⟨q0, q1, q2, q3⟩ := q
  exact ⟨q0, q1, q2, q3.same⟩
/-- what is known in a method -/
def mX (E : tE) (p : Program) (s : State) (m : MethodId) (args : Array Value) (c : Code) (own : String) (cc : ByteArray) (nL : Nat) : Prop := p.tables.exec = Jvm.exec ∧ c.code = cc ∧ c.maxLocals = nL ∧ s.vm.findClass own = some m.cls ∧ (∀ w ∈ tW, w.before args s = true) ∧ nK E s
theorem nX.mx (hX : nX E A p s m args meth c own cc nL) : mX E p s m args c own cc nL := by
  obtain ⟨hx, hb, hml, hown, hts, hin, hK, hA⟩ := hX
  exact ⟨hx, hb, hml, hown, hts, hK⟩
theorem m_con {y : MethodName} {bytes : ByteArray} {maxL : Nat} {rm : Room} {as : List Value} {ws ws' : va_W} (hpl : plainName y.cls = true) (hn : (lg_sl as).length ≤ maxL)
    (h : ∀ (p : Program) (e : Env) (s : State) (m : MethodId) (below : List Frame) (meth : Method) (c : Code) (ls : Array Slot), mX E p s m as.toArray c y.cls bytes maxL → meth.sig.returnType = none ∧ meth.locks = false → nV E (mA ws) s ws s.heap [] → lv_has ls maxL (lv_args 0 as) →
      W p l e rm s m as.toArray below meth c s.heap [] 0 0 (MQ below (va_Qv (fun _ : Unit => True) (fun _ t => va_P E.1 vwCl ws' t.heap) (mA ws)) as.toArray s 0 0 (mA ws)) (F0 m 0 ls [])) : mCon l E y bytes maxL rm as ws ws' := by
  refine Met.ofW (cc := bytes) (maxL := maxL) (ret := none) hpl rfl ?_
  intro p e s m args below meth c s₁ B hml hv
  obtain ⟨rfl, hP, hD, hK⟩ := hv
  have hts := atoms_spec (ws := .code y bytes maxL none :: tW) B.pre
  have hl := lv_entry as (n := maxL) hn
  rw [lg_entry_eq]
  exact h p e s m below meth c _ ⟨B.exec, B.bytes, hml, findClass_of_methodNamed B.named, fun w hw => hts w (List.mem_cons_of_mem _ hw), hK⟩ ⟨B.returns, B.notSynchronized⟩ ⟨hP, ⟨hD.1, fun k q hk => ⟨q, List.mem_of_getElem? hk, rfl⟩⟩, va_S.rf⟩ hl
theorem m_ret {ws ws' : va_W} {ls : Array Slot} (hX : mX E p s m args c own cc nL) (hr : meth.sig.returnType = none ∧ meth.locks = false) (hV : nV E (mA ws) s ws' H locs) (hdg : decode cc pc = .ok (.return_, 1)) : W p l e R s m args below meth c H locs 0 0 (MQ below (va_Qv (fun _ : Unit => True) (fun _ t => va_P E.1 vwCl ws' t.heap) (mA ws)) args s 0 0 (mA ws)) (F0 m pc ls []) := by
  obtain ⟨hx, hb, hml, hown, hts, hK⟩ := hX
  obtain ⟨hP, hD, hS⟩ := hV
  exact W.vret hx hb hr.1 (fun t ht hW => ⟨⟨(), rfl, trivial, by show va_P E.1 vwCl ws' t.heap; rw [ht]; exact hP⟩, hS.F ht⟩) hS.2.2 hdg hr.2
theorem m_call {y : MethodName} {bytes : ByteArray} {maxL n index b ci : Nat} {rm : Room} {as fs : List Value} {wr wc w1 : va_W} {C : String} {T : u_T} {N : Nat} {ty : Nat → FieldType} (hX : mX E p s m args c own cc nL) (hC : mCon l E y bytes maxL rm (.ref b :: as) wc w1) (hcl : tCl ci C T N ty) (hcw : wc[0]? = some (b, .inr (ci, fs))) (hmap : w1.map (·.1) = wc.map (·.1)) (w1' : Cond.methodLink own index y ∈ tW) (w2 : Cond.instanceMethod y ∈ tW) (w3 : Cond.selects C y y ∈ tW) (w4 : Cond.initialized C ∈ tW) (w5 : Cond.code y bytes maxL none ∈ tW) (hds : y.cls = C ∧ y.cls ≠ "java/lang/invoke/MethodHandle" ∧ y.cls ≠ "java/lang/invoke/VarHandle" ∧ (parseMethodDescriptor y.desc).map (fun d => d.parameters.length) = some n) (hn : as.length = n) (hrm : rm.cells = 0 ∧ rm.slots = 0) (hR : rm.frames + 1 ≤ R.frames ∧ 8 + (maxL + 11) + rm.locals ≤ R.locals) (hl : ls.size = nL) (hW : (rest.map fun v => v.category).sum ≤ 8) (hdg : decode cc pc = .ok (.invokevirtual index, 3)) (hf : cells ≤ R.cells ∧ slots ≤ R.slots) (hV : nV E A s (wr ++ wc) H locs)
    (kk : ∀ (H1 : Heap) (locs1 : List Loc), nV E A s (wr ++ w1) H1 locs1 → W p l e R s m args below meth c H1 locs1 cells slots Q (F0 m (pc + 3) ls rest)) : W p l e R s m args below meth c H locs cells slots Q (F0 m pc ls (as.reverse ++ .ref b :: rest)) := by
  obtain ⟨hx, hb, hml, hown, hts, hK⟩ := hX
  obtain ⟨hP, hD, hS⟩ := hV
  obtain ⟨d1, d2⟩ := va_D.iff.mp hD
  obtain ⟨d3, d4, d5⟩ := List.pairwise_append.mp d1
  have hPc : va_P E.1 vwCl wc H := va_P.iff.mpr fun x hx => va_P.iff.mp hP x (List.mem_append_right _ hx)
  have hDc : va_D (fun _ => True) wc := va_D.iff.mpr ⟨d4, fun _ _ => trivial⟩
  have hF : ∀ x, mA wc x → A x := by
    rintro x ⟨z, hz, rfl⟩
    exact d2 z (List.mem_append_right _ hz)
  have hb0 : wc[0]? = some (b, .inr (ci, fs)) := hcw
  refine va_callv (va_runV (As := as) (rest := rest) (b := b) (Ts := tW) (C := C) ⟨hx, hb, hml, hown, hts⟩ hC (cwV n hts (fun w hw => by
        simp only [wsV, List.mem_append, List.mem_cons, List.not_mem_nil, or_false] at hw
        rcases hw with (rfl | rfl | rfl | rfl) | rfl | hw
        · exact tgood w1'
        · exact tgood w2
        · exact tgood w3
        · exact tgood w4
        · exact tgood w5
        · exact tgood hw) rfl hrm.1 hrm.2 hds hR) ⟨mPc_blind, va_recv (q := (C, T, N)) (ci := ci) (q0 := 0) hK.1 hPc hcl.1 hb0, fun U hU hW => ⟨rfl, by rw [hU]; exact hPc, hDc, hK.warm hW⟩⟩ rfl hn hl rfl (lv_room hW) hdg hf) hS (fun x _ h => hF x h) hF (fun u t H1 locs1 ht hvm _ hB hz1 hk1 hS1 => ?_)
  rw [ht] at hB
  have hk2 : ∀ x ∈ wr, H1[x.1]? = H[x.1]? := fun x hx => hk1 x.1 (va_P.iff.mp hP x (List.mem_append_left _ hx)).lt (by
    rintro ⟨z, hz, e⟩
    exact d5 x hx z hz e.symm)
  have hmem : ∀ y ∈ w1, ∃ z ∈ wc, z.1 = y.1 := fun y hy => by
    have h1 : y.1 ∈ w1.map (·.1) := List.mem_map.mpr ⟨y, hy, rfl⟩
    rw [hmap] at h1
    exact List.mem_map.mp h1
  have hpw : w1.Pairwise (fun x y => x.1 ≠ y.1) := by
    have h1 : (wc.map (·.1)).Pairwise (· ≠ ·) := List.pairwise_map.mpr d4
    rw [← hmap] at h1
    exact List.pairwise_map.mp h1
  refine kk H1 locs1 ⟨va_P.iff.mpr fun x hx => ?_, va_D.iff.mpr ⟨List.pairwise_append.mpr ⟨d3, hpw, fun x hx y hy e => ?_⟩, fun x hx => ?_⟩, hS1⟩
  · rcases List.mem_append.mp hx with h | h
    · exact (va_P.iff.mp hP x (List.mem_append_left _ h)).kept (hk2 x h)
    · exact va_P.iff.mp hB x h
  · obtain ⟨z, hz, e2⟩ := hmem y hy
    exact d5 x hx z hz (e.trans e2.symm)
  · rcases List.mem_append.mp hx with h | h
    · exact d2 x (List.mem_append_left _ h)
    · obtain ⟨z, hz, e2⟩ := hmem x h
      rw [← e2]
      exact d2 z (List.mem_append_right _ hz)
end NROW3
