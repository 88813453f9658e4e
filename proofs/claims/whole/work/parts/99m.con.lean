/-! CONSTRUCTORS: worlds as sets, the rows -/
theorem va_P.iff {D : va_G} {cl : List vw_C} {ws : va_W} {H : Heap} : va_P D cl ws H ↔ ∀ q ∈ ws, va_at D cl q H :=
  ⟨fun h q hq => by obtain ⟨k, hk⟩ := List.getElem?_of_mem hq; exact h k q hk, fun h k q hk => h q (List.mem_of_getElem? hk)⟩
theorem va_D.iff {A : Nat → Prop} {ws : va_W} : va_D A ws ↔ ws.Pairwise (fun x y => x.1 ≠ y.1) ∧ ∀ q ∈ ws, A q.1 := by
  constructor
  · intro h
    refine ⟨List.pairwise_iff_getElem.mpr fun i j hi hj hij e => ?_, fun q hq => ?_⟩
    · have := h.1 i j _ _ (List.getElem?_eq_getElem hi) (List.getElem?_eq_getElem hj) e
      omega
    · obtain ⟨k, hk⟩ := List.getElem?_of_mem hq
      exact h.2 k q hk
  · rintro ⟨h1, h2⟩
    refine ⟨fun i j p q hi hj e => ?_, fun k q hk => h2 q (List.mem_of_getElem? hk)⟩
    obtain ⟨hi', ei⟩ := List.getElem?_eq_some_iff.mp hi
    obtain ⟨hj', ej⟩ := List.getElem?_eq_some_iff.mp hj
    rw [List.pairwise_iff_getElem] at h1
    rcases Nat.lt_trichotomy i j with g | g | g
    · exact absurd (by rw [ei, ej]; exact e) (h1 i j hi' hj' g)
    · exact g
    · exact absurd (by rw [ei, ej]; exact e.symm) (h1 j i hj' hi' g)
theorem va_P.perm {D : va_G} {cl : List vw_C} {ws ws' : va_W} {H : Heap} (h : va_P D cl ws H) (hp : ws.Perm ws') : va_P D cl ws' H := va_P.iff.mpr fun q hq => va_P.iff.mp h q (hp.mem_iff.mpr hq)
theorem va_D.perm {A : Nat → Prop} {ws ws' : va_W} (h : va_D A ws) (hp : ws.Perm ws') : va_D A ws' := by
  obtain ⟨h1, h2⟩ := va_D.iff.mp h
  exact va_D.iff.mpr ⟨(hp.pairwise_iff fun h => Ne.symm h).mp h1, fun q hq => h2 q (hp.mem_iff.mpr hq)⟩
/-- behind a call that had the last cells alone -/
theorem nj {A : Nat → Prop} {D : va_G} {cl : List vw_C} {ws wc w1 : va_W} {H H1 : Heap} (hP : va_P D cl (ws ++ wc) H) (hD : va_D A (ws ++ wc)) (hk : ∀ q : Nat, q < H.size → ¬ va_A wc H.size q → H1[q]? = H[q]?) (hF : ∀ q, va_A wc H.size q → A q) (hP1 : va_P D cl w1 H1) (hD1 : va_D (va_A wc H.size) w1) : va_P D cl (ws ++ w1) H1 ∧ va_D A (ws ++ w1) := by
  obtain ⟨d1, d2⟩ := va_D.iff.mp hD
  obtain ⟨d3, d4, d5⟩ := List.pairwise_append.mp d1
  have apart : ∀ q ∈ ws, q.1 < H.size ∧ ¬ va_A wc H.size q.1 := by
    intro q hq
    have hl := (va_P.iff.mp hP q (List.mem_append_left _ hq)).lt
    refine ⟨hl, fun h => ?_⟩
    rcases h with ⟨k, e, h⟩ | h
    · exact d5 q hq (q.1, e) (List.mem_of_getElem? h) rfl
    · omega
  obtain ⟨g1, g2⟩ := va_D.iff.mp hD1
  refine ⟨va_P.iff.mpr fun q hq => ?_, va_D.iff.mpr ⟨List.pairwise_append.mpr ⟨d3, g1, fun x hx y hy e => ?_⟩, fun q hq => ?_⟩⟩
  · rcases List.mem_append.mp hq with h | h
    · obtain ⟨a1, a2⟩ := apart q h
      exact (va_P.iff.mp hP q (List.mem_append_left _ h)).kept (hk q.1 a1 a2)
    · exact va_P.iff.mp hP1 q h
  · exact (apart x hx).2 (by rw [e]; exact g2 y hy)
  · rcases List.mem_append.mp hq with h | h
    · exact d2 q (List.mem_append_left _ h)
    · exact hF _ (g2 q h)
def tNest2 : List Cond := [.methodLinkNest "TaxFarm" 11 ⟨"TaxFarm$Tape", "<init>", "()V"⟩ "TaxFarm", .methodLinkNest "TaxFarm$Province" 63 ⟨"TaxFarm$Law", "<init>", "()V"⟩ "TaxFarm", .methodLinkNest "TaxFarm" 28 ⟨"TaxFarm$Past", "<init>", "()V"⟩ "TaxFarm", .methodLinkNest "TaxFarm" 72 ⟨"TaxFarm$Outlook", "<init>", "()V"⟩ "TaxFarm", .methodLinkNest "TaxFarm" 86 ⟨"TaxFarm$Draws", "<init>", "()V"⟩ "TaxFarm"]
def nK (E : tE) (U : State) : Prop := va_K E.1 vwCl (ttys E) U ∧ (∀ w ∈ tNest2, va_Nw w U) ∧ va_AO "TaxFarm$State" U
theorem nK.warm {E : tE} {s U : State} (hW : s.WarmedH U.vm) (h : nK E s) : nK E U := by
  refine ⟨va_K.moved hW.alike h.1, fun w hw => ?_, h.2.2.moved hW.alike⟩
  have h1 := h.2.1 w hw
  simp only [tNest2, List.mem_cons, List.not_mem_nil, or_false] at hw
  rcases hw with rfl | rfl | rfl | rfl | rfl <;> exact h1.warmM hW
theorem nK.same {E : tE} {U : State} {g : JFrame} {mk : MethodId} {a : Array Value} (h : nK E U) : nK E (U.calling g mk a) := by
  refine ⟨va_K.moved (u := U) (U := U.calling g mk a) (Vm.Alike.refl U.vm) h.1, fun w hw => ?_, h.2.2.moved (u := U) (U := U.calling g mk a) (Vm.Alike.refl U.vm)⟩
  have h1 := h.2.1 w hw
  simp only [tNest2, List.mem_cons, List.not_mem_nil, or_false] at hw
  rcases hw with rfl | rfl | rfl | rfl | rfl <;> exact h1.same rfl rfl
/-- what a constructor stands on -/
def nX (E : tE) (A : Nat → Prop) (p : Program) (s : State) (m : MethodId) (args : Array Value) (meth : Method) (c : Code) (own : String) (cc : ByteArray) (nL : Nat) : Prop := p.tables.exec = Jvm.exec ∧ c.code = cc ∧ c.maxLocals = nL ∧ s.vm.findClass own = some m.cls ∧ (∀ w ∈ tW, w.before args s = true) ∧ meth.name = "<init>" ∧ nK E s ∧ ∀ q : Nat, s.heap.size ≤ q → A q
/-- its world -/
def nV (E : tE) (A : Nat → Prop) (s : State) (ws : va_W) (H : Heap) (locs : List Loc) : Prop := va_P E.1 vwCl ws H ∧ va_D A ws ∧ va_S A s.heap H locs
theorem nV.perm {E : tE} {A : Nat → Prop} {s : State} {ws ws' : va_W} {H : Heap} {locs : List Loc} (h : nV E A s ws H locs) (hp : ws.Perm ws') : nV E A s ws' H locs := ⟨h.1.perm hp, h.2.1.perm hp, h.2.2⟩
section NROW
variable {E : tE} {A : Nat → Prop} {p : Program} {l : Launch} {e : Env} {R : Room} {s : State} {m : MethodId} {args : Array Value} {below : List Frame} {meth : Method} {c : Code} {own : String} {cc : ByteArray} {nL : Nat} {H : Heap} {locs : List Loc} {cells slots : Nat} {Q : State → Prop} {pc : Nat} {ls : Array Slot} {rest : List Value} {ws : va_W}
theorem n_put {h0 ci N index k : Nat} {T : u_T} {ty : Nat → FieldType} {fs : List Value} {v : Value} (hX : nX E A p s m args meth c own cc nL) (hcl : tCl ci own T N ty) (hlink : Cond.fieldLink own index own (T k).2.1 (T k).2.2.1 ∈ tW) (hdg : decode cc pc = .ok (.putfield index, 3)) (hk : k < N) (hn : narrow (ty k) v = v) (hfit : fits (ty k) v = true) (hl : k < fs.length) (hV : nV E A s ((h0, .inr (ci, fs)) :: ws) H locs)
    (kk : ∀ (H1 : Heap) (locs1 : List Loc), nV E A s ((h0, .inr (ci, fs.set k v)) :: ws) H1 locs1 → W p l e R s m args below meth c H1 locs1 cells slots Q (F0 m (pc + 3) ls rest)) : W p l e R s m args below meth c H locs cells slots Q (F0 m pc ls (v :: .ref h0 :: rest)) := by
  obtain ⟨hx, hb, hml, hown, hts, hin, hK, hA⟩ := hX
  obtain ⟨hc, hws, hcm, hci, hty, hnm, hT, hlen⟩ := hcl
  obtain ⟨hP, hD, hS⟩ := hV
  cases hf : (T k).2.2.2
  · exact va_put (C := own) (T := T) (N := N) (ci := ci) hx hb hts hws ty hty hnm hown hK.1 hP hD hS 0 rfl hc k hk (hts _ hlink) (fun _ h => by rw [hT k hk] at h; exact h) hf (hty k hk) hn hfit hl hdg (fun H1 locs1 a b c => kk H1 locs1 ⟨a, b, c⟩)
  · exact va_putF (C := own) (T := T) (N := N) (ci := ci) hx hb hts hws ty hty hnm hown hK.1 hP hD hS 0 rfl hc k hk (hts _ hlink) (fun _ h => by rw [hT k hk] at h; exact h) hf hin (hT k hk) (hty k hk) hn hfit hl hdg (fun H1 locs1 a b c => kk H1 locs1 ⟨a, b, c⟩)
theorem n_get {h0 ci N index k : Nat} {T : u_T} {ty : Nat → FieldType} {fs : List Value} {v : Value} (hX : nX E A p s m args meth c own cc nL) (hcl : tCl ci own T N ty) (hlink : Cond.fieldLink own index own (T k).2.1 (T k).2.2.1 ∈ tW) (hdg : decode cc pc = .ok (.getfield index, 3)) (hk : k < N) (hv : fs[k]? = some v) (hV : nV E A s ((h0, .inr (ci, fs)) :: ws) H locs)
    (kk : W p l e R s m args below meth c H locs cells slots Q (F0 m (pc + 3) ls (v :: rest))) : W p l e R s m args below meth c H locs cells slots Q (F0 m pc ls (.ref h0 :: rest)) := by
  obtain ⟨hx, hb, hml, hown, hts, hin, hK, hA⟩ := hX
  obtain ⟨hc, hws, hcm, hci, hty, hnm, hT, hlen⟩ := hcl
  obtain ⟨hP, hD, hS⟩ := hV
  exact va_get (C := own) (T := T) (N := N) (ci := ci) hx hb hts hws hown hK.1 hP 0 rfl hc k hk (hts _ hlink) (fun _ h => by rw [hT k hk] at h; exact h) hv hdg kk
theorem n_newa {t0 N' : Nat} {atype : ArrayType} {ty : FieldType} {n : Int32} {a0 : vp_A} (hX : nX E A p s m args meth c own cc nL) (ht : (ttys E)[t0]? = some (E.2.1 t0, ty)) (hnm : ∀ (cA cB : ClassId), va_RA s cA ty → va_RA s cB ty → cA = cB) (harr : Cond.arrayClass ty ∈ tW) (hty : newarray.typeOf atype = ty) (ha : ∀ cA : ClassId, vp_cell cA a0 = arrV cA N' (fun _ => defaultValue ty)) (hn : ¬ n < 0) (hN : n.toNatClampNeg = N') (hbytes : N' * componentBytes ty ≤ 536870912) (hcells : cells + 1 ≤ R.cells) (hslots : slots + N' ≤ R.slots) (hdg : decode cc pc = .ok (.newarray atype, 2)) (hV : nV E A s ws H locs)
    (kk : ∀ (q : Nat) (H1 : Heap), nV E A s (ws ++ [(q, .inl (E.2.1 t0, a0))]) H1 locs → W p l e R s m args below meth c H1 locs (cells + 1) (slots + N') Q (F0 m (pc + 2) ls (.ref q :: rest))) : W p l e R s m args below meth c H locs cells slots Q (F0 m pc ls (.int n :: rest)) := by
  obtain ⟨hx, hb, hml, hown, hts, hin, hK, hA⟩ := hX
  obtain ⟨hP, hD, hS⟩ := hV
  refine va_newa hx hb (by rw [hty]; exact hts _ harr) hty hK.1 hP hD hS hA ha hn hN hbytes hcells hslots hdg (fun q cA H1 hK1 hP1 hD1 hS1 => ?_)
  have e : cA = E.2.1 t0 := hnm _ _ (hK1.2 (ttys E).length (cA, ty) (by rw [List.getElem?_append_right (Nat.le_refl _), Nat.sub_self]; rfl)).2 (hK.1.2 t0 _ ht).2
  rw [e] at hP1 hD1
  exact kk q H1 ⟨hP1, hD1, hS1⟩
theorem n_nm {s : State} {ty : FieldType} (h : ∀ cA, va_RA s cA ty → s.vm.findClass ("[" ++ ty.toString) = some cA) : ∀ (cA cB : ClassId), va_RA s cA ty → va_RA s cB ty → cA = cB := fun cA cB a b => by
  have h1 := h cA a
  rw [h cB b] at h1
  exact (Option.some.inj h1).symm
theorem n_newq {N' index : Nat} {n : Int32} (hX : nX E A p s m args meth c own cc nL) (hcl : Cond.classLink own index "TaxFarm$State" ∈ tW) (hn : ¬ n < 0) (hN : n.toNatClampNeg = N') (hbytes : N' * 4 ≤ 536870912) (hcells : cells + 1 ≤ R.cells) (hslots : slots + N' ≤ R.slots) (hdg : decode cc pc = .ok (.anewarray index, 3)) (hV : nV E A s ws H locs)
    (kk : ∀ (q : Nat) (H1 : Heap), nV E A s (ws ++ [(q, .inl (E.2.1 4, N', .inr (.inr (.inr (.inr fun _ => none)))))]) H1 locs → W p l e R s m args below meth c H1 locs (cells + 1) (slots + N') Q (F0 m (pc + 3) ls (.ref q :: rest))) : W p l e R s m args below meth c H locs cells slots Q (F0 m pc ls (.int n :: rest)) := by
  obtain ⟨hx, hb, hml, hown, hts, hin, hK, hA⟩ := hX
  obtain ⟨hP, hD, hS⟩ := hV
  refine va_newq hx hb hown (hts _ hcl) hK.2.2 hK.1 hP hD hS hA hn hN hbytes hcells hslots hdg (fun q cA H1 hK1 hP1 hD1 hS1 => ?_)
  have e : cA = E.2.1 4 := n_nm (ty := .object "TaxFarm$State") (fun cA ⟨_, _, _, _, _, h⟩ => h) _ _ (hK1.2 (ttys E).length (cA, .object "TaxFarm$State") (by rw [List.getElem?_append_right (Nat.le_refl _), Nat.sub_self]; rfl)).2 (hK.1.2 4 (E.2.1 4, .object "TaxFarm$State") rfl).2
  rw [e] at hP1 hD1
  exact kk q H1 ⟨hP1, hD1, hS1⟩
theorem n_new {ci N index : Nat} {C : String} {T : u_T} {ty : Nat → FieldType} {fs : List Value} (hX : nX E A p s m args meth c own cc nL) (hcl : tCl ci C T N ty) (hlink : Cond.classLink own index C ∈ tW) (hinst : Cond.instantiable C N ∈ tW) (hini : Cond.initialized C ∈ tW) (hfs : ∀ j, j < N → defaultValue (ty j) = vp_V fs j) (hcells : cells + 1 ≤ R.cells) (hslots : slots + N ≤ R.slots) (hdg : decode cc pc = .ok (.new index, 3)) (hV : nV E A s ws H locs)
    (kk : ∀ (q : Nat) (H1 : Heap), nV E A s (ws ++ [(q, .inr (ci, fs))]) H1 locs → W p l e R s m args below meth c H1 locs (cells + 1) (slots + N) Q (F0 m (pc + 3) ls (.ref q :: rest))) : W p l e R s m args below meth c H locs cells slots Q (F0 m pc ls rest) := by
  obtain ⟨hx, hb, hml, hown, hts, hin, hK, hA⟩ := hX
  obtain ⟨hc, hws, hcm, hci, hty, hnm, hT, hlen⟩ := hcl
  obtain ⟨hP, hD, hS⟩ := hV
  exact va_new (C := C) (T := T) (N := N) (ci := ci) hx hb hts hws ty hty hown (hts _ hlink) (hts _ hinst) (hts _ hini) hK.1 hP hD hS hA hc hfs hcells hslots hdg (fun q H1 a b c => kk q H1 ⟨a, b, c⟩)
end NROW
