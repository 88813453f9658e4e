/-! CONSTRUCTORS: their contracts, starts, ends, calls -/
def nR (d k n : Nat) : Room := { frames := d, cells := k, slots := n, locals := 64 * d }
def nA (h0 sz : Nat) : Nat → Prop := fun q => q = h0 ∨ sz ≤ q
theorem nA_A {h0 sz q : Nat} {e : va_E} : va_A [(h0, e)] sz q ↔ nA h0 sz q := by
  constructor
  · rintro (⟨k, e', h⟩ | h)
    · cases k with
      | zero => exact Or.inl (congrArg Prod.fst (Option.some.inj h)).symm
      | succ k => cases h
    · exact Or.inr h
  · rintro (h | h)
    · exact Or.inl ⟨0, e, by rw [h]; rfl⟩
    · exact Or.inr h
def nPc (E : tE) (ci h0 sz : Nat) (fs as : List Value) : Array Value → State → Prop := va_Pc (.ref h0 :: as) fun U => U.heap.size = sz ∧ va_P E.1 vwCl [(h0, .inr (ci, fs))] U.heap ∧ nK E U
def nQ (E : tE) (h0 sz : Nat) (Wd : (Nat → Nat) → va_W) : Array Value → State → Outcome → State → Prop := va_Qv (fun u : Nat → Nat => u 0 = h0) (fun u t => va_P E.1 vwCl (Wd u) t.heap ∧ va_D (nA h0 sz) (Wd u)) (nA h0 sz)
def nCon (l : Launch) (E : tE) (y : MethodName) (bytes : ByteArray) (maxL : Nat) (rm : Room) (ci : Nat) (fs as : List Value) (Wd : (Nat → Nat) → va_W) : Prop := ∀ h0 sz : Nat, Met l y (.code y bytes maxL none :: tW) rm (nPc E ci h0 sz fs as) (nQ E h0 sz Wd) rm.cells rm.slots (nA h0 sz)
theorem n_con {l : Launch} {E : tE} {y : MethodName} {bytes : ByteArray} {maxL : Nat} {rm : Room} {ci : Nat} {fs as : List Value} {Wd : (Nat → Nat) → va_W} (hpl : plainName y.cls = true) (hy1 : y.name = "<init>") (hn : ∀ h0 : Nat, (lg_sl (.ref h0 :: as)).length ≤ maxL)
    (h : ∀ (h0 : Nat) (p : Program) (e : Env) (s : State) (m : MethodId) (below : List Frame) (meth : Method) (c : Code) (A : Nat → Prop) (ls : Array Slot), A = nA h0 s.heap.size → nX E A p s m (.ref h0 :: as).toArray meth c y.cls bytes maxL → meth.sig.returnType = none ∧ meth.locks = false → nV E A s [(h0, .inr (ci, fs))] s.heap [] → lv_has ls maxL (lv_args 0 (.ref h0 :: as)) →
      W p l e rm s m (.ref h0 :: as).toArray below meth c s.heap [] 0 0 (MQ below (nQ E h0 s.heap.size Wd) (.ref h0 :: as).toArray s rm.cells rm.slots A) (F0 m 0 ls [])) : nCon l E y bytes maxL rm ci fs as Wd := by
  intro h0 sz
  refine Met.ofW (cc := bytes) (maxL := maxL) (ret := none) hpl rfl ?_
  intro p e s m args below meth c s₁ B hml hv
  obtain ⟨rfl, hsz, hP, hK⟩ := hv
  subst hsz
  have hts := atoms_spec (ws := .code y bytes maxL none :: tW) B.pre
  have hl := lv_entry (.ref h0 :: as) (n := maxL) (hn h0)
  rw [lg_entry_eq]
  refine h h0 p e s m below meth c (nA h0 s.heap.size) _ rfl ⟨B.exec, B.bytes, hml, findClass_of_methodNamed B.named, fun w hw => hts w (List.mem_cons_of_mem _ hw), (name_of_methodNamed B.named B.method).1.trans hy1, hK, fun q hq => Or.inr hq⟩ ⟨B.returns, B.notSynchronized⟩ ⟨hP, ⟨fun i j x y hi hj _ => ?_, fun k q hk => ?_⟩, va_S.rf⟩ hl
  · have hi : i < 1 := (List.getElem?_eq_some_iff.mp hi).1
    have hj : j < 1 := (List.getElem?_eq_some_iff.mp hj).1
    omega
  · cases k with
    | zero => exact Or.inl (congrArg Prod.fst (Option.some.inj hk)).symm
    | succ k => cases hk
section NROW2
variable {E : tE} {A : Nat → Prop} {p : Program} {l : Launch} {e : Env} {R : Room} {s : State} {m : MethodId} {args : Array Value} {below : List Frame} {meth : Method} {c : Code} {own : String} {cc : ByteArray} {nL : Nat} {H : Heap} {locs : List Loc} {cells slots : Nat} {Q : State → Prop} {pc : Nat} {ls : Array Slot} {rest : List Value} {ws : va_W}
theorem n_super {idx h0 : Nat} {lv : List (Nat × Value)} (hX : nX E A p s m args meth c own cc nL) (w1 : Cond.methodLink own idx objectInit ∈ tW) (w2 : Cond.instanceMethod objectInit ∈ tW) (w3 : Cond.code objectInit ⟨#[0xb1]⟩ 1 none ∈ tW) (d0 : decode cc 0 = .ok (.aload_n 0, 1)) (d1 : decode cc 1 = .ok (.invokespecial idx, 3)) (hl : lv_has ls nL lv) (hk : lv[0]? = some (0, .ref h0)) (hf : 1 ≤ R.frames) (hlo : 12 ≤ R.locals)
    (kk : W p l e R s m args below meth c H locs cells slots Q (F0 m 4 ls [])) : W p l e R s m args below meth c H locs cells slots Q (F0 m 0 ls []) := by
  obtain ⟨hx, hb, hml, hown, hts, hin, hK, hA⟩ := hX
  refine lv_aload_n hx hb d0 rfl (lv_at hl 0 hk) ?_
  refine W.objInit hx hb hown (hts _ w1) (hts _ w2) (hts _ w3) rfl (by rw [hml]; exact hl.1) rfl d1 hf ?_ kk
  exact hlo
theorem n_ret {h0 k n : Nat} {Wd : (Nat → Nat) → va_W} {as : List Value} (hX : nX E A p s m args meth c own cc nL) (hA : A = nA h0 s.heap.size) (hr : meth.sig.returnType = none ∧ meth.locks = false) (u : Nat → Nat) (hu : u 0 = h0) (hV : nV E A s (Wd u) H locs) (hc : cells ≤ k) (hs : slots ≤ n) (hdg : decode cc pc = .ok (.return_, 1)) : W p l e R s m args below meth c H locs cells slots (MQ below (nQ E h0 s.heap.size Wd) args s k n A) (F0 m pc ls []) := by
  subst hA
  obtain ⟨hx, hb, hml, hown, hts, hin, hK, -⟩ := hX
  obtain ⟨hP, hD, hS⟩ := hV
  refine W.widen (k := k) (n := n) hc hs ?_
  exact W.vret hx hb hr.1 (fun t ht hW => ⟨⟨u, rfl, hu, by rw [ht]; exact hP, hD⟩, hS.F ht⟩) hS.2.2 hdg hr.2
theorem nPc_blind {ci h0 sz : Nat} {fs as : List Value} : FrameBlind (nPc E ci h0 sz fs as) := fun a U g mk q => by
  obtain ⟨q0, q1, q2, q3⟩ := q
  exact ⟨q0, q1, q2, q3.same⟩
theorem n_good {w : Cond} (h : w ∈ tW) : GoodIn tW (w :: tW) := fun x hx => by
  rcases List.mem_cons.mp hx with h1 | h1
  · rw [h1]; exact tgood h
  · exact tgood h1
theorem n_after {q ci mc ms : Nat} {fs : List Value} {Wd : (Nat → Nat) → va_W} {a : Array Value} {st0 : List Value} (hX : nX E A p s m args meth c own cc nL) (hV : nV E A s (ws ++ [(q, .inr (ci, fs))]) H locs) (hr : va_Run p l e R s m args below meth c H locs cells slots mc ms (F0 m pc ls st0) rest (nQ E q H.size Wd a) (nA q H.size))
    (kk : ∀ (u : Nat → Nat) (H1 : Heap) (locs1 : List Loc), u 0 = q → nV E A s (ws ++ Wd u) H1 locs1 → W p l e R s m args below meth c H1 locs1 (cells + mc) (slots + ms) Q (F0 m (pc + 3) ls rest)) : W p l e R s m args below meth c H locs cells slots Q (F0 m pc ls st0) := by
  obtain ⟨hP, hD, hS⟩ := hV
  have hF : ∀ x, va_A [(q, .inr (ci, fs))] H.size x → A x := fun x hx => by
    rcases nA_A.mp hx with h | h
    · rw [h]; exact (va_D.iff.mp hD).2 (q, .inr (ci, fs)) (List.mem_append_right _ List.mem_cons_self)
    · exact hX.2.2.2.2.2.2.2 x (Nat.le_trans hS.1 h)
  refine va_callv hr hS (fun x _ h => hF x (nA_A.mpr h)) (fun x h => hF x (nA_A.mpr h)) (fun u t H1 locs1 ht hvm hu hB hz1 hk1 hS1 => ?_)
  obtain ⟨hP1, hD1⟩ := hB
  rw [ht] at hP1
  obtain ⟨g1, g2⟩ := nj hP hD (fun x h1 h2 => hk1 x h1 (fun h3 => h2 (nA_A.mpr h3))) hF hP1 (hD1.weaken (fun _ _ _ h => nA_A.mpr h))
  exact kk u H1 locs1 hu ⟨g1, g2, hS1⟩
theorem n_pre {q ci : Nat} {fs as : List Value} (hX : nX E A p s m args meth c own cc nL) (hV : nV E A s (ws ++ [(q, .inr (ci, fs))]) H locs) : ∀ U : State, U.heap = H → s.WarmedH U.vm → nPc E ci q H.size fs as (.ref q :: as).toArray U := fun U hU hW => by
  refine ⟨rfl, by rw [hU], ?_, hX.2.2.2.2.2.2.1.warm hW⟩
  rw [hU]
  exact va_P.iff.mpr fun x hx => va_P.iff.mp hV.1 x (List.mem_append_right _ hx)
theorem n_callI {y : MethodName} {bytes : ByteArray} {maxL n index q ci : Nat} {rm : Room} {fs as : List Value} {Wd : (Nat → Nat) → va_W} (hX : nX E A p s m args meth c own cc nL) (hC : nCon l E y bytes maxL rm ci fs as Wd) (w1 : Cond.methodLink own index y ∈ tW) (w2 : Cond.instanceMethod y ∈ tW) (w4 : Cond.initialized y.cls ∈ tW) (w5 : Cond.code y bytes maxL none ∈ tW) (hy1 : y.name = "<init>") (hds : y.cls ≠ "java/lang/invoke/MethodHandle" ∧ y.cls ≠ "java/lang/invoke/VarHandle" ∧ (parseMethodDescriptor y.desc).map (fun d => d.parameters.length) = some n) (hn : as.length = n) (hR : rm.frames + 1 ≤ R.frames ∧ 8 + (maxL + 11) + rm.locals ≤ R.locals) (hl : ls.size = nL) (hW : (rest.map fun v => v.category).sum ≤ 8) (hdg : decode cc pc = .ok (.invokespecial index, 3)) (hf : cells + rm.cells ≤ R.cells ∧ slots + rm.slots ≤ R.slots) (hV : nV E A s (ws ++ [(q, .inr (ci, fs))]) H locs)
    (kk : ∀ (u : Nat → Nat) (H1 : Heap) (locs1 : List Loc), u 0 = q → nV E A s (ws ++ Wd u) H1 locs1 → W p l e R s m args below meth c H1 locs1 (cells + rm.cells) (slots + rm.slots) Q (F0 m (pc + 3) ls rest)) : W p l e R s m args below meth c H locs cells slots Q (F0 m pc ls (as.reverse ++ .ref q :: rest)) := by
  have hX0 := hX
  obtain ⟨hx, hb, hml, hown, hts, hin, hK, hA⟩ := hX
  exact n_after hX0 hV (va_runI (As := as) (rest := rest) (b := q) (Ts := tW) ⟨hx, hb, hml, hown, hts⟩ (hC q H.size) (cwI n hts (n_good w5) rfl rfl rfl (hts _ w4) (hts _ w1) (hts _ w2) hy1 hds hR) ⟨nPc_blind, n_pre hX0 hV⟩ rfl hn hl rfl (lv_room hW) hdg hf) kk
theorem n_callN {y : MethodName} {bytes : ByteArray} {maxL n index q ci : Nat} {host : String} {rm : Room} {fs as : List Value} {Wd : (Nat → Nat) → va_W} (hX : nX E A p s m args meth c own cc nL) (hC : nCon l E y bytes maxL rm ci fs as Wd) (w1 : Cond.methodLinkNest own index y host ∈ tNest2) (w2 : Cond.instanceMethod y ∈ tW) (w4 : Cond.initialized y.cls ∈ tW) (w5 : Cond.code y bytes maxL none ∈ tW) (hy1 : y.name = "<init>") (hds : y.cls ≠ "java/lang/invoke/MethodHandle" ∧ y.cls ≠ "java/lang/invoke/VarHandle" ∧ (parseMethodDescriptor y.desc).map (fun d => d.parameters.length) = some n) (hn : as.length = n) (hR : rm.frames + 1 ≤ R.frames ∧ 8 + (maxL + 11) + rm.locals ≤ R.locals) (hl : ls.size = nL) (hW : (rest.map fun v => v.category).sum ≤ 8) (hdg : decode cc pc = .ok (.invokespecial index, 3)) (hf : cells + rm.cells ≤ R.cells ∧ slots + rm.slots ≤ R.slots) (hV : nV E A s (ws ++ [(q, .inr (ci, fs))]) H locs)
    (kk : ∀ (u : Nat → Nat) (H1 : Heap) (locs1 : List Loc), u 0 = q → nV E A s (ws ++ Wd u) H1 locs1 → W p l e R s m args below meth c H1 locs1 (cells + rm.cells) (slots + rm.slots) Q (F0 m (pc + 3) ls rest)) : W p l e R s m args below meth c H locs cells slots Q (F0 m pc ls (as.reverse ++ .ref q :: rest)) := by
  have hX0 := hX
  obtain ⟨hx, hb, hml, hown, hts, hin, hK, hA⟩ := hX
  exact n_after hX0 hV (va_runIN (As := as) (rest := rest) (b := q) (Ts := tW) (host := host) ⟨hx, hb, hml, hown, hts⟩ (hC q H.size) ⟨va_cnB n hts (n_good w5) rfl rfl rfl (hK.2.1 _ w1) (hts _ w4) hds hR, hy1, hts _ w2⟩ ⟨nPc_blind, n_pre hX0 hV⟩ rfl hn hl rfl (lv_room hW) hdg hf) kk
end NROW2
