/-! CONSTRUCTORS: contracts with any outcome -/
def tCo (E : tE) (G : tH) (L : List (Nat × Nat)) : va_W := L.map fun q => (E.2.2 q.1 q.2, tcell E G q.1 q.2)
theorem tCo_app {E : tE} {G : tH} {L L' : List (Nat × Nat)} : tCo E G (L ++ L') = tCo E G L ++ tCo E G L' := List.map_append ..
def nQz {S : Type} (E : tE) (h0 sz : Nat) (key : S → Nat) (Wd : S → va_W) : Array Value → State → Outcome → State → Prop := va_Qv (fun u : S => key u = h0) (fun u t => va_P E.1 vwCl (Wd u) t.heap ∧ va_D (nA h0 sz) (Wd u)) (nA h0 sz)
def nCoz {S : Type} (l : Launch) (E : tE) (y : MethodName) (bytes : ByteArray) (maxL : Nat) (rm : Room) (ci : Nat) (fs as : List Value) (key : S → Nat) (Wd : S → va_W) : Prop := ∀ h0 sz : Nat, Met l y (.code y bytes maxL none :: tW) rm (nPc E ci h0 sz fs as) (nQz E h0 sz key Wd) rm.cells rm.slots (nA h0 sz)
theorem n_conz {S : Type} {l : Launch} {E : tE} {y : MethodName} {bytes : ByteArray} {maxL : Nat} {rm : Room} {ci : Nat} {fs as : List Value} {key : S → Nat} {Wd : S → va_W} (hpl : plainName y.cls = true) (hy1 : y.name = "<init>") (hn : ∀ h0 : Nat, (lg_sl (.ref h0 :: as)).length ≤ maxL)
    (h : ∀ (h0 : Nat) (p : Program) (e : Env) (s : State) (m : MethodId) (below : List Frame) (meth : Method) (c : Code) (A : Nat → Prop) (ls : Array Slot), A = nA h0 s.heap.size → nX E A p s m (.ref h0 :: as).toArray meth c y.cls bytes maxL → meth.sig.returnType = none ∧ meth.locks = false → nV E A s [(h0, .inr (ci, fs))] s.heap [] → lv_has ls maxL (lv_args 0 (.ref h0 :: as)) →
      W p l e rm s m (.ref h0 :: as).toArray below meth c s.heap [] 0 0 (MQ below (nQz E h0 s.heap.size key Wd) (.ref h0 :: as).toArray s rm.cells rm.slots A) (F0 m 0 ls [])) : nCoz l E y bytes maxL rm ci fs as key Wd := by
  intro h0 sz
  refine Met.ofW (cc := bytes) (maxL := maxL) (ret := none) hpl rfl ?_
  intro p e s m args below meth c s₁ B hml hv
  obtain ⟨rfl, hsz, hP, hK⟩ := hv
  subst hsz
  have hts := atoms_spec (ws := .code y bytes maxL none :: tW) B.pre
  have hl := lv_entry (.ref h0 :: as) (n := maxL) (hn h0)
  rw [lg_entry_eq]
  refine h h0 p e s m below meth c (nA h0 s.heap.size) _ rfl ⟨B.exec, B.bytes, hml, findClass_of_methodNamed B.named, fun w hw => hts w (List.mem_cons_of_mem _ hw), (name_of_methodNamed B.named B.method).1.trans hy1, hK, fun q hq => Or.inr hq⟩ ⟨B.returns, B.notSynchronized⟩ ⟨hP, ⟨fun i j x y hi hj _ => ?_, fun k q hk => ?_⟩, va_S.rf⟩ hl
  · have hi : i < 1 := (List.getElem?_eq_some_iff.mp hi).1
    have hj : j < 1 := (List.getElem?_eq_some_iff.mp hj).1
    omega
  · cases k with
    | zero => exact Or.inl (congrArg Prod.fst (Option.some.inj hk)).symm
    | succ k => cases hk
section NROWZ
variable {E : tE} {A : Nat → Prop} {p : Program} {l : Launch} {e : Env} {R : Room} {s : State} {m : MethodId} {args : Array Value} {below : List Frame} {meth : Method} {c : Code} {own : String} {cc : ByteArray} {nL : Nat} {H : Heap} {locs : List Loc} {cells slots : Nat} {Q : State → Prop} {pc : Nat} {ls : Array Slot} {rest : List Value} {ws : va_W} {S : Type}
theorem n_retz {h0 k n : Nat} {key : S → Nat} {Wd : S → va_W} (hX : nX E A p s m args meth c own cc nL) (hA : A = nA h0 s.heap.size) (hr : meth.sig.returnType = none ∧ meth.locks = false) (u : S) (hu : key u = h0) (hV : nV E A s (Wd u) H locs) (hc : cells ≤ k) (hs : slots ≤ n) (hdg : decode cc pc = .ok (.return_, 1)) : W p l e R s m args below meth c H locs cells slots (MQ below (nQz E h0 s.heap.size key Wd) args s k n A) (F0 m pc ls []) := by
  subst hA
  obtain ⟨hx, hb, hml, hown, hts, hin, hK, -⟩ := hX
  obtain ⟨hP, hD, hS⟩ := hV
  refine W.widen (k := k) (n := n) hc hs ?_
  exact W.vret hx hb hr.1 (fun t ht hW => ⟨⟨u, rfl, hu, by rw [ht]; exact hP, hD⟩, hS.F ht⟩) hS.2.2 hdg hr.2
/-- the same, from a method that is no constructor -/
theorem n_callz {y : MethodName} {bytes : ByteArray} {maxL n index q ci : Nat} {rm : Room} {fs as : List Value} {key : S → Nat} {Wd : S → va_W} (hX : mX E p s m args c own cc nL) (hA : ∀ q : Nat, s.heap.size ≤ q → A q) (hC : nCoz l E y bytes maxL rm ci fs as key Wd) (w1 : Cond.methodLink own index y ∈ tW) (w2 : Cond.instanceMethod y ∈ tW) (w4 : Cond.initialized y.cls ∈ tW) (w5 : Cond.code y bytes maxL none ∈ tW) (hy1 : y.name = "<init>") (hds : y.cls ≠ "java/lang/invoke/MethodHandle" ∧ y.cls ≠ "java/lang/invoke/VarHandle" ∧ (parseMethodDescriptor y.desc).map (fun d => d.parameters.length) = some n) (hn : as.length = n) (hR : rm.frames + 1 ≤ R.frames ∧ 8 + (maxL + 11) + rm.locals ≤ R.locals) (hl : ls.size = nL) (hW : (rest.map fun v => v.category).sum ≤ 8) (hdg : decode cc pc = .ok (.invokespecial index, 3)) (hf : cells + rm.cells ≤ R.cells ∧ slots + rm.slots ≤ R.slots) (hV : nV E A s (ws ++ [(q, .inr (ci, fs))]) H locs)
    (kk : ∀ (u : S) (H1 : Heap) (locs1 : List Loc), key u = q → nV E A s (ws ++ Wd u) H1 locs1 → W p l e R s m args below meth c H1 locs1 (cells + rm.cells) (slots + rm.slots) Q (F0 m (pc + 3) ls rest)) : W p l e R s m args below meth c H locs cells slots Q (F0 m pc ls (as.reverse ++ .ref q :: rest)) := by
  obtain ⟨hx, hb, hml, hown, hts, hK⟩ := hX
  have hV0 := hV
  obtain ⟨hP, hD, hS⟩ := hV
  have hF : ∀ x, va_A [(q, .inr (ci, fs))] H.size x → A x := fun x hx => by
    rcases nA_A.mp hx with h | h
    · rw [h]; exact (va_D.iff.mp hD).2 (q, .inr (ci, fs)) (List.mem_append_right _ List.mem_cons_self)
    · exact hA x (Nat.le_trans hS.1 h)
  refine va_callv (va_runI (As := as) (rest := rest) (b := q) (Ts := tW) ⟨hx, hb, hml, hown, hts⟩ (hC q H.size) (cwI n hts (n_good w5) rfl rfl rfl (hts _ w4) (hts _ w1) (hts _ w2) hy1 hds hR) ⟨nPc_blind, fun U hU hW => ⟨rfl, by rw [hU], ?_, hK.warm hW⟩⟩ rfl hn hl rfl (lv_room hW) hdg hf) hS (fun x _ h => hF x (nA_A.mpr h)) (fun x h => hF x (nA_A.mpr h)) (fun u t H1 locs1 ht hvm hu hB hz1 hk1 hS1 => ?_)
  · rw [hU]
    exact va_P.iff.mpr fun x hx => va_P.iff.mp hP x (List.mem_append_right _ hx)
  obtain ⟨hP1, hD1⟩ := hB
  rw [ht] at hP1
  obtain ⟨g1, g2⟩ := nj hP hD (fun x h1 h2 => hk1 x h1 (fun h3 => h2 (nA_A.mpr h3))) hF hP1 (hD1.weaken (fun _ _ _ h => nA_A.mpr h))
  exact kk u H1 locs1 hu ⟨g1, g2, hS1⟩
theorem nV.swap {x z : Nat × va_E} {w : va_W} (h : nV E A s (x :: (w ++ [z])) H locs) : nV E A s (x :: z :: w) H locs := h.perm (List.Perm.cons _ (List.perm_append_singleton _ _))
end NROWZ
