/-! CALLS of the pure machine's methods out of a wider world -/
def lHK (E : tE) (A : Nat → Prop) (s : State) : Prop := vk_S 15 tslen tsbyt (E.2.2 20) (E.2.2 21) A s s.heap ∧ va_Z "java/lang/String" "COMPACT_STRINGS" "Z" (.int 1) A s s.heap ∧ va_Zq "jdk/internal/util/Preconditions" "SIOOBE_FORMATTER" "Ljava/util/function/BiFunction;" A s s.heap
def lX (E : tE) (A : Nat → Prop) (p : Program) (s : State) (m : MethodId) (args : Array Value) (c : Code) (own : String) (cc : ByteArray) (nL : Nat) : Prop := p.tables.exec = Jvm.exec ∧ c.code = cc ∧ c.maxLocals = nL ∧ s.vm.findClass own = some m.cls ∧ (∀ w ∈ tW, w.before args s = true) ∧ tKN E s ∧ lHK E A s ∧ tInj E
theorem tWd_fst {E : tE} {G : tH} : (tWd E G).map (·.1) = tpairs.map fun q => E.2.2 q.1 q.2 := by
  rw [tWd, List.map_map]
  rfl
theorem tAP_mem {E : tE} {G : tH} {a : Nat} : tAP E a ↔ ∃ x ∈ tWd E G, x.1 = a := by
  constructor
  · rintro ⟨q, hq, h⟩
    exact ⟨_, List.mem_map.mpr ⟨q, hq, rfl⟩, h.symm⟩
  · rintro ⟨x, hx, h⟩
    obtain ⟨q, hq, e⟩ := List.mem_map.mp hx
    exact ⟨q, hq, by rw [← h, ← e]⟩
theorem tInj_of {E : tE} {G : tH} {A : Nat → Prop} (h : va_D A (tWd E G)) : tInj E := fun i j x y hi hj he => h.1 i j (E.2.2 x.1 x.2, tcell E G x.1 x.2) (E.2.2 y.1 y.2, tcell E G y.1 y.2) (by rw [tWd, List.getElem?_map, hi]; rfl) (by rw [tWd, List.getElem?_map, hj]; rfl) he
section LCALL
variable {E : tE} {A : Nat → Prop} {p : Program} {l : Launch} {e : Env} {R : Room} {s : State} {m : MethodId} {args : Array Value} {below : List Frame} {meth : Method} {c : Code} {own : String} {cc : ByteArray} {nL : Nat} {H : Heap} {locs : List Loc} {cells slots : Nat} {Q : State → Prop} {pc : Nat} {ls : Array Slot} {rest : List Value} {wr : va_W} {G : tH} {r : tRes}
theorem nV.tA (hV : nV E A s (tWd E G ++ wr) H locs) : ∀ q, tAP E q → A q := fun q hq => by
  obtain ⟨x, hx, h⟩ := (tAP_mem (G := G)).mp hq
  rw [← h]
  exact (va_D.iff.mp hV.2.1).2 x (List.mem_append_left _ hx)
theorem l_pre {as : List tV} (hKN : tKN E s) (hHK : lHK E A s) (hV : nV E A s (tWd E G ++ wr) H locs) : ∀ U : State, U.heap = H → s.WarmedH U.vm → tPc E as G (as.map (tmv E)).toArray U := by
  intro U hU hW
  have hS := hV.2.2
  refine ⟨rfl, ?_, hKN.warm hW, ?_⟩
  · rw [hU]
    exact va_P.iff.mpr fun x hx => va_P.iff.mp hV.1 x (List.mem_append_left _ hx)
  · rw [hU]
    exact ⟨((hHK.1.kept hS.2.1).narrow hV.tA).moved hW.alike, ((hHK.2.1.kept hS.2.1).narrow hV.tA).moved hW.alike, ((hHK.2.2.kept hS.2.1).narrow hV.tA).moved hW.alike⟩
/-- the frame of such a call -/
theorem l_frame {H1 : Heap} {locs1 : List Loc} (hV : nV E A s (tWd E G ++ wr) H locs) (hP : va_P E.1 vwCl (tWd E r.2) H1) (hk : ∀ q : Nat, q < H.size → ¬ tAP E q → H1[q]? = H[q]?) (hS : va_S A s.heap H1 locs1) : nV E A s (tWd E r.2 ++ wr) H1 locs1 := by
  obtain ⟨d1, d2⟩ := va_D.iff.mp hV.2.1
  obtain ⟨d3, d4, d5⟩ := List.pairwise_append.mp d1
  have hm : ∀ x ∈ tWd E r.2, ∃ y ∈ tWd E G, y.1 = x.1 := fun x hx => (tAP_mem (G := G)).mp ((tAP_mem (G := r.2)).mpr ⟨x, hx, rfl⟩)
  refine ⟨va_P.iff.mpr fun x hx => ?_, va_D.iff.mpr ⟨List.pairwise_append.mpr ⟨?_, d4, fun x hx y hy => ?_⟩, fun x hx => ?_⟩, hS⟩
  · rcases List.mem_append.mp hx with h | h
    · exact va_P.iff.mp hP x h
    · have h1 := va_P.iff.mp hV.1 x (List.mem_append_right _ h)
      refine h1.kept (hk x.1 h1.lt fun h2 => ?_)
      obtain ⟨y, hy, e⟩ := (tAP_mem (G := G)).mp h2
      exact d5 y hy x h e
  · have h1 : ((tWd E G).map (·.1)).Pairwise (· ≠ ·) := List.pairwise_map.mpr d3
    rw [tWd_fst, ← tWd_fst (G := r.2)] at h1
    exact List.pairwise_map.mp h1
  · obtain ⟨z, hz, e⟩ := hm x hx
    rw [← e]
    exact d5 z hz y hy
  · rcases List.mem_append.mp hx with h | h
    · obtain ⟨z, hz, e⟩ := hm x h
      rw [← e]
      exact d2 z (List.mem_append_left _ hz)
    · exact d2 x (List.mem_append_right _ h)
theorem l_go {mc ms : Nat} {a : Array Value} {st0 : List Value} (hr : va_Run p l e R s m args below meth c H locs cells slots 0 0 (F0 m pc ls st0) rest (tQ E r a) (tAP E)) (hV : nV E A s (tWd E G ++ wr) H locs)
    (kk : ∀ (H1 : Heap) (locs1 : List Loc), tokR r → nV E A s (tWd E r.2 ++ wr) H1 locs1 → W p l e R s m args below meth c H1 locs1 cells slots Q (F0 m (pc + 3) ls ((r.1.map (tmv E)).toList ++ rest))) : W p l e R s m args below meth c H locs cells slots Q (F0 m pc ls st0) := by
  intro T hT X
  obtain ⟨v, st₀, t, T', L, h0, X', hL, e1, e2, ⟨hv, hrr, hb, hz, hk⟩, st⟩ := hr T hT X
  cases hv
  rw [h0] at hz hk
  have hS := hV.2.2
  obtain ⟨t2, a1, b1⟩ := kk T'.heap (locs ++ L) hrr (l_frame hV (by rw [e1]; exact hb) (fun q h1 h2 => by rw [e1]; exact hk q h1 h2)
    ⟨Nat.le_trans hS.1 (by rw [e1]; exact hz), fun q h1 h2 => by rw [e1, hk q (Nat.lt_of_lt_of_le h1 hS.1) (fun h3 => h2 (hV.tA q h3))]; exact hS.2.1 q h1 h2, fun q hq => by
      rcases List.mem_append.mp hq with h | h
      · exact hS.2.2 q h
      · exact hV.tA _ (hL q h)⟩) T' rfl X'
  exact ⟨t2, st t2 a1, b1⟩
theorem l_call {n index maxL d ci o : Nat} {y : MethodName} {bytes : ByteArray} {rt : Option FieldType} {C : String} {T : u_T} {N : Nat} {ty : Nat → FieldType} {as : List tV} (hX : lX E A p s m args c own cc nL) (hM : Met l y (.code y bytes maxL rt :: tW) (tRm d) (tPc E (vR ci o :: as) G) (tQ E r) 0 0 (tAP E)) (hcl : tCl ci C T N ty) (w1 : Cond.methodLink own index y ∈ tW) (w5 : Cond.code y bytes maxL rt ∈ tW) (w2 : Cond.instanceMethod y ∈ tW) (w3 : Cond.selects C y y ∈ tW) (w4 : Cond.initialized C ∈ tW) (hyc : y.cls = C) (hds : y.cls ≠ "java/lang/invoke/MethodHandle" ∧ y.cls ≠ "java/lang/invoke/VarHandle" ∧ (parseMethodDescriptor y.desc).map (fun d => d.parameters.length) = some n) (hn : as.length = n) (ho : o < tcnt ci) (hR : d + 1 ≤ R.frames ∧ 16 + (maxL + 11) + 64 * d ≤ R.locals) (hl : ls.size = nL) (hW : (rest.map fun v => v.category).sum ≤ 16) (hdg : decode cc pc = .ok (.invokevirtual index, 3)) (hf : cells ≤ R.cells ∧ slots ≤ R.slots) (hV : nV E A s (tWd E G ++ wr) H locs)
    (kk : ∀ (H1 : Heap) (locs1 : List Loc), tokR r → nV E A s (tWd E r.2 ++ wr) H1 locs1 → W p l e R s m args below meth c H1 locs1 cells slots Q (F0 m (pc + 3) ls ((r.1.map (tmv E)).toList ++ rest))) : W p l e R s m args below meth c H locs cells slots Q (F0 m pc ls ((as.map (tmv E)).reverse ++ .ref (E.2.2 ci o) :: rest)) := by
  obtain ⟨hx, hb, hml, hown, hts, hKN, hHK, hI⟩ := hX
  have hP : va_P E.1 vwCl (tWd E G) H := va_P.iff.mpr fun x hx => va_P.iff.mp hV.1 x (List.mem_append_left _ hx)
  obtain ⟨k0, hk0, hw0⟩ := tWd_get (E := E) (G := G) hcl.2.2.1 ho
  have hrecv : ∃ cellB : Cell, H[E.2.2 ci o]? = some cellB ∧ cellB.vm.isStatics = false ∧ s.vm.findClass C = some cellB.cls := va_recv (q := (C, T, N)) (ci := ci) (q0 := k0) hKN.1 hP hcl.1 (by rw [hw0, tcell, if_pos hcl.2.2.2.1])
  have hrun := trunV (p := p) (l := l) (e := e) (R := R) (below := below) (meth := meth) (locs := locs) (cells := cells) (slots := slots) (As := as.map (tmv E)) (rest := rest) (g := F0 m pc ls ((as.map (tmv E)).reverse ++ .ref (E.2.2 ci o) :: rest)) (b := E.2.2 ci o) (C := C) (index := index) (H := H) (Ts := tW) ⟨hx, hb, hml, hown, hts⟩ hM (cwV n hts (fun w hw => by
        simp only [wsV, List.mem_append, List.mem_cons, List.not_mem_nil, or_false] at hw
        rcases hw with (rfl | rfl | rfl | rfl) | rfl | hw
        · exact tgood w1
        · exact tgood w2
        · exact tgood w3
        · exact tgood w4
        · exact tgood w5
        · exact tgood hw) rfl rfl rfl ⟨hyc, hds⟩ ⟨hR.1, Nat.le_trans (by show 8 + (maxL + 11) + 64 * d ≤ 16 + (maxL + 11) + 64 * d; omega) hR.2⟩) hR.2 ⟨tPc_blind, hrecv, l_pre (as := vR ci o :: as) hKN hHK hV⟩ rfl (by rw [List.length_map]; exact hn) hl rfl (by show 2 * 0 + _ ≤ 16; omega) hdg hf
  exact l_go (mc := 0) (ms := 0) hrun hV kk
end LCALL
