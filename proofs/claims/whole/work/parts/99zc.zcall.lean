/-! THROWN: rests of the law, its contract -/
theorem w_1_0 : (Jvm.Cond.initialized "TaxFarmLaw") ∈ tW := tWm (tm1 (List.mem_of_getElem? (i := 0) rfl)) rfl
theorem w_5_216 : (Jvm.Cond.classLink "TaxFarmLaw" (13 : Nat) "java/util/NoSuchElementException") ∈ tW := tWm (tm5 (List.mem_of_getElem? (i := 216) rfl)) rfl
theorem w_5_217 : (Jvm.Cond.methodLink "TaxFarmLaw" (7 : Nat) ({ cls := "TaxFarm", name := "rests", desc := "(III)I" } : Jvm.MethodName)) ∈ tW := tWm (tm5 (List.mem_of_getElem? (i := 217) rfl)) rfl
theorem w_5_218 : (Jvm.Cond.instanceMethod ({ cls := "TaxFarm", name := "rests", desc := "(III)I" } : Jvm.MethodName)) ∈ tW := tWm (tm5 (List.mem_of_getElem? (i := 218) rfl)) rfl
theorem w_5_219 : (Jvm.Cond.selects "TaxFarm" ({ cls := "TaxFarm", name := "rests", desc := "(III)I" } : Jvm.MethodName) ({ cls := "TaxFarm", name := "rests", desc := "(III)I" } : Jvm.MethodName)) ∈ tW := tWm (tm5 (List.mem_of_getElem? (i := 219) rfl)) rfl
theorem w_5_220 : (Jvm.Cond.code ({ cls := "TaxFarm", name := "rests", desc := "(III)I" } : Jvm.MethodName) prog_1_method_33_code (6 : Nat) (Option.some Jvm.ClassFile.FieldType.int)) ∈ tW := tWm (tm5 (List.mem_of_getElem? (i := 220) rfl)) rfl
theorem Zq_isRef {C n d : String} {A : Nat → Prop} {U : State} (h : va_Zq C n d A U U.heap) : (Cond.isRef (.static C n d)).before #[] U = true := by
  rcases h with ⟨cf, kf, fi, f, a, cell, h1, h2, h3, h4, h5, h6, h7, h8⟩ | ⟨t, cf, kf, fi, f, a, cell, h1, h2, h3, h4, h5, h6, h7, h8⟩
  · simp [Cond.before, Cond.holds, Cond.value, Term.eval, State.fieldNamed?, h1, h2, h4, h5, h6, h7]
  · simp [Cond.before, Cond.holds, Cond.value, Term.eval, State.fieldNamed?, h1, h2, h4, h5, h6, h7]
theorem laysS_go {C n d : String} {s U : State} (h : (Cond.laysStatic C n d).before #[] s = true) (hvm : s.vm.Alike U.vm) (hh : ∀ q : Nat, q < s.heap.size → U.heap[q]? = s.heap[q]?) : (Cond.laysStatic C n d).before #[] U = true := by
  obtain ⟨c, k, i, f, a, cell, hc, hi, hst, ha, hcell, hs, hcls, hlt, hty⟩ := Cond.laysStatic_spec (Cond.laysStatic_setVm (vm' := U.vm) hvm h)
  have hcell : s.heap[a]? = some cell := hcell
  exact Cond.laysStatic_of (s := U) hc hi hst ha (by rw [hh a (Array.getElem?_eq_some_iff.mp hcell).1]; exact hcell) hs hcls hlt hty
theorem nTh.go {s U : State} (h : nTh s) (hini : (Cond.initialized Bundle.tN).before #[] s = true) (hW : s.WarmedH U.vm) (hh : ∀ q : Nat, q < s.heap.size → U.heap[q]? = s.heap[q]?) : nTh U := by
  obtain ⟨h1, h2, h3, h4⟩ := h
  refine ⟨laysS_go h1 hW.alike hh, laysS_go h2 hW.alike hh, Zq_isRef (A := fun _ => False) ?_, Zq_isRef (A := fun _ => False) ?_⟩
  · exact ((va_Zqof h1 hini h3 (fun _ _ q => q)).kept (fun a ha _ => hh a ha)).moved hW.alike
  · exact ((va_Zqof h2 hini h4 (fun _ _ q => q)).kept (fun a ha _ => hh a ha)).moved hW.alike
theorem nTh.same {s U : State} (h : nTh s) (hv : U.vm = s.vm) (hh : U.heap = s.heap) : nTh U := by
  obtain ⟨h1, h2, h3, h4⟩ := h
  have e : ∀ w : Cond, (w = nsU ∨ w = nsS ∨ w = .isRef (.static Bundle.tN "UNASSIGNED_STACK" Bundle.steD) ∨ w = .isRef (.static Bundle.tN "SUPPRESSED_SENTINEL" Bundle.listD)) → w.before #[] s = true → w.before #[] U = true := by
    rintro w (rfl | rfl | rfl | rfl) hw
    · simpa [Cond.before, Cond.holds, Cond.value, State.fieldFound?, hv, hh] using hw
    · simpa [Cond.before, Cond.holds, Cond.value, State.fieldFound?, hv, hh] using hw
    · simpa [Cond.before, Cond.holds, Cond.value, Term.eval, State.fieldNamed?, State.fieldFound?, hv, hh] using hw
    · simpa [Cond.before, Cond.holds, Cond.value, Term.eval, State.fieldNamed?, State.fieldFound?, hv, hh] using hw
  exact ⟨e _ (Or.inl rfl) h1, e _ (Or.inr (Or.inl rfl)) h2, e _ (Or.inr (Or.inr (Or.inl rfl))) h3, e _ (Or.inr (Or.inr (Or.inr rfl))) h4⟩
theorem rPc_blind {E : tE} {G : tH} {v w x : Int32} : FrameBlind (rPc E G v w x) := fun a U g mk q => by
  obtain ⟨q0, q1, q2, q3, q4, ⟨a1, q5⟩, ⟨a2, q6⟩⟩ := q
  obtain ⟨z0, z1, z2, z3⟩ := tPc_blind (E := E) (as := [vR 10 0, vI v, vI w, vI x]) (G := G) a U g mk ⟨q0, q1, q2, q3⟩
  exact ⟨q0, q1, z2, z3, q4.same rfl rfl, ⟨a1, q5.same rfl⟩, ⟨a2, q6.same rfl⟩⟩
theorem w_thr : Cond.initialized Bundle.tN ∈ tW := tWm (tm1 (List.mem_of_getElem? (i := 21) rfl)) rfl
section ZL
variable {E : tE} {A : Nat → Prop} {p : Program} {l : Launch} {e : Env} {R : Room} {s : State} {m : MethodId} {args : Array Value} {below : List Frame} {meth : Method} {c : Code} {Q : State → Prop} {ls : Array Slot} {G : tH} {v w x : Int32} {wr : va_W} {rest : List Value}
def zyX (E : tE) (G : tH) (p : Program) (l : Launch) (s : State) (m : MethodId) (args : Array Value) (c : Code) : Prop := p.tables.exec = Jvm.exec ∧ c.code = cL_rests ∧ c.maxLocals = 6 ∧ s.vm.findClass "TaxFarmLaw" = some m.cls ∧ (∀ w ∈ tW, w.before args s = true) ∧ tKN E s ∧ tHK E s s.heap ∧ tInj E ∧ nTh s ∧ (∃ a, vk_R "TaxFarm" 319 "no such worth or number" a s) ∧ (∃ a, vk_R "TaxFarm" 328 "no such bids at rest" a s) ∧ tokG G ∧ l.stackTraces = false ∧ c.exceptionTable.toList.map (fun h => (h.startPc, h.endPc, h.handlerPc, h.catchType)) = [(0, 12, 15, 13)]
set_option maxHeartbeats 4000000 in
theorem z_call (hX : zyX E G p l s m args c) (hV : nV E A s (tWd E G ++ wr) s.heap []) (hl : ls.size = 6) (hW : (rest.map fun v => v.category).sum ≤ 16) (hR : 7 ≤ R.frames ∧ 433 ≤ R.locals ∧ 1 ≤ R.cells ∧ 6 ≤ R.slots)
    (kr : ∀ r, rsR v w x = some r → ∀ (H1 : Heap) (locs1 : List Loc), nV E A s (tWd E G ++ wr) H1 locs1 → W p l e R s m args below meth c H1 locs1 0 0 Q (F0 m 10 ls (.int r :: rest)))
    (kt : rsR v w x = none → ∀ (H1 : Heap) (locs1 : List Loc) (a : Nat), nV E A s (tWd E G ++ wr) H1 locs1 → W p l e R s m args below meth c H1 locs1 1 6 Q (F0 m 15 ls [.ref a])) :
    W p l e R s m args below meth c s.heap [] 0 0 Q (F0 m 7 ls (.int x :: .int w :: .int v :: .ref (E.2.2 10 0) :: rest)) := by
  obtain ⟨hx, hb, hml, hown, hts, hKN, hHK, hI, hTh, ⟨sa1, hs1⟩, ⟨sa2, hs2⟩, hG, htr, htab⟩ := hX
  intro T hT X
  obtain ⟨mk, methM, hnamed, hmethM, hstM, habM⟩ := Cond.instanceMethod_spec (hts _ w_5_218)
  obtain ⟨methM', cM, hmethM', hcM, -, hlM, -, -, -, hsigM⟩ := Cond.code_spec hnamed (hts _ w_5_220)
  cases hmethM.symm.trans hmethM'
  have hP : va_P E.1 vwCl (tWd E G) s.heap := va_P.iff.mpr fun z hz => va_P.iff.mp hV.1 z (List.mem_append_left _ hz)
  obtain ⟨k0, hk0, hw0⟩ := tWd_get (E := E) (G := G) tc_10.2.2.1 (show 0 < tcnt 10 by decide)
  obtain ⟨cellB, hcB, hoB, hclB⟩ := va_recv (q := (RX10, TX10, 15)) (ci := 10) (q0 := k0) hKN.1 hP tc_10.1 (by rw [hw0, tcell, if_pos tc_10.2.2.2.1])
  obtain ⟨c2, r2, m2, q1, q2, q3, q4, kP, hkP, hkPi⟩ := Cond.selects_spec (hts _ w_5_219)
  cases hclB.symm.trans q1
  cases (State.methodFound?_of_named hnamed (by decide)).symm.trans q2
  cases hnamed.symm.trans q3
  have hselP : selectMethod e.platform s.vm cellB.cls mk = .method mk := by rw [Launch.admits_selectMethod X.admits]; exact q4
  have hdg : decode c.code 7 = .ok (.invokevirtual 7, 3) := by rw [hb]; decide +kernel
  have hlen : ([.int v, .int w, .int x] : List Value).length = methM.sig.parameters.length := by
    have h3 : (parseMethodDescriptor "(III)I").map (fun d => d.parameters.length) = some 3 := by decide +kernel
    rw [show parseMethodDescriptor "(III)I" = some methM.sig from hsigM] at h3
    exact (Option.some.inj h3).symm
  obtain ⟨vm₁, X₁, hstep₁⟩ := X.invokevirtual hx hown (hts _ w_5_217) hnamed hmethM hstM hkP hkPi (by decide) (a := E.2.2 10 0) (cell := cellB) (by rw [hT]; exact hcB) (fun z h => by rw [h] at hoB; cases hoB) hselP hmethM habM hkP hkPi (g := F0 m 7 ls (.int x :: .int w :: .int v :: .ref (E.2.2 10 0) :: rest)) rfl (argsL := [.int v, .int w, .int x]) (rest := rest) hlen rfl hdg
  have hwu : ∀ (a' : Array Value) (z : Cond), z ∈ tW → z.before a' (T.setVm vm₁) = true := fun a' z hz => word_at X₁.warmed (tgood hz).2 (hts z hz)
  have hn : (T.setVm vm₁).methodNamed? yX10_rests = some mk := X₁.named hnamed
  obtain ⟨methY, cY, hmY, hcY, -, hlY, -⟩ := Cond.code_spec hn (hwu #[] _ w_5_220)
  obtain ⟨kY, hkY, -⟩ := className_of_methodNamed hn
  have hinitY : kY.init = .initialized := Cond.initialized_spec (findClass_of_methodNamed hn) hkY (hwu #[] _ w_1_1)
  have happ : (headSpec (.code yX10_rests cX10_rests 6 (some .int) :: tW) (nR 6 1 6)).appliesLoose yX10_rests e.platform ((T.setVm vm₁).calling (F0 m 7 ls rest) mk #[.ref (E.2.2 10 0), .int v, .int w, .int x]) = true :=
    Spec.appliesLoose_calling (g := F0 m 7 ls rest) X₁.here hdg hn hkY hinitY
      (X₁.room_calling (g := F0 m 7 ls rest) (R' := nR 6 1 6) (hl.trans hml.symm) hmY hcY hR.1 (by rw [hlY]; show 2 * 0 + (rest.map fun v => v.category).sum + (6 + 11) + 64 * 6 ≤ R.locals; omega) (by show 0 + 1 ≤ R.cells; omega) (by show 0 + 6 ≤ R.slots; omega)) (atoms_intro fun z hz => by
        rcases List.mem_cons.mp hz with h | h
        · rw [h]; exact hwu _ _ w_5_220
        · exact hwu _ z h)
  obtain ⟨mid, hmid⟩ := X₁.here.above
  have hfr : ((T.setVm vm₁).setTop (F0 m 7 ls rest)).frames = (.java (F0 m 7 ls rest) :: mid) ++ below := by rw [State.frames_setTop' _ X₁.here.top, hmid]; rfl
  have hini0 : (Cond.initialized Bundle.tN).before #[] s = true := by
    have := hts _ w_thr
    exact this
  have hpc : rPc E G v w x #[.ref (E.2.2 10 0), .int v, .int w, .int x] (T.setVm vm₁) :=
    ⟨rfl, by show va_P E.1 vwCl (tWd E G) T.heap; rw [hT]; exact hP, hKN.warm X₁.warmed, by show tHK E (T.setVm vm₁) T.heap; rw [hT]; exact hHK.warm X₁.warmed.alike, hTh.go hini0 X₁.warmed (fun q _ => by show T.heap[q]? = _; rw [hT]), ⟨sa1, hs1.warm X₁.warmed⟩, ⟨sa2, hs2.warm X₁.warmed⟩⟩
  obtain ⟨o, s₂, hsteps, -, hend, hq⟩ := Steps.callFree (c_rests l htr hI hG v w x) p X.admits X.cas X.clock (acts := []) hfr happ (rPc_blind _ _ (F0 m 7 ls rest) mk hpc) trivial
  rw [State.frames_setTop' _ X₁.here.top, X₁.tail] at hend
  obtain ⟨hP2, hF2, hq⟩ := hq
  have hF2' : s.heap.size ≤ s₂.heap.size ∧ ∀ q : Nat, q < s.heap.size → ¬ tAP E q → s₂.heap[q]? = s.heap[q]? := by
    have h1 : (T.setVm vm₁).heap.size ≤ s₂.heap.size ∧ ∀ q : Nat, q < (T.setVm vm₁).heap.size → ¬ tAP E q → s₂.heap[q]? = (T.setVm vm₁).heap[q]? := hF2
    rw [show (T.setVm vm₁).heap = s.heap from hT] at h1
    exact h1
  have nv : ∀ L : List Loc, (∀ q ∈ L, tAP E q.base) → nV E A s (tWd E G ++ wr) s₂.heap ([] ++ L) := fun L hL =>
    l_frame (r := (none, G)) hV hP2 hF2'.2 ⟨hF2'.1, fun q h1 h2 => hF2'.2 q h1 (fun h3 => h2 (hV.tA q h3)), fun q hq => hV.tA _ (hL q hq)⟩
  cases hR2 : rsR v w x with
  | some r =>
    rw [hR2] at hq
    obtain ⟨rfl, L, ⟨-, hW2, hsame⟩, hL⟩ := hq
    obtain ⟨T', X', hWT, hsT, rfl⟩ := X₁.outOf (g := F0 m 7 ls rest) rfl hdg (a := #[.ref (E.2.2 10 0), .int v, .int w, .int x]) (mk := mk) hend hW2 hsame
    obtain ⟨t, a1, b1⟩ := kr r hR2 T'.heap ([] ++ L) (nv L hL) T' rfl X'
    exact ⟨t, hstep₁ _ (fun acts => by rw [doInvoke_state]; exact hsteps.trans a1), b1⟩
  | none =>
    rw [hR2] at hq
    obtain ⟨a, ce, L, rfl, hge, hce, hcls, hvm, hW2, hsame, hL⟩ := hq
    obtain ⟨T', X', hWT, hsT, rfl⟩ := X₁.outOfThrown (g := F0 m 7 ls rest) rfl (a := #[.ref (E.2.2 10 0), .int v, .int w, .int x]) (mk := mk) hend hW2 hsame
    have hcls' : s.vm.findClass nsN = some ce.cls := by
      have h1 : (T.setVm vm₁).vm.findClass nsN = some ce.cls := hcls
      rw [X₁.warmed.alike.findClass] at h1
      exact h1
    obtain ⟨vm₂, X₂, st₂⟩ := z_catch X' (g := F0 m 7 ls rest) rfl rfl (a := a) (ce := ce) hce hvm hcls' hown (hts _ w_5_216) htab
    obtain ⟨t, a1, b1⟩ := kt hR2 T'.heap ([] ++ L) a (nv L hL) (T'.setVm vm₂) rfl X₂
    exact ⟨t, hstep₁ _ (fun acts => by rw [doInvoke_state]; exact hsteps.trans (st₂ _ a1)), b1⟩
end ZL
