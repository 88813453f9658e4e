/-! THROWN: a NoSuchElementException made and thrown -/
abbrev nsN : String := "java/util/NoSuchElementException"
abbrev rtE : String := "java/lang/RuntimeException"
def nsW : List Cond := Bundle.throwableAtoms ++ Bundle.throwableSAtoms ++ Bundle.passSAtoms nsN rtE 13 prog_29_method_4_code ++ Bundle.chainSAtoms rtE ["java/lang/Exception"] ++
  [.methodLink "TaxFarm" 321 (Bundle.initS nsN), .instantiable nsN 6, .selects nsN Bundle.tFill0 Bundle.tFill0, .selects nsN Bundle.tFill Bundle.tFill,
   .lays nsN Bundle.tN "cause" "Ljava/lang/Throwable;", .lays nsN Bundle.tN "stackTrace" Bundle.steD, .lays nsN Bundle.tN "suppressedExceptions" Bundle.listD, .lays nsN Bundle.tN "detailMessage" "Ljava/lang/String;",
   .fieldLink Bundle.tN 198 Bundle.tN "backtrace" "Ljava/lang/Object;", .lays Bundle.tN Bundle.tN "backtrace" "Ljava/lang/Object;", .lays nsN Bundle.tN "backtrace" "Ljava/lang/Object;"]
abbrev nsU : Cond := .laysStatic Bundle.tN "UNASSIGNED_STACK" Bundle.steD
abbrev nsS : Cond := .laysStatic Bundle.tN "SUPPRESSED_SENTINEL" Bundle.listD
def nsD : List Cond := [nsU, nsS, .declares (Bundle.initS rtE), .declares (Bundle.initS "java/lang/Exception"), .declares (Bundle.initS Bundle.tN)]
set_option maxRecDepth 100000 in
theorem nsW_ok : nsW.all (fun w => (decide (w ∈ tables_1) && goodWord w) || decide (w ∈ nsD)) = true := by decide +kernel
theorem decl_of {args : Array Value} {s : State} {x : MethodName} {bytes : ByteArray} {n : Nat} {ret : Option FieldType} (h1 : (Cond.instanceMethod x).before args s = true) (h2 : (Cond.code x bytes n ret).before args s = true) : (Cond.declares x).before args s = true := by
  obtain ⟨m, meth, hn, hm, hst, -⟩ := Cond.instanceMethod_spec h1
  obtain ⟨meth', c, hm', -, -, -, -, -, -, hsig⟩ := Cond.code_spec hn h2
  cases hm.symm.trans hm'
  simp [Cond.before, Cond.holds, Cond.value, hn, hm, hst, hsig]
theorem w_6_25 : Cond.instanceMethod (Bundle.initS rtE) ∈ tW := tWm (tm6 (List.mem_of_getElem? (i := 25) rfl)) rfl
theorem w_6_26 : Cond.code (Bundle.initS rtE) prog_21_method_2_code 2 none ∈ tW := tWm (tm6 (List.mem_of_getElem? (i := 26) rfl)) rfl
theorem w_6_28 : Cond.instanceMethod (Bundle.initS "java/lang/Exception") ∈ tW := tWm (tm6 (List.mem_of_getElem? (i := 28) rfl)) rfl
theorem w_6_29 : Cond.code (Bundle.initS "java/lang/Exception") prog_18_method_2_code 2 none ∈ tW := tWm (tm6 (List.mem_of_getElem? (i := 29) rfl)) rfl
theorem w_6_31 : Cond.instanceMethod (Bundle.initS Bundle.tN) ∈ tW := tWm (tm6 (List.mem_of_getElem? (i := 31) rfl)) rfl
theorem w_6_32 : Cond.code (Bundle.initS Bundle.tN) prog_26_method_2_code 2 none ∈ tW := tWm (tm6 (List.mem_of_getElem? (i := 32) rfl)) rfl
/-- what the heap must hold where it is thrown -/
def nTh (U : State) : Prop := nsU.before #[] U = true ∧ nsS.before #[] U = true ∧ (Cond.isRef (.static Bundle.tN "UNASSIGNED_STACK" Bundle.steD)).before #[] U = true ∧ (Cond.isRef (.static Bundle.tN "SUPPRESSED_SENTINEL" Bundle.listD)).before #[] U = true
theorem nsW_at {args : Array Value} {s : State} (hts : ∀ w ∈ tW, w.before args s = true) (hT : nTh s) {w : Cond} (h : w ∈ nsW) : w.before args s = true := by
  have h1 := List.all_eq_true.mp nsW_ok w h
  simp only [Bool.or_eq_true, Bool.and_eq_true, decide_eq_true_eq] at h1
  rcases h1 with h1 | h1
  · exact hts w (tWm h1.1 h1.2)
  · simp only [nsD, List.mem_cons, List.not_mem_nil, or_false] at h1
    rcases h1 with h1 | h1 | h1 | h1 | h1
    · rw [h1]; exact hT.1
    · rw [h1]; exact hT.2.1
    · rw [h1]; exact decl_of (hts _ w_6_25) (hts _ w_6_26)
    · rw [h1]; exact decl_of (hts _ w_6_28) (hts _ w_6_29)
    · rw [h1]; exact decl_of (hts _ w_6_31) (hts _ w_6_32)
theorem ns_0 : decode prog_29_method_4_code 0 = .ok (.aload_n 0, 1) := by decide +kernel
theorem ns_1 : decode prog_29_method_4_code 1 = .ok (.aload_n 1, 1) := by decide +kernel
theorem ns_2 : decode prog_29_method_4_code 2 = .ok (.invokespecial 13, 3) := by decide +kernel
theorem ns_5 : decode prog_29_method_4_code 5 = .ok (.return_, 1) := by decide +kernel
section NSE
variable {p : Program} {l : Launch} {e : Env} {R : Room} {s : State} {m : MethodId} {args : Array Value} {below : List Frame} {meth : Method} {c : Code} {H : Heap} {locs : List Loc} {cells slots : Nat} {Q : State → Prop} {cc : ByteArray} {pc : Nat} {ls : Array Slot}
theorem W.imp {Q' : State → Prop} {g : JFrame} (h : ∀ t, Q t → Q' t) (k : W p l e R s m args below meth c H locs cells slots Q g) : W p l e R s m args below meth c H locs cells slots Q' g := by
  intro T hT X
  obtain ⟨t, a, b⟩ := k T hT X
  exact ⟨t, a, h t b⟩
set_option maxHeartbeats 4000000 in
theorem nse_end (hexec : p.tables.exec = Jvm.exec) (htr : l.stackTraces = false) (hb : c.code = cc) (hml : ls.size = c.maxLocals) (hown : s.vm.findClass "TaxFarm" = some m.cls) (hts : ∀ w ∈ tW, w.before args s = true) (hTh : nTh s) (hlocks : meth.locks = false) (hempty : c.exceptionTable.isEmpty = true)
    (hlocs : ∀ x ∈ locs, ∀ cell, s.heap[x.base]? = some cell → cell.vm.isStatics = false) {a : Addr} {cX : ClassId} {kX : Class} (hfoundX : s.vm.findClass nsN = some cX) (hkX : s.vm.classes[cX]? = some kX) (hcell : H[a]? = some (freshCell cX kX)) (hnew : s.heap.size ≤ a) {sa : Addr}
    (hd6 : decode cc pc = .ok (.invokespecial 321, 3)) (hd9 : decode cc (pc + 3) = .ok (.athrow, 1)) (hRf : 5 < R.frames) (hRl : 82 ≤ R.locals)
    (kk : ∀ (U : State) (ce : Cell), U.status = .running → Ended U below (.threw a) → s.WarmedH U.vm → s.sameButNew ({ U with vm := s.vm } : State) locs cells slots → U.heap[a]? = some ce → ce.cls = cX → ce.vm = .none → (∀ q : Nat, q ≠ a → U.heap[q]? = H[q]?) → U.heap.size = H.size → Q U) :
    W p l e R s m args below meth c H locs cells slots Q (F0 m pc ls [.ref sa, .ref a, .ref a]) := by
  intro T hT X
  subst hT
  have h : ∀ w, w ∈ nsW → w.before args s = true := fun w hw => nsW_at hts hTh hw
  have a' : ∀ w, w ∈ nsW → w.holds args s none s [] = true := fun w hw => h w hw
  have htr' : e.platform.stackTraces = false := by rw [X.admits.platform]; exact htr
  have howns : e.platform.frameOwnsMonitors = true := by rw [X.admits.platform]
  have hfin : e.platform.finalization = false := by rw [X.admits.platform]
  have hpl : e.platform.magicAccessors = ({} : Platform).magicAccessors := by rw [X.admits.platform]
  obtain ⟨T0, Z0, L, -, Y⟩ := ThrowableC.of_atoms (args := args) howns hfin hpl (fun x hx => h x (by simp [nsW, hx]))
  obtain ⟨Z, M, LZ, LM, hnZ⟩ := Init0T.ofS_atoms (args := args) hpl L Y (fun x hx => h x (by simp [nsW, hx]))
  obtain ⟨P1, L1, hP1m, hP1s⟩ := PassC.ofS_atoms (args := args) (s := s) hpl (X := nsN) (Y := rtE) (by decide +kernel) (by decide +kernel) ns_0 ns_1 ns_2 ns_5 (fun x hx => h x (by simp [nsW, hx]))
  obtain ⟨P2, Ps, hlen, L2, hL, hP2m, hl2, hlink⟩ := Bundle.chainS (args := args) hpl hnZ ["java/lang/Exception"] rtE (by decide +kernel) (by decide +kernel) (fun x hx => h x (by simp [nsW, hx]))
  have hlink1 : P1.sup = firstOf (Z.m T0.toThrowableT) ((P2 :: Ps).map (·.toPassT)) := Option.some.inj (hP1s.symm.trans hP2m)
  have hfound : s.vm.findClass nsN = some P1.m.cls := findClass_of_methodNamed hP1m
  cases Option.some.inj (hfoundX.symm.trans hfound)
  obtain ⟨c1, kX', hc1, hk, hord, -, -, hn6⟩ := Cond.instantiable_spec (a' (.instantiable nsN 6) (by simp [nsW]))
  cases Option.some.inj (hc1.symm.trans hfound)
  cases Option.some.inj (hkX.symm.trans hk)
  have hsel0 : selectMethod e.platform s.vm P1.m.cls T0.fill0 = .method T0.fill0 := by
    obtain ⟨c2, r2, m2, q1, q2, q3, q4, -⟩ := Cond.selects_spec (a' (.selects nsN Bundle.tFill0 Bundle.tFill0) (by simp [nsW]))
    cases Option.some.inj (q1.symm.trans hfound)
    cases Option.some.inj (q2.symm.trans (State.methodFound?_of_named Y.fill0 (by decide)))
    cases Option.some.inj (q3.symm.trans Y.fill0)
    rw [Launch.admits_selectMethod X.admits]; exact q4
  have hselF : selectMethod e.platform s.vm P1.m.cls T0.fill = .method T0.fill := by
    obtain ⟨c2, r2, m2, q1, q2, q3, q4, -⟩ := Cond.selects_spec (a' (.selects nsN Bundle.tFill Bundle.tFill) (by simp [nsW]))
    cases Option.some.inj (q1.symm.trans hfound)
    cases Option.some.inj (q2.symm.trans (State.methodFound?_of_named Y.fill (by decide)))
    cases Option.some.inj (q3.symm.trans Y.fill)
    rw [Launch.admits_selectMethod X.admits]; exact q4
  obtain ⟨cellS0, hcS0, hiss⟩ := Y.statics
  obtain ⟨u0, hu0⟩ := Cond.staticRefV Y.unassigned L.unassignedStatic L.statics hcS0 hiss hTh.2.2.1
  obtain ⟨sen, hsen⟩ := Cond.staticRefV Y.sentinel L.sentinelStatic L.statics hcS0 hiss hTh.2.2.2
  obtain ⟨ci198, i198, fB, hk198, hg198, ha198, hsB, -, hnB, htB, hffB⟩ := Cond.ownField (t := .object "java/lang/Object") Y.found L.cls (by decide +kernel) (a' (.fieldLink Bundle.tN 198 Bundle.tN "backtrace" "Ljava/lang/Object;") (by simp [nsW])) (a' (.lays Bundle.tN Bundle.tN "backtrace" "Ljava/lang/Object;") (by simp [nsW])) e.platform hpl
  obtain ⟨cellS, hcS', heS, -, hkeep⟩ := X.same.2.2.2.2.2 T0.aS cellS0 hcS0
  have hcellS : T.heap[T0.aS]? = some cellS := hcS'
  have hout' : ∀ i, (⟨T0.aS, i⟩ : Loc) ∉ locs := fun i hmem => by
    have := hlocs _ hmem cellS0 hcS0
    rw [hiss] at this; cases this
  have hknownS : cellS.vm ≠ .unknown := by
    rw [heS]; intro hu
    rw [show cellS0.vm = .unknown from hu] at hiss
    cases hiss
  have hneS : T0.aS ≠ a := Nat.ne_of_lt (Nat.lt_of_lt_of_le (Array.getElem?_eq_some_iff.mp hcS0).1 hnew)
  obtain ⟨iM, hffM⟩ := Y.msg
  obtain ⟨tyC, dC, hdC, hdnC⟩ := Cond.laysAt hfound hk Y.cause (a' (.lays nsN Bundle.tN "cause" "Ljava/lang/Throwable;") (by simp [nsW]))
  obtain ⟨tyS, dS, hdS, hdnS⟩ := Cond.laysAt hfound hk Y.stack (a' (.lays nsN Bundle.tN "stackTrace" Bundle.steD) (by simp [nsW]))
  obtain ⟨tyP, dP, hdP, hdnP⟩ := Cond.laysAt hfound hk Y.supp (a' (.lays nsN Bundle.tN "suppressedExceptions" Bundle.listD) (by simp [nsW]))
  obtain ⟨tyM, dM, hdM, hdnM⟩ := Cond.laysAt hfound hk hffM (a' (.lays nsN Bundle.tN "detailMessage" "Ljava/lang/String;") (by simp [nsW]))
  obtain ⟨tyB, dB, hdB, hdnB⟩ := Cond.laysAt hfound hk hffB (a' (.lays nsN Bundle.tN "backtrace" "Ljava/lang/Object;") (by simp [nsW]))
  have bC := Cond.laysApart hdB hdC hdnB hdnC (by rw [hnB, Y.causeName]; decide)
  have bS := Cond.laysApart hdB hdS hdnB hdnS (by rw [hnB, Y.stackName]; decide)
  have bP := Cond.laysApart hdB hdP hdnB hdnP (by rw [hnB, Y.suppName]; decide)
  have hskip : SkipFacts T0 e.platform s (fun u => u) u0 ((preparedCellV T0.toThrowableT (freshCell P1.m.cls kX) a u0 sen).withEntry T.cur) :=
    ⟨{ ci198 := ci198, i198 := i198, fBack := fB }, ⟨hk198, hg198, ha198, hsB⟩, by
      have := fresh_default (c := P1.m.cls) tyB
      rw [htB] at this
      simpa [preparedCellV, Cell.setSlot, Cell.withEntry, Array.getElem?_setIfInBounds, bC, bS, bP, bC.symm, bS.symm, bP.symm, defaultValue] using this, fun _ _ => rfl⟩
  obtain ⟨tm, methC, cdC, kC, vm₁, hnC, -, -, -, -, -, -, -, hW₁, st1⟩ := Steps.initColdS (tb := p.tables) (e := e) (below := below) (s := s) (U := T) X.here hexec X.warmed hpl hown (t := Bundle.initS nsN) rfl rfl (by decide +kernel)
    (a' (.methodLink "TaxFarm" 321 (Bundle.initS nsN)) (by simp [nsW])) (h (.instanceMethod (Bundle.initS nsN)) (by simp [nsW, Bundle.passSAtoms])) (bytes := prog_29_method_4_code) (maxL := 2) (h (.code (Bundle.initS nsN) prog_29_method_4_code 2 none) (by simp [nsW, Bundle.passSAtoms]))
    (f := F0 m pc ls [.ref sa, .ref a, .ref a]) rfl (a := a) (msg := .ref sa) (rest := [.ref a]) rfl (by rw [hb]; exact hd6)
  cases Option.some.inj (hnC.symm.trans hP1m)
  have X₁ := X.noted hW₁
  obtain ⟨vm₂, X₂, st2⟩ := X₁.ctorMessageOffV hexec (g := F0 m pc ls [.ref a]) rfl hml T0 L Z LZ M LM (P1 :: P2 :: Ps)
    (fun P hP => by
      rcases List.mem_cons.mp hP with rfl | hP
      · exact L1
      · rcases List.mem_cons.mp hP with rfl | hP
        · exact L2
        · exact hL P hP) ⟨hlink1, hl2, hlink⟩ (u0 := u0) (sen := sen) (self := a) (msg := .ref sa) rfl (cell := freshCell P1.m.cls kX) (cellS := cellS)
    hcell (fun _ => by simp) (by simp) rfl rfl hsel0 hselF hcellS hneS hknownS (by rw [hkeep _ (hout' _)]; exact hu0) (by rw [hkeep _ (hout' _)]; exact hsen)
    (Takes.of_laid hk hord tyC (by rw [Y.causeType]; rfl)) (Takes.of_laid hk hord tyS (by rw [Y.stackType]; exact fits_refV_array _ u0)) (Takes.of_laid hk hord tyP (by rw [Y.suppType]; exact fits_refV_object _ sen))
    (Takes.of_laid hk hord tyM (by rw [Y.msgType]; exact fits_refV_object _ ⟨.ref sa, rfl⟩)) Y.objLocals hskip htr' [] (by rw [hb]; exact hd6)
    (by simp only [List.length_cons, hlen]; exact hRf) (by simp only [List.length_cons, hlen]; exact hRl)
  have hlt : a < ((T.setVm vm₁).setVm vm₂).heap.size := (Array.getElem?_eq_some_iff.mp hcell).1
  have hU := heapAt_setCell_self (s := (T.setVm vm₁).setVm vm₂) (plainBareV T0.toThrowableT (freshCell P1.m.cls kX) a u0 sen (.ref sa)) hlt
  obtain ⟨hwalk, hrun, hended, hWU, hsame⟩ := X₂.athrowLeaves hexec (g := F0 m (pc + 3) ls [.ref a]) rfl rfl rfl (covers_of_empty hempty _) (a := a) (rest := []) rfl (by rw [hb]; exact hd9) hlocks
  refine ⟨_, st1 _ (fun acts => ?_), kk _ _ hrun hended hWU (hsame.weaken (fun y hy hlt' => ?_) (Nat.le_refl _) (Nat.le_refl _)) hU rfl rfl (fun q hq => ?_) ?_⟩
  · rw [doInvoke_state]
    exact st2 _ hwalk
  · rcases List.mem_append.mp hy with h1 | h1
    · exact h1
    · exfalso
      have hb : y.base = a := by
        simp only [List.mem_cons, List.not_mem_nil, or_false] at h1
        rcases h1 with rfl | rfl | rfl | rfl | rfl <;> rfl
      rw [hb] at hlt'
      exact Nat.not_lt.mpr hnew hlt'
  · show ((T.heap).setIfInBounds a _)[q]? = T.heap[q]?
    rw [Array.getElem?_setIfInBounds_ne (Ne.symm hq)]
  · show ((T.heap).setIfInBounds a _).size = T.heap.size
    rw [Array.size_setIfInBounds]
end NSE
