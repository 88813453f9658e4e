/-! THROWN: the contract of the law's rests, and its call -/
theorem w_5_213 : (Jvm.Cond.methodLink "TaxFarmLaw" (145 : Nat) ({ cls := "TaxFarmLaw", name := "rests", desc := "(LTaxFarm;III[J)I" } : Jvm.MethodName)) ∈ tW := tWm (tm5 (List.mem_of_getElem? (i := 213) rfl)) rfl
theorem w_5_214 : (Jvm.Cond.static ({ cls := "TaxFarmLaw", name := "rests", desc := "(LTaxFarm;III[J)I" } : Jvm.MethodName)) ∈ tW := tWm (tm5 (List.mem_of_getElem? (i := 214) rfl)) rfl
abbrev lgC (E : tE) (f : Nat → Int64) : va_E := .inl (E.2.1 1, 1, .inr (.inl f))
def zk (o : Option Int32) : Int32 := match o with
  | some _ => 0
  | none => 1
def zf (f : Nat → Int64) (o : Option Int32) : Nat → Int64 := match o with
  | some r => vp_updL f 0 r.toInt64
  | none => f
abbrev lHh : List (Nat × Nat × Nat × Nat) := [(0, 12, 15, 13)]
theorem w_lr : Cond.codeWith yL_rests cL_rests 6 (some .int) lHh ∈ tW := (tWm (tm5 (List.mem_of_getElem? (i := 215) rfl)) rfl)
def qA (E : tE) (out : Nat) : Nat → Prop := fun q => tAP E q ∨ q = out
def qPc (E : tE) (G : tH) (v w x : Int32) (out : Nat) (f : Nat → Int64) : Array Value → State → Prop := va_Pc [.ref (E.2.2 10 0), .int v, .int w, .int x, .ref out] fun U => va_P E.1 vwCl (tWd E G ++ [(out, lgC E f)]) U.heap ∧ va_D (qA E out) (tWd E G ++ [(out, lgC E f)]) ∧ tKN E U ∧ tHK E U U.heap ∧ nTh U ∧ (∃ a, vk_R "TaxFarm" 319 "no such worth or number" a U) ∧ ∃ a, vk_R "TaxFarm" 328 "no such bids at rest" a U
def qQ (E : tE) (G : tH) (v w x : Int32) (out : Nat) (f : Nat → Int64) : Array Value → State → Outcome → State → Prop := fun _ st oc t => oc = .returned (some (.int (zk (rsR v w x)))) ∧ va_P E.1 vwCl (tWd E G ++ [(out, lgC E (zf f (rsR v w x)))]) t.heap ∧ va_F (qA E out) st t
theorem qPc_blind {E : tE} {G : tH} {v w x : Int32} {out : Nat} {f : Nat → Int64} : FrameBlind (qPc E G v w x out f) := fun a U g mk q => by
  obtain ⟨q0, q1, q2, q3, q4, q5, ⟨a1, q6⟩, ⟨a2, q7⟩⟩ := q
  have z2 : tKN E (U.calling g mk a) := by
    refine ⟨va_K.moved (u := U) (U := U.calling g mk a) (Vm.Alike.refl U.vm) q3.1, fun w hw => ?_, fun z hz => (q3.2.2 z hz).same rfl⟩
    have h1 := q3.2.1 w hw
    simp only [tNest, List.mem_cons, List.not_mem_nil, or_false] at hw
    rcases hw with rfl | rfl | rfl | rfl
    · exact h1.same rfl rfl
    · exact h1.same rfl rfl
    · exact h1.same rfl rfl
    · exact h1.same rfl rfl
  have z3 : tHK E (U.calling g mk a) U.heap := tHK.warm (s := U) (U := U.calling g mk a) (Vm.Alike.refl U.vm) q4
  exact ⟨q0, q1, q2, z2, z3, q5.same rfl rfl, ⟨a1, q6.same rfl⟩, ⟨a2, q7.same rfl⟩⟩
set_option maxHeartbeats 4000000 in
theorem lr_met (l : Launch) (htr : l.stackTraces = false) {E : tE} (hI : tInj E) {G : tH} (hG : tokG G) (v w x : Int32) (out : Nat) (f : Nat → Int64) : Met l yL_rests (.codeWith yL_rests cL_rests 6 (some .int) lHh :: tW) (nR 7 1 6) (qPc E G v w x out f) (qQ E G v w x out f) 1 6 (qA E out) := by
  refine va_MetW (hh := lHh) (cc := cL_rests) (maxL := 6) (ret := some .int) (by decide +kernel) rfl ?_
  intro p e s m args below meth c s₁ B hml hv
  obtain ⟨rfl, hP, hD, hKN, hHK, hTh, hs1, hs2⟩ := hv
  have hts := atoms_spec (ws := .codeWith yL_rests cL_rests 6 (some .int) lHh :: tW) B.pre
  have htab : c.exceptionTable.toList.map (fun h => (h.startPc, h.endPc, h.handlerPc, h.catchType)) = lHh := by
    obtain ⟨m9, meth9, c9, hn9, hm9, hc9, -, -, ht9, -⟩ := Cond.codeWith_spec (hts _ List.mem_cons_self)
    cases B.named.symm.trans hn9
    cases B.method.symm.trans hm9
    cases (Stand.of_body B).code.symm.trans hc9
    exact ht9
  have hx := B.exec
  have hb := B.bytes
  have hret := B.returns
  have hX : zyX E G p l s m #[.ref (E.2.2 10 0), .int v, .int w, .int x, .ref out] c := ⟨hx, hb, hml, findClass_of_methodNamed B.named, fun w hw => hts w (List.mem_cons_of_mem _ hw), hKN, hHK, hI, hTh, hs1, hs2, hG, htr, htab⟩
  have hV : nV E (qA E out) s (tWd E G ++ [(out, lgC E f)]) s.heap [] := ⟨hP, hD, va_S.rf⟩
  have hl := lv_entry [.ref (E.2.2 10 0), .int v, .int w, .int x, .ref out] (n := 6) (Nat.le_of_ble_eq_true rfl)
  rw [lg_entry_eq]
  refine (?_ : ∀ ls : Array Slot, lv_has ls 6 [(0, .ref (E.2.2 10 0)), (1, .int v), (2, .int w), (3, .int x), (4, .ref out)] → W p l e (nR 7 1 6) s m [.ref (E.2.2 10 0), .int v, .int w, .int x, .ref out].toArray below meth c s.heap [] 0 0 (MQ below (qQ E G v w x out f) [.ref (E.2.2 10 0), .int v, .int w, .int x, .ref out].toArray s 1 6 (qA E out)) (F0 m 0 ls [])) _ hl
  intro ls hl
  refine lv_aload hx hb (by decide +kernel : decode cL_rests 0 = .ok (.aload 4, 2)) (lv_at hl 4 rfl) ?_
  refine lv_iconst (v := 0) hx hb (by decide +kernel : decode cL_rests 2 = .ok (.iconst 0, 1)) (by decide) ?_
  refine lv_aload_n hx hb (by decide +kernel : decode cL_rests 3 = .ok (.aload_n 0, 1)) rfl (lv_at hl 0 rfl) ?_
  refine lv_iload_n hx hb (by decide +kernel : decode cL_rests 4 = .ok (.iload_n 1, 1)) rfl (lv_at hl 1 rfl) ?_
  refine lv_iload_n hx hb (by decide +kernel : decode cL_rests 5 = .ok (.iload_n 2, 1)) rfl (lv_at hl 2 rfl) ?_
  refine lv_iload_n hx hb (by decide +kernel : decode cL_rests 6 = .ok (.iload_n 3, 1)) rfl (lv_at hl 3 rfl) ?_
  refine z_call hX hV hl.1 (rest := [.int 0, .ref out]) (Nat.le_of_ble_eq_true rfl) ⟨Nat.le_of_ble_eq_true rfl, Nat.le_of_ble_eq_true rfl, Nat.le_of_ble_eq_true rfl, Nat.le_of_ble_eq_true rfl⟩ (fun r hr H locs hV => ?_) (fun hr H locs a hV => ?_)
  · refine lv_i2l (v := r.toInt64) hx hb (by decide +kernel : decode cL_rests 10 = .ok (.i2l, 1)) rfl ?_
    have hV := hV.perm List.perm_append_comm
    refine va_last hx hb hKN.1 hV.1 hV.2.1 hV.2.2 0 1 (cA := E.2.1 1) (n := 1) (f := f) rfl rfl (tin_vp (by decide +kernel)) (by decide +kernel : decode cL_rests 11 = .ok (.lastore, 1)) (fun H locs a1 a2 a3 => ?_)
    have hV : nV E (qA E out) s ([(out, lgC E (vp_updL f 0 r.toInt64))] ++ tWd E G) H locs := ⟨a1, a2, a3⟩
    have hV := hV.perm List.perm_append_comm
    refine lv_goto (tgt := 19) hx hb (by decide +kernel : decode cL_rests 12 = .ok (.goto 7, 3)) (by decide) ?_
    refine lv_iconst (v := 0) hx hb (by decide +kernel : decode cL_rests 19 = .ok (.iconst 0, 1)) (by decide) ?_
    refine W.widen (k := 1) (n := 6) (Nat.zero_le _) (Nat.zero_le _) ?_
    refine W.iret hx hb hret (fun t ht hW => ⟨?_, ?_, hV.2.2.F ht⟩) hV.2.2.2.2 (by decide +kernel : decode cL_rests 20 = .ok (.ireturn, 1))
    · rw [hr]; rfl
    · rw [hr, ht]; exact hV.1
  · refine lv_astore (lv' := [(5, .ref a), (0, .ref (E.2.2 10 0)), (1, .int v), (2, .int w), (3, .int x), (4, .ref out)]) hx hb (by decide +kernel : decode cL_rests 15 = .ok (.astore 5, 2)) hl (by decide) rfl (fun ls hl => ?_)
    refine lv_iconst (v := 1) hx hb (by decide +kernel : decode cL_rests 17 = .ok (.iconst 1, 1)) (by decide) ?_
    refine W.iret hx hb hret (fun t ht hW => ⟨?_, ?_, hV.2.2.F ht⟩) hV.2.2.2.2 (by decide +kernel : decode cL_rests 18 = .ok (.ireturn, 1))
    · rw [hr]; rfl
    · rw [hr, ht]; exact hV.1
section LRC
variable {E : tE} {A : Nat → Prop} {p : Program} {l : Launch} {e : Env} {R : Room} {s : State} {m : MethodId} {args : Array Value} {below : List Frame} {meth : Method} {c : Code} {cc : ByteArray} {nL : Nat} {H : Heap} {locs : List Loc} {cells slots : Nat} {Q : State → Prop} {pc : Nat} {ls : Array Slot} {rest : List Value} {G : tH} {v w x : Int32} {out : Nat} {f : Nat → Int64}
theorem l_rests (hX : lX E A p s m args c "TaxFarmLaw" cc nL) (htr : l.stackTraces = false) (hG : tokG G) (hTh : nTh s) (hs1 : ∃ a, vk_R "TaxFarm" 319 "no such worth or number" a s) (hs2 : ∃ a, vk_R "TaxFarm" 328 "no such bids at rest" a s) (hAl : ∀ q : Nat, q < s.heap.size → ¬ A q) (hR : 8 ≤ R.frames ∧ 500 ≤ R.locals) (hl : ls.size = nL) (hW : (rest.map fun v => v.category).sum ≤ 16) (hdg : decode cc pc = .ok (.invokestatic 145, 3)) (hf : cells + 1 ≤ R.cells ∧ slots + 6 ≤ R.slots) (hV : nV E A s (tWd E G ++ [(out, lgC E f)]) H locs)
    (kk : ∀ (H1 : Heap) (locs1 : List Loc), nV E A s (tWd E G ++ [(out, lgC E (zf f (rsR v w x)))]) H1 locs1 → W p l e R s m args below meth c H1 locs1 (cells + 1) (slots + 6) Q (F0 m (pc + 3) ls (.int (zk (rsR v w x)) :: rest))) : W p l e R s m args below meth c H locs cells slots Q (F0 m pc ls (.ref out :: .int x :: .int w :: .int v :: .ref (E.2.2 10 0) :: rest)) := by
  obtain ⟨hx, hb, hml, hown, hts, hKN, hHK, hI⟩ := hX
  obtain ⟨sa1, hs1⟩ := hs1
  obtain ⟨sa2, hs2⟩ := hs2
  subst hb
  have hS := hV.2.2
  intro T hT X
  have hK : Back l R p e below s args yL_rests 3 16 (PreOf R 1 6 (qPc E G v w x out f)) (PostOf (qQ E G v w x out f) 1 6 (qA E out)) := va_backW (hh := lHh) (bytes := cL_rests) (maxL := 6) (ret := some .int) (lr_met l htr hI hG v w x out f) qPc_blind rfl rfl hR.1 (by show 16 + (6 + 11) + 64 * 7 ≤ R.locals; omega) (fun z hz a' U hU => by
      rcases List.mem_cons.mp hz with h | h
      · rw [h]; exact word_at hU (tgood w_lr).2 (hts _ w_lr)
      · exact word_at hU (tgood h).2 (hts _ h)) List.mem_cons_self (fun a' U hU => word_at hU (tgood w_1_0).2 (hts _ w_1_0))
  obtain ⟨mk, methM, cM, hnamed, hmethM, hcM, -, -, -, -, -, hsigM⟩ := Cond.codeWith_spec (hts _ w_lr)
  have hstatic : methM.isStatic = true := Cond.static_spec hnamed hmethM (hts _ w_5_214)
  obtain ⟨kP, hkP, -⟩ := className_of_methodNamed hnamed
  have hinitP : kP.init = .initialized := Cond.initialized_spec (findClass_of_methodNamed hnamed) hkP (hts _ w_1_0)
  have hlen : ([.ref (E.2.2 10 0), .int v, .int w, .int x, .ref out] : List Value).length = methM.sig.parameters.length := by
    have h3 : (parseMethodDescriptor "(LTaxFarm;III[J)I").map (fun d => d.parameters.length) = some 5 := by decide +kernel
    rw [show parseMethodDescriptor "(LTaxFarm;III[J)I" = some methM.sig from hsigM] at h3
    exact (Option.some.inj h3).symm
  obtain ⟨vm₁, X₁, hstep₁⟩ := X.invokestatic hx hown (hts _ w_5_213) hnamed hmethM hstatic hkP hinitP (by decide) (g := F0 m pc ls (.ref out :: .int x :: .int w :: .int v :: .ref (E.2.2 10 0) :: rest)) rfl (argsL := [.ref (E.2.2 10 0), .int v, .int w, .int x, .ref out]) (rest := rest) hlen rfl hdg
  have hini0 : (Cond.initialized Bundle.tN).before #[] s = true := by
    have := hts _ w_thr
    exact this
  have hold : ∀ q : Nat, q < s.heap.size → H[q]? = s.heap[q]? := fun q hq => hS.2.1 q hq (hAl q hq)
  have hPt : va_P E.1 vwCl (tWd E G) H := va_P.iff.mpr fun z hz => va_P.iff.mp hV.1 z (List.mem_append_left _ hz)
  obtain ⟨d1, d2⟩ := va_D.iff.mp hV.2.1
  have hDq : va_D (qA E out) (tWd E G ++ [(out, lgC E f)]) := va_D.iff.mpr ⟨d1, fun z hz => by
    rcases List.mem_append.mp hz with h | h
    · exact Or.inl ((tAP_mem (G := G)).mpr ⟨z, h, rfl⟩)
    · rw [List.mem_singleton.mp h]; exact Or.inr rfl⟩
  have hqa : ∀ q, qA E out q → A q := fun q hq => by
    rcases hq with h | h
    · exact hV.tA q h
    · rw [h]; exact d2 (out, lgC E f) (List.mem_append_right _ List.mem_cons_self)
  have hTP : T.heap = H := hT
  have hpc : qPc E G v w x out f #[.ref (E.2.2 10 0), .int v, .int w, .int x, .ref out] (T.setVm vm₁) := by
    obtain ⟨-, -, z2, z3⟩ := l_pre (as := []) hKN hHK hV (T.setVm vm₁) hT X₁.warmed
    exact ⟨rfl, by show va_P E.1 vwCl _ T.heap; rw [hTP]; exact hV.1, hDq, z2, z3, hTh.go hini0 X₁.warmed (fun q hq => by show T.heap[q]? = _; rw [hTP]; exact hold q hq), ⟨sa1, hs1.warm X₁.warmed⟩, ⟨sa2, hs2.warm X₁.warmed⟩⟩
  obtain ⟨rv, ⟨U', l2, c2, s2⟩, X', hpost, hsteps⟩ := hK m meth c ⟨T.setVm vm₁, locs, cells, slots⟩ (F0 m pc ls rest) (.invokestatic 145) mk #[.ref (E.2.2 10 0), .int v, .int w, .int x, .ref out] X₁ rfl (hl.trans hml.symm) hdg (by show 2 * 0 + (rest.map fun v => v.category).sum ≤ 16; omega) (X₁.named hnamed) ⟨hf.1, hf.2, hpc⟩
  obtain ⟨g', mk', t, L, e1, e2, ⟨hoc, hP1, hF1⟩, h1, hL, h2, h3⟩ := hpost
  dsimp only [Pt.U, Pt.locs, Pt.cells, Pt.slots] at X' e1 e2 h1 h2 h3 hsteps
  subst h1; subst h2; subst h3
  cases hoc
  have hF1' : H.size ≤ t.heap.size ∧ ∀ q : Nat, q < H.size → ¬ qA E out q → t.heap[q]? = H[q]? := by
    have h9 : T.heap.size ≤ t.heap.size ∧ ∀ q : Nat, q < T.heap.size → ¬ qA E out q → t.heap[q]? = T.heap[q]? := hF1
    rw [hTP] at h9
    exact h9
  have hfin : nV E A s (tWd E G ++ [(out, lgC E (zf f (rsR v w x)))]) U'.heap (locs ++ L) := by
    refine ⟨by rw [e1]; exact hP1, va_D.iff.mpr ⟨?_, fun z hz => ?_⟩, Nat.le_trans hS.1 (by rw [e1]; exact hF1'.1), fun q g1 g2 => ?_, fun q hq => ?_⟩
    · have h9 : ((tWd E G ++ [(out, lgC E f)]).map (·.1)).Pairwise (· ≠ ·) := List.pairwise_map.mpr d1
      refine List.pairwise_map.mp (show ((tWd E G ++ [(out, lgC E (zf f (rsR v w x)))]).map (·.1)).Pairwise (· ≠ ·) from ?_)
      rw [List.map_append] at h9 ⊢
      exact h9
    · rcases List.mem_append.mp hz with h | h
      · exact d2 z (List.mem_append_left _ h)
      · rw [List.mem_singleton.mp h]; exact d2 (out, lgC E f) (List.mem_append_right _ List.mem_cons_self)
    · rw [e1, hF1'.2 q (Nat.lt_of_lt_of_le g1 hS.1) (fun h => g2 (hqa q h))]; exact hS.2.1 q g1 g2
    · rcases List.mem_append.mp hq with h | h
      · exact hS.2.2 q h
      · exact hqa _ (hL q h)
  obtain ⟨t2, a1, b1⟩ := kk U'.heap (locs ++ L) hfin U' rfl X'
  exact ⟨t2, hstep₁ _ (fun acts => by rw [doInvoke_state]; exact hsteps.trans a1), b1⟩
end LRC
