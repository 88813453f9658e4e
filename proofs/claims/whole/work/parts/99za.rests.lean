/-! THROWN: rests of the class -/
section LCALLS
variable {E : tE} {A : Nat → Prop} {p : Program} {l : Launch} {e : Env} {R : Room} {s : State} {m : MethodId} {args : Array Value} {below : List Frame} {meth : Method} {c : Code} {own : String} {cc : ByteArray} {nL : Nat} {H : Heap} {locs : List Loc} {cells slots : Nat} {Q : State → Prop} {pc : Nat} {ls : Array Slot} {rest : List Value} {wr : va_W} {G : tH} {r : tRes}
theorem l_callS {n index maxL d : Nat} {y : MethodName} {bytes : ByteArray} {rt : Option FieldType} {as : List tV} (hX : lX E A p s m args c own cc nL) (hM : Met l y (.code y bytes maxL rt :: tW) (tRm d) (tPc E as G) (tQ E r) 0 0 (tAP E)) (w1 : Cond.methodLink own index y ∈ tW) (w5 : Cond.code y bytes maxL rt ∈ tW) (w2 : Cond.static y ∈ tW) (w4 : Cond.initialized y.cls ∈ tW) (hds : y.cls ≠ "java/lang/invoke/MethodHandle" ∧ y.cls ≠ "java/lang/invoke/VarHandle" ∧ (parseMethodDescriptor y.desc).map (fun d => d.parameters.length) = some n) (hn : as.length = n) (hR : d + 1 ≤ R.frames ∧ 16 + (maxL + 11) + 64 * d ≤ R.locals) (hl : ls.size = nL) (hW : (rest.map fun v => v.category).sum ≤ 16) (hdg : decode cc pc = .ok (.invokestatic index, 3)) (hf : cells ≤ R.cells ∧ slots ≤ R.slots) (hV : nV E A s (tWd E G ++ wr) H locs)
    (kk : ∀ (H1 : Heap) (locs1 : List Loc), tokR r → nV E A s (tWd E r.2 ++ wr) H1 locs1 → W p l e R s m args below meth c H1 locs1 cells slots Q (F0 m (pc + 3) ls ((r.1.map (tmv E)).toList ++ rest))) : W p l e R s m args below meth c H locs cells slots Q (F0 m pc ls ((as.map (tmv E)).reverse ++ rest)) := by
  obtain ⟨hx, hb, hml, hown, hts, hKN, hHK, hI⟩ := hX
  have hrun := trunS (p := p) (l := l) (e := e) (R := R) (below := below) (meth := meth) (locs := locs) (cells := cells) (slots := slots) (As := as.map (tmv E)) (rest := rest) (g := F0 m pc ls ((as.map (tmv E)).reverse ++ rest)) (index := index) (H := H) (Ts := tW) ⟨hx, hb, hml, hown, hts⟩ hM (va_cwS n hts (fun w hw => by
        simp only [va_wsS, List.mem_append, List.mem_cons, List.not_mem_nil, or_false] at hw
        rcases hw with (rfl | rfl | rfl) | rfl | hw
        · exact tgood w1
        · exact tgood w2
        · exact tgood w4
        · exact tgood w5
        · exact tgood hw) rfl rfl rfl hds ⟨hR.1, Nat.le_trans (by show 8 + (maxL + 11) + 64 * d ≤ 16 + (maxL + 11) + 64 * d; omega) hR.2⟩) hR.2 ⟨tPc_blind, l_pre (as := as) hKN hHK hV⟩ rfl (by rw [List.length_map]; exact hn) hl rfl (by show 2 * 0 + _ ≤ 16; omega) hdg hf
  exact l_go (mc := 0) (ms := 0) hrun hV kk
end LCALLS
theorem vp_plain (cA : ClassId) (a : vp_A) : (vp_cell cA a).vm.isStatics = false := by
  unfold vp_cell
  split <;> rfl
theorem va_plain {D : va_G} {cl : List vw_C} {q : Nat × va_E} {H : Heap} (h : va_at D cl q H) : ∀ cell, H[q.1]? = some cell → cell.vm.isStatics = false := by
  obtain ⟨a, e⟩ := q
  intro cell hc
  cases e with
  | inl z =>
    have h : H[a]? = some (vp_cell z.1 z.2) := h
    rw [h] at hc
    rw [← Option.some.inj hc]
    exact vp_plain _ _
  | inr o =>
    obtain ⟨r, h1, cell', g1, g2, g3, -⟩ := h
    have g1 : H[a]? = some cell' := g1
    rw [g1] at hc
    rw [← Option.some.inj hc, g3]
    rfl
/-- how it ends: it returns, or it throws -/
def ndE (E : tE) (G : tH) (o : Option Int32) : Array Value → State → Outcome → State → Prop := fun _ st oc t => va_P E.1 vwCl (tWd E G) t.heap ∧ va_F (tAP E) st t ∧ match o with
  | some r => oc = .returned (some (.int r)) ∧ ∃ L, FrameEnd st oc t L 0 0 ∧ ∀ q ∈ L, tAP E q.base
  | none => ∃ (a : Addr) (ce : Cell) (L : List Loc), oc = .threw a ∧ st.heap.size ≤ a ∧ t.heap[a]? = some ce ∧ st.vm.findClass nsN = some ce.cls ∧ ce.vm = .none ∧ st.WarmedH t.vm ∧ st.sameButNew ({ t with vm := st.vm } : State) L 1 6 ∧ ∀ q ∈ L, tAP E q.base
def ndQ (below : List Frame) (Qc : Array Value → State → Outcome → State → Prop) (a : Array Value) (s : State) : State → Prop := fun t => ∃ o, t.status = .running ∧ Ended t below o ∧ Qc a s o t
theorem w_1_24 : (Jvm.Cond.initialized "java/util/NoSuchElementException") ∈ tW := tWm (tm1 (List.mem_of_getElem? (i := 24) rfl)) rfl
theorem w_5_221 : (Jvm.Cond.classLink "TaxFarm" (317 : Nat) "java/util/NoSuchElementException") ∈ tW := tWm (tm5 (List.mem_of_getElem? (i := 221) rfl)) rfl
theorem w_5_222 : (Jvm.Cond.instantiable "java/util/NoSuchElementException" (6 : Nat)) ∈ tW := tWm (tm5 (List.mem_of_getElem? (i := 222) rfl)) rfl
theorem w_6_46 : (Jvm.Cond.methodLink "TaxFarm" (324 : Nat) ({ cls := "TaxFarm", name := "areAtRest", desc := "(IIII)Z" } : Jvm.MethodName)) ∈ tW := tWm (tm6 (List.mem_of_getElem? (i := 46) rfl)) rfl
theorem w_6_47 : (Jvm.Cond.static ({ cls := "TaxFarm", name := "areAtRest", desc := "(IIII)Z" } : Jvm.MethodName)) ∈ tW := tWm (tm6 (List.mem_of_getElem? (i := 47) rfl)) rfl
theorem w_6_48 : (Jvm.Cond.code ({ cls := "TaxFarm", name := "areAtRest", desc := "(IIII)Z" } : Jvm.MethodName) prog_1_method_34_code (5 : Nat) (Option.some Jvm.ClassFile.FieldType.boolean)) ∈ tW := tWm (tm6 (List.mem_of_getElem? (i := 48) rfl)) rfl
section CRESTS
variable {E : tE} {p : Program} {l : Launch} {e : Env} {s : State} {m : MethodId} {args : Array Value} {below : List Frame} {meth : Method} {c : Code} {H : Heap} {locs : List Loc} {ls : Array Slot} {G : tH} {v w x : Int32} {r : Int32}
/-- what is known all along -/
def rX (E : tE) (G : tH) (p : Program) (l : Launch) (s : State) (m : MethodId) (args : Array Value) (meth : Method) (c : Code) : Prop := lX E (tAP E) p s m args c RX10 cX10_rests 6 ∧ meth.sig.returnType = some .int ∧ meth.locks = false ∧ c.exceptionTable.isEmpty = true ∧ l.stackTraces = false ∧ nTh s ∧ (∃ a, vk_R "TaxFarm" 319 "no such worth or number" a s) ∧ (∃ a, vk_R "TaxFarm" 328 "no such bids at rest" a s) ∧ tokG G ∧ va_P E.1 vwCl (tWd E G) s.heap
theorem rests_ret {pc : Nat} (hX : rX E G p l s m args meth c) (hV : nV E (tAP E) s (tWd E G ++ []) H locs) (hr : rsR v w x = some r) (hdg : decode cX10_rests pc = .ok (.ireturn, 1)) : W p l e (nR 6 1 6) s m args below meth c H locs 0 0 (ndQ below (ndE E G (rsR v w x)) args s) (F0 m pc ls [.int r]) := by
  obtain ⟨⟨hx, hb, hml, hown, hts, hKN, hHK, hI⟩, hret, hlk, hem, htr, hTh, hs1, hs2, hG, hP0⟩ := hX
  rw [List.append_nil] at hV
  refine W.imp (Q := MQ below (fun _ st oc t => oc = .returned (some (.int r)) ∧ va_P E.1 vwCl (tWd E G) t.heap ∧ va_F (tAP E) st t) args s 0 0 (tAP E)) ?_ (W.iret hx hb hret (fun t ht hW => ⟨rfl, by rw [ht]; exact hV.1, hV.2.2.F ht⟩) hV.2.2.2.2 hdg)
  rintro t ⟨o, b1, b2, ⟨b3, b4, b5⟩, b6⟩
  refine ⟨o, b1, b2, b4, b5, ?_⟩
  rw [hr]
  exact ⟨b3, b6⟩
theorem rests_thr {pc k : Nat} {tx : String} {sa : Nat} (hX : rX E G p l s m args meth c) (hl : ls.size = 6) (hV : nV E (tAP E) s (tWd E G ++ []) H locs) (hr : rsR v w x = none) (hZ : vk_R "TaxFarm" k tx sa s) (d0 : decode cX10_rests pc = .ok (.new 317, 3)) (d3 : decode cX10_rests (pc + 3) = .ok (.dup, 1)) (d4 : decode cX10_rests (pc + 3 + 1) = .ok (.ldc_w k, 3)) (d7 : decode cX10_rests (pc + 3 + 1 + 3) = .ok (.invokespecial 321, 3)) (d10 : decode cX10_rests (pc + 3 + 1 + 3 + 3) = .ok (.athrow, 1)) : W p l e (nR 6 1 6) s m args below meth c H locs 0 0 (ndQ below (ndE E G (rsR v w x)) args s) (F0 m pc ls []) := by
  obtain ⟨⟨hx, hb, hml, hown, hts, hKN, hHK, hI⟩, hret, hlk, hem, htr, hTh, hs1, hs2, hG, hP0⟩ := hX
  rw [List.append_nil] at hV
  have hS := hV.2.2
  refine W.newc hx hb hown (hts _ w_5_221) (hts _ w_5_222) (hts _ w_1_24) (g := F0 m pc ls []) rfl d0 (Nat.le_of_ble_eq_true rfl) (Nat.le_of_ble_eq_true rfl) (fun cC kC hfc hkc hkind hsz => ?_)
  refine lv_dup hx hb d3 rfl ?_
  refine (?_ : ∀ K : W p l e (nR 6 1 6) s m args below meth c (H.push (freshCell cC kC)) locs (0 + 1) (0 + 6) (ndQ below (ndE E G (rsR v w x)) args s) (F0 m (pc + 3 + 1 + 3) ls [.ref sa, .ref H.size, .ref H.size]), W p l e (nR 6 1 6) s m args below meth c (H.push (freshCell cC kC)) locs (0 + 1) (0 + 6) (ndQ below (ndE E G (rsR v w x)) args s) (F0 m (pc + 3 + 1) ls [.ref H.size, .ref H.size])) ?_
  · intro K T hT X
    obtain ⟨t, a1, b1⟩ := K T hT X
    exact ⟨t, X.ldcStringW hx hown (text := tx) (a := sa) hZ.1 hZ.2 (g := F0 m (pc + 3 + 1) ls [.ref H.size, .ref H.size]) rfl (by rw [hb]; exact d4) t a1, b1⟩
  refine nse_end hx htr hb (hl.trans hml.symm) hown hts hTh hlk hem (fun y hy cell hc => ?_) hfc hkc (a := H.size) (Array.getElem?_push_size) hS.1 d7 d10 (Nat.le_of_ble_eq_true rfl) (Nat.le_of_ble_eq_true rfl) (fun U ce h1 h2 h3 h4 h5 h6 h7 h8 h9 => ?_)
  · obtain ⟨z, hz, hzb⟩ := (tAP_mem (G := G)).mp (hS.2.2 y hy)
    rw [← hzb] at hc
    exact va_plain (va_P.iff.mp hP0 z hz) cell hc
  have hq : ∀ q : Nat, q < H.size → U.heap[q]? = H[q]? := fun q hq => by
    rw [h8 q (by omega), Array.getElem?_push, if_neg (by omega)]
  refine ⟨.threw H.size, h1, h2, va_P.iff.mpr fun z hz => (va_P.iff.mp hV.1 z hz).kept (hq _ (va_P.iff.mp hV.1 z hz).lt), ⟨by rw [h9, Array.size_push]; exact Nat.le_succ_of_le hS.1, fun q g1 g2 => by rw [hq q (Nat.lt_of_lt_of_le g1 hS.1)]; exact hS.2.1 q g1 g2⟩, ?_⟩
  rw [hr]
  exact ⟨H.size, ce, locs, rfl, hS.1, h5, by rw [h6]; exact hfc, h7, h3, h4, hS.2.2⟩
set_option maxRecDepth 100000 in
theorem rests_loop (hX : rX E G p l s m args meth c) (hm : mayR v w x) : ∀ n i, i + n = 100 → (∀ k, k < i → ¬ (isR v w k ∧ nI (cnR v w k) = x)) → ∀ (H : Heap) (locs : List Loc) (ls : Array Slot), nV E (tAP E) s (tWd E G ++ []) H locs → lv_has ls 6 [(5, .int (nI i)), (4, .int (nI (cnR v w i))), (0, .ref (E.2.2 10 0)), (1, .int v), (2, .int w), (3, .int x)] → W p l e (nR 6 1 6) s m args below meth c H locs 0 0 (ndQ below (ndE E G (rsR v w x)) args s) (F0 m 42 ls []) := by
  have hx := hX.1.1
  have hb := hX.1.2.1
  have e100 : (100 : Int32) = nI 100 := by decide +kernel
  intro n
  induction n with
  | zero =>
    intro i hi hno H locs ls hV hl
    have hi : i = 100 := by omega
    subst hi
    refine lv_iload hx hb (by decide +kernel : decode cX10_rests 42 = .ok (.iload 5, 2)) (lv_at hl 0 rfl) ?_
    refine lv_bipush (v := 100) hx hb (by decide +kernel : decode cX10_rests 44 = .ok (.bipush 100, 2)) (by decide) ?_
    refine lv_icmp_ge (tgt := 85) hx hb (by decide +kernel : decode cX10_rests 46 = .ok (.if_icmp .ge 39, 3)) (by decide) (fun _ => ?_) (fun h => absurd (by decide +kernel) h)
    refine lv_iload_n hx hb (by decide +kernel : decode cX10_rests 85 = .ok (.iload_n 3, 1)) rfl (lv_at hl 5 rfl) ?_
    refine lv_iconst (v := -1) hx hb (by decide +kernel : decode cX10_rests 86 = .ok (.iconst (-1), 1)) (by decide) ?_
    refine lv_icmp_eq (tgt := 101) hx hb (by decide +kernel : decode cX10_rests 87 = .ok (.if_icmp .eq 14, 3)) (by decide) (fun h => ?_) (fun h => ?_)
    · refine lv_iload hx hb (by decide +kernel : decode cX10_rests 101 = .ok (.iload 4, 2)) (lv_at hl 1 rfl) ?_
      exact rests_ret hX hV ((pif_1 hm).trans (pif_1 (by rw [h]; decide +kernel))) (by decide +kernel : decode cX10_rests 103 = .ok (.ireturn, 1))
    · obtain ⟨sa, hZ⟩ := hX.2.2.2.2.2.2.2.1
      have h0 : ¬ x < 0 := fun q => h (by
        have h5 := hm.2.2.2.2
        have e1 : (-1 : Int32).toInt = -1 := by decide +kernel
        have e0 : (0 : Int32).toInt = 0 := by decide +kernel
        apply Int32.toInt_inj.mp
        simp only [Int32.lt_iff_toInt_lt, Int32.le_iff_toInt_le, e1, e0] at q h5 ⊢
        omega)
      refine rests_thr hX hl.1 hV ((pif_1 hm).trans ((pif_0 h0).trans (pif_1 ?_))) hZ (by decide +kernel : decode cX10_rests 90 = .ok (.new 317, 3)) (by decide +kernel : decode cX10_rests 93 = .ok (.dup, 1)) (by decide +kernel : decode cX10_rests 94 = .ok (.ldc_w 328, 3)) (by decide +kernel : decode cX10_rests 97 = .ok (.invokespecial 321, 3)) (by decide +kernel : decode cX10_rests 100 = .ok (.athrow, 1))
      rw [fdR_none 100 hno]
      decide +kernel
  | succ n ih =>
    intro i hi hno H locs ls hV hl
    have hc := cnR_le v w i
    refine lv_iload hx hb (by decide +kernel : decode cX10_rests 42 = .ok (.iload 5, 2)) (lv_at hl 0 rfl) ?_
    refine lv_bipush (v := 100) hx hb (by decide +kernel : decode cX10_rests 44 = .ok (.bipush 100, 2)) (by decide) ?_
    refine lv_icmp_ge (tgt := 85) hx hb (by decide +kernel : decode cX10_rests 46 = .ok (.if_icmp .ge 39, 3)) (by decide) (fun h => absurd h (by rw [e100]; exact nI_ge (by omega) (by omega))) (fun _ => ?_)
    refine lv_iload_n hx hb (by decide +kernel : decode cX10_rests 49 = .ok (.iload_n 1, 1)) rfl (lv_at hl 3 rfl) ?_
    refine lv_iload_n hx hb (by decide +kernel : decode cX10_rests 50 = .ok (.iload_n 2, 1)) rfl (lv_at hl 4 rfl) ?_
    refine lv_iload hx hb (by decide +kernel : decode cX10_rests 51 = .ok (.iload 5, 2)) (lv_at hl 0 rfl) ?_
    refine lv_bipush (v := nI 10) hx hb (by decide +kernel : decode cX10_rests 53 = .ok (.bipush 10, 2)) (by decide +kernel) ?_
    refine lv_idiv hx hb (by decide +kernel : decode cX10_rests 55 = .ok (.idiv, 1)) (by decide +kernel) ?_
    refine lv_iload hx hb (by decide +kernel : decode cX10_rests 56 = .ok (.iload 5, 2)) (lv_at hl 0 rfl) ?_
    refine lv_bipush (v := nI 10) hx hb (by decide +kernel : decode cX10_rests 58 = .ok (.bipush 10, 2)) (by decide +kernel) ?_
    refine lv_irem hx hb (by decide +kernel : decode cX10_rests 60 = .ok (.irem, 1)) (by decide +kernel) ?_
    rw [nI_rem (by omega) (by omega) (by omega), pk_div (by omega) (by omega) (by omega)]
    refine l_callS (as := [vI v, vI w, vI (nI (i / 10)), vI (nI (i % 10))]) (rest := []) (n := 4) hX.1 (l_met (mid := 128) hX.1.2.2.2.2.2.2.2 rfl rfl (fun z hz => ?_) hX.2.2.2.2.2.2.2.2.1 rfl (c_rest v w (nI (i / 10)) (nI (i % 10)) G)) w_6_46 w_6_48 w_6_47 w_1_1 (by decide +kernel) rfl ⟨Nat.le_of_ble_eq_true rfl, Nat.le_of_ble_eq_true rfl⟩ hl.1 (Nat.le_of_ble_eq_true rfl) (by decide +kernel : decode cX10_rests 61 = .ok (.invokestatic 324, 3)) ⟨Nat.le_of_ble_eq_true rfl, Nat.le_of_ble_eq_true rfl⟩ hV (fun H locs ht hV => ?_)
    · simp only [List.mem_cons, List.not_mem_nil, or_false] at hz
      rcases hz with rfl | rfl | rfl | rfl <;> trivial
    have hV : nV E (tAP E) s (tWd E G ++ []) H locs := hV
    have next : ∀ (ls : Array Slot), (∀ k, k < i + 1 → ¬ (isR v w k ∧ nI (cnR v w k) = x)) → lv_has ls 6 [(4, .int (nI (cnR v w (i + 1)))), (5, .int (nI i)), (0, .ref (E.2.2 10 0)), (1, .int v), (2, .int w), (3, .int x)] → W p l e (nR 6 1 6) s m args below meth c H locs 0 0 (ndQ below (ndE E G (rsR v w x)) args s) (F0 m 79 ls []) := by
      intro ls hno2 hl
      refine lv_iinc (v := nI (i + 1)) (lv' := [(5, .int (nI (i + 1))), (4, .int (nI (cnR v w (i + 1)))), (0, .ref (E.2.2 10 0)), (1, .int v), (2, .int w), (3, .int x)]) hx hb (by decide +kernel : decode cX10_rests 79 = .ok (.iinc 5 1, 3)) hl (k := 1) rfl (nI_1 i) (by decide) rfl (fun ls hl => ?_)
      refine lv_goto (tgt := 42) hx hb (by decide +kernel : decode cX10_rests 82 = .ok (.goto (-40), 3)) (by decide) ?_
      exact ih (i + 1) (by omega) hno2 H locs ls hV hl
    refine (?_ : W p l e (nR 6 1 6) s m args below meth c H locs 0 0 (ndQ below (ndE E G (rsR v w x)) args s) (F0 m 64 ls [.int (pif (isR v w i) (nI 1) (nI 0))]))
    by_cases hR : isR v w i
    · rw [pif_1 hR]
      refine lv_if_eq (tgt := 79) hx hb (by decide +kernel : decode cX10_rests 64 = .ok (.ifCond .eq 15, 3)) (by decide) (fun h => absurd h (by decide +kernel)) (fun _ => ?_)
      refine lv_iload hx hb (by decide +kernel : decode cX10_rests 67 = .ok (.iload 4, 2)) (lv_at hl 1 rfl) ?_
      refine lv_iload_n hx hb (by decide +kernel : decode cX10_rests 69 = .ok (.iload_n 3, 1)) rfl (lv_at hl 5 rfl) ?_
      refine lv_icmp_ne (tgt := 76) hx hb (by decide +kernel : decode cX10_rests 70 = .ok (.if_icmp .ne 6, 3)) (by decide) (fun h => ?_) (fun h => ?_)
      · refine lv_iinc (v := nI (cnR v w (i + 1))) (lv' := [(4, .int (nI (cnR v w (i + 1)))), (5, .int (nI i)), (0, .ref (E.2.2 10 0)), (1, .int v), (2, .int w), (3, .int x)]) hx hb (by decide +kernel : decode cX10_rests 76 = .ok (.iinc 4 1, 3)) hl (k := 1) rfl (by rw [show cnR v w (i + 1) = cnR v w i + 1 from pif_1 hR]; exact nI_1 _) (by decide) rfl (fun ls hl => ?_)
        refine next ls (fun k hk q => ?_) hl
        by_cases e : k = i
        · rw [e] at q; exact h q.2
        · exact hno k (by omega) q
      · have h : nI (cnR v w i) = x := h
        refine lv_iload hx hb (by decide +kernel : decode cX10_rests 73 = .ok (.iload 5, 2)) (lv_at hl 0 rfl) ?_
        refine rests_ret hX hV ((pif_1 hm).trans ((pif_0 ?_).trans ((pif_0 ?_).trans ?_))) (by decide +kernel : decode cX10_rests 75 = .ok (.ireturn, 1))
        · rw [← h]; exact nI_pos (by omega)
        · rw [show 100 = i + 1 + (99 - i) by omega, fdR_stay hR h (99 - i) (by omega)]; exact nI_pos (by omega)
        · rw [show 100 = i + 1 + (99 - i) by omega, fdR_stay hR h (99 - i) (by omega)]
    · rw [pif_0 hR]
      refine lv_if_eq (tgt := 79) hx hb (by decide +kernel : decode cX10_rests 64 = .ok (.ifCond .eq 15, 3)) (by decide) (fun _ => ?_) (fun h => absurd (by decide +kernel) h)
      refine next ls (fun k hk q => ?_) ?_
      · by_cases e : k = i
        · rw [e] at q; exact hR q.1
        · exact hno k (by omega) q
      · rw [show cnR v w (i + 1) = cnR v w i from pif_0 hR]
        exact lv_sub hl [1, 0, 2, 3, 4, 5] rfl
set_option maxRecDepth 100000 in
theorem rests_W (hX : rX E G p l s m args meth c) : ∀ (ls : Array Slot), lv_has ls 6 [(0, .ref (E.2.2 10 0)), (1, .int v), (2, .int w), (3, .int x)] → W p l e (nR 6 1 6) s m args below meth c s.heap [] 0 0 (ndQ below (ndE E G (rsR v w x)) args s) (F0 m 0 ls []) := by
  have hx := hX.1.1
  have hb := hX.1.2.1
  intro ls hl
  have hV : nV E (tAP E) s (tWd E G ++ []) s.heap [] := by
    rw [List.append_nil]
    exact ⟨hX.2.2.2.2.2.2.2.2.2, tWd_D hX.1.2.2.2.2.2.2.2 G, va_S.rf⟩
  obtain ⟨sa, hZ⟩ := hX.2.2.2.2.2.2.1
  have bad : ¬ mayR v w x → ∀ ls : Array Slot, ls.size = 6 → W p l e (nR 6 1 6) s m args below meth c s.heap [] 0 0 (ndQ below (ndE E G (rsR v w x)) args s) (F0 m 25 ls []) := fun h ls hl => rests_thr hX hl hV (pif_0 h) hZ (by decide +kernel : decode cX10_rests 25 = .ok (.new 317, 3)) (by decide +kernel : decode cX10_rests 28 = .ok (.dup, 1)) (by decide +kernel : decode cX10_rests 29 = .ok (.ldc_w 319, 3)) (by decide +kernel : decode cX10_rests 32 = .ok (.invokespecial 321, 3)) (by decide +kernel : decode cX10_rests 35 = .ok (.athrow, 1))
  refine lv_iload_n hx hb (by decide +kernel : decode cX10_rests 0 = .ok (.iload_n 1, 1)) rfl (lv_at hl 1 rfl) ?_
  refine lv_if_lt (tgt := 25) hx hb (by decide +kernel : decode cX10_rests 1 = .ok (.ifCond .lt 24, 3)) (by decide) (fun h => bad (fun q => q.1 h) ls hl.1) (fun h1 => ?_)
  refine lv_iload_n hx hb (by decide +kernel : decode cX10_rests 4 = .ok (.iload_n 1, 1)) rfl (lv_at hl 1 rfl) ?_
  refine lv_bipush (v := 10) hx hb (by decide +kernel : decode cX10_rests 5 = .ok (.bipush 10, 2)) (by decide) ?_
  refine lv_icmp_ge (tgt := 25) hx hb (by decide +kernel : decode cX10_rests 7 = .ok (.if_icmp .ge 18, 3)) (by decide) (fun h => bad (fun q => q.2.1 h) ls hl.1) (fun h2 => ?_)
  refine lv_iload_n hx hb (by decide +kernel : decode cX10_rests 10 = .ok (.iload_n 2, 1)) rfl (lv_at hl 2 rfl) ?_
  refine lv_if_lt (tgt := 25) hx hb (by decide +kernel : decode cX10_rests 11 = .ok (.ifCond .lt 14, 3)) (by decide) (fun h => bad (fun q => q.2.2.1 h) ls hl.1) (fun h3 => ?_)
  refine lv_iload_n hx hb (by decide +kernel : decode cX10_rests 14 = .ok (.iload_n 2, 1)) rfl (lv_at hl 2 rfl) ?_
  refine lv_bipush (v := 10) hx hb (by decide +kernel : decode cX10_rests 15 = .ok (.bipush 10, 2)) (by decide) ?_
  refine lv_icmp_ge (tgt := 25) hx hb (by decide +kernel : decode cX10_rests 17 = .ok (.if_icmp .ge 8, 3)) (by decide) (fun h => bad (fun q => q.2.2.2.1 h) ls hl.1) (fun h4 => ?_)
  refine lv_iload_n hx hb (by decide +kernel : decode cX10_rests 20 = .ok (.iload_n 3, 1)) rfl (lv_at hl 3 rfl) ?_
  refine lv_iconst (v := -1) hx hb (by decide +kernel : decode cX10_rests 21 = .ok (.iconst (-1), 1)) (by decide) ?_
  refine lv_icmp_ge (tgt := 36) hx hb (by decide +kernel : decode cX10_rests 22 = .ok (.if_icmp .ge 14, 3)) (by decide) (fun h5 => ?_) (fun h => bad (fun q => h q.2.2.2.2) ls hl.1)
  refine lv_iconst (v := nI 0) hx hb (by decide +kernel : decode cX10_rests 36 = .ok (.iconst 0, 1)) (by decide +kernel) ?_
  refine lv_istore (lv' := [(4, .int (nI 0)), (0, .ref (E.2.2 10 0)), (1, .int v), (2, .int w), (3, .int x)]) hx hb (by decide +kernel : decode cX10_rests 37 = .ok (.istore 4, 2)) hl (by decide) rfl (fun ls hl => ?_)
  refine lv_iconst (v := nI 0) hx hb (by decide +kernel : decode cX10_rests 39 = .ok (.iconst 0, 1)) (by decide +kernel) ?_
  refine lv_istore (lv' := [(5, .int (nI 0)), (4, .int (nI 0)), (0, .ref (E.2.2 10 0)), (1, .int v), (2, .int w), (3, .int x)]) hx hb (by decide +kernel : decode cX10_rests 40 = .ok (.istore 5, 2)) hl (by decide) rfl (fun ls hl => ?_)
  exact rests_loop hX ⟨h1, h2, h3, h4, h5⟩ 100 0 rfl (fun k hk => absurd hk (Nat.not_lt_zero k)) s.heap [] ls hV hl
end CRESTS
def rPc (E : tE) (G : tH) (v w x : Int32) : Array Value → State → Prop := va_Pc [.ref (E.2.2 10 0), .int v, .int w, .int x] fun U => va_P E.1 vwCl (tWd E G) U.heap ∧ tKN E U ∧ tHK E U U.heap ∧ nTh U ∧ (∃ a, vk_R "TaxFarm" 319 "no such worth or number" a U) ∧ ∃ a, vk_R "TaxFarm" 328 "no such bids at rest" a U
theorem c_rests (l : Launch) (htr : l.stackTraces = false) {E : tE} (hI : tInj E) {G : tH} (hG : tokG G) (v w x : Int32) : MetFree l yX10_rests (headSpec (.code yX10_rests cX10_rests 6 (some .int) :: tW) (nR 6 1 6)) (rPc E G v w x) (fun _ _ _ _ _ => True) (ndE E G (rsR v w x)) := by
  refine MetFree.of_bodyS (code := cX10_rests) (maxLocals := 6) (ret := some .int) (by decide +kernel) ?_ ?_
  · intro args s m h hn
    obtain ⟨meth, c, h1, h2, h3, h4, h5, h6, -, -⟩ := Cond.code_spec hn (atoms_spec (ws := .code yX10_rests cX10_rests 6 (some .int) :: tW) h _ List.mem_cons_self)
    exact ⟨meth, c, h1, h2, h3, h4, h5, h6⟩
  · intro p e s m args below meth c s₁ B hml hP _
    obtain ⟨rfl, hPw, hKN, hHK, hTh, hs1, hs2⟩ := hP
    have hh0 : s₁.heap = s.heap := by rw [B.state]; rfl
    have hts := atoms_spec (ws := .code yX10_rests cX10_rests 6 (some .int) :: tW) B.pre
    have hl := lv_entry [.ref (E.2.2 10 0), .int v, .int w, .int x] (n := 6) (Nat.le_of_ble_eq_true rfl)
    have K := rests_W (E := E) (G := G) (v := v) (w := w) (x := x) (l := l) (e := e) (below := below) ⟨⟨B.exec, B.bytes, hml, findClass_of_methodNamed B.named, fun w hw => hts w (List.mem_cons_of_mem _ hw), hKN, hHK, hI⟩, B.returns, B.notSynchronized, B.noHandlers (hts _ List.mem_cons_self), htr, hTh, hs1, hs2, hG, hPw⟩ _ hl
    rw [← lg_entry_eq] at K
    obtain ⟨t, a1, o, b1, b2, b3⟩ := K s₁ hh0 (Stand.of_body B)
    exact ⟨t, o, a1, b1, b2, b3⟩
