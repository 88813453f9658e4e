/-! THE CLAIM OUT OF ONE WALK OF THE LAW'S BODY. Your part is whole_start (and what it stands on); all else here is the same for every law, but numbers. -/
def R_law : String := "TaxFarmLaw"
def lw_P (b : Addr) (xs : List Int32) (args : Array Value) (s : State) : Prop := args = #[.ref b] ∧ s.IntsAt b xs ∧ xs.length ≤ 3584 ∧ (Jvm.Cond.and given_1 narrow_1).before args s = true
def lw_Q (_ : Array Value) (s : State) (o : Outcome) (t : State) : Prop := o = .returned (some (.int 1)) ∧ Framed s o t [] 601024 7293033
def lw_Z (below : List Frame) (a : Array Value) (s : State) : State → Prop := fun t => ∃ o, t.status = .running ∧ Ended t below o ∧ lw_Q a s o t
/-- the law's own end, with 1 on the stack, nothing written that was there before, its room as the claim has it -/
theorem lw_ret {p : Program} {l : Launch} {e : Env} {s : State} {m : MethodId} {below : List Frame} {meth : Method} {c : Code} {b : Nat} (hx : p.tables.exec = Jvm.exec) (hb : c.code = code) (hr : meth.sig.returnType = ret) (hlocks : meth.locks = false) {pc : Nat} {H : Heap} {ls : Array Slot} (hdg : decode code pc = .ok (.ireturn, 1)) : W p l e room_1 s m #[Value.ref b] below meth c H [] 601024 7293033 (lw_Z below #[Value.ref b] s) (F0 m pc ls [.int 1]) := by
  intro T hT X
  obtain ⟨fs, hret, hrun, hended, hW, hframe⟩ := X.leave (v := some (.int 1)) (hlocks := hlocks) (fun h => by rw [hr] at h; cases h)
  have hmeth' : T.vm.method? m = some meth := X.method'
  refine ⟨T.setFrames fs, ?_, .returned (some (.int 1)), hrun, hended, rfl, ⟨_, rfl⟩, hW, hframe⟩
  jvm_step X.here [X.here.top, hx, hb, hdg, hmeth', hr, ret, narrow_b1]
  (try refine ⟨rfl, ?_⟩); (try refine ⟨rfl, ?_⟩)
  first | (intro acts; rw [hret _ acts rfl rfl rfl]) | rw [hret _ _ rfl rfl rfl]
  exact Steps.refl _
/-- what holds at the law's entry: the machine, the code, the tables' words (any of lw_tbl by 'hts w (by decide +kernel)'), the script of L ints xs at the cell b, what the Statement gives of the start (any of its parts by flat_of_before) -/
def lw_At (p : Program) (s : State) (m : MethodId) (meth : Method) (c : Code) (b L : Nat) (xs : Nat → Int32) : Prop :=
  p.tables.exec = Jvm.exec ∧ c.code = code ∧ meth.sig.returnType = ret ∧ c.maxLocals = 7 ∧ s.vm.findClass R_law = some m.cls ∧ (∀ w ∈ lw_tbl, w.before #[Value.ref b] s = true) ∧ va_X b L xs s s.heap ∧ b < s.heap.size ∧ meth.locks = false ∧ (Jvm.Cond.and given_1 narrow_1).before #[Value.ref b] s = true
theorem and63 (x : Int32) : ∃ k : Nat, k < 64 ∧ x &&& 63 = nI k := by
  refine ⟨(x.toBitVec &&& 63#32).toNat, ?_, ?_⟩
  · rw [BitVec.toNat_and]
    exact Nat.and_lt_two_pow (n := 6) _ (by decide)
  · apply Int32.toBitVec_inj.mp
    show (x &&& 63).toBitVec = BitVec.ofNat 32 (x.toBitVec &&& 63#32).toNat
    rw [BitVec.ofNat_toNat, BitVec.setWidth_eq]
    rfl
set_option maxRecDepth 100000 in
set_option maxHeartbeats 4000000 in
theorem law_loop {E : tE} {A : Nat → Prop} {p : Program} {l : Launch} {e : Env} {s : State} {m : MethodId} {below : List Frame} {meth : Method} {c : Code} {b L out : Nat} {xs : Nat → Int32} (hX : lwX E A p l s m c b L xs) (hL : L ≤ 3584) (hr : meth.sig.returnType = ret) (hlk : meth.locks = false) (hA : ∀ q, A q → s.heap.size ≤ q) :
    ∀ n j, j + n = 512 → ∀ (G : tH) (f : Nat → Int64) (H : Heap) (locs : List Loc) (ls : Array Slot), INV G → tokG G → nV E A s (tWd E G ++ [(out, lgC E f)]) H locs → lv_has ls 7 (lwL E b out (7 * j)) → W p l e room_1 s m #[Value.ref b] below meth c H locs (277 + j) (18473 + 6 * j) (lw_Z below #[Value.ref b] s) (F0 m 23 ls []) := by
  obtain ⟨hX0, hAl, hXs, hbl, htr, hTh, hs1, hs2⟩ := id hX
  have hx := hX0.1
  have hb := hX0.2.1
  have hbA : ¬ A b := hAl b hbl
  have e7 : (7 : Int32) = nI 7 := by decide +kernel
  intro n
  induction n with
  | zero =>
    intro j hj G f H locs ls hG ht hV hl
    refine lv_iload hx hb (by decide +kernel : decode cL_law 23 = .ok (.iload 4, 2)) (lv_at hl 0 rfl) ?_
    refine lv_aload_n hx hb (by decide +kernel : decode cL_law 25 = .ok (.aload_n 0, 1)) rfl (lv_at hl 1 rfl) ?_
    refine va_slen hx hb hXs hbl hbA hV.2.2 (by decide +kernel : decode cL_law 26 = .ok (.arraylength, 1)) ?_
    refine lv_bipush (v := nI 7) hx hb (by decide +kernel : decode cL_law 27 = .ok (.bipush 7, 2)) (by decide +kernel) ?_
    refine lv_isub hx hb (by decide +kernel : decode cL_law 29 = .ok (.isub, 1)) ?_
    refine lv_icmp_gt (tgt := 1308) hx hb (by decide +kernel : decode cL_law 30 = .ok (.if_icmp .gt 1278, 3)) (by decide) (fun _ => ?_) (fun h => ?_)
    · refine lv_iconst (v := 1) hx hb (by decide +kernel : decode cL_law 1308 = .ok (.iconst 1, 1)) (by decide) ?_
      refine va_forget (fun q hq => hA _ (hV.2.2.2.2 q hq)) ?_
      refine W.widen (k := 601024) (n := 7293033) (by omega) (by omega) ?_
      exact lw_ret hx hb hr hlk (by decide +kernel : decode cL_law 1309 = .ok (.ireturn, 1))
    · exfalso
      apply h
      have h1 : (Int32.ofNat L - nI 7).toInt = (L : Int) - (7 : Nat) := pk_sub_toInt (a := L) (b := 7) (by omega) (by omega)
      rw [Int32.lt_iff_toInt_lt, h1, nI_toInt (by omega)]
      omega
  | succ n ih =>
    intro j hj G f H locs ls hG ht hV hl
    refine lv_iload hx hb (by decide +kernel : decode cL_law 23 = .ok (.iload 4, 2)) (lv_at hl 0 rfl) ?_
    refine lv_aload_n hx hb (by decide +kernel : decode cL_law 25 = .ok (.aload_n 0, 1)) rfl (lv_at hl 1 rfl) ?_
    refine va_slen hx hb hXs hbl hbA hV.2.2 (by decide +kernel : decode cL_law 26 = .ok (.arraylength, 1)) ?_
    refine lv_bipush (v := nI 7) hx hb (by decide +kernel : decode cL_law 27 = .ok (.bipush 7, 2)) (by decide +kernel) ?_
    refine lv_isub hx hb (by decide +kernel : decode cL_law 29 = .ok (.isub, 1)) ?_
    refine lv_icmp_gt (tgt := 1308) hx hb (by decide +kernel : decode cL_law 30 = .ok (.if_icmp .gt 1278, 3)) (by decide) (fun _ => ?_) (fun h => ?_)
    · refine lv_iconst (v := 1) hx hb (by decide +kernel : decode cL_law 1308 = .ok (.iconst 1, 1)) (by decide) ?_
      refine va_forget (fun q hq => hA _ (hV.2.2.2.2 q hq)) ?_
      refine W.widen (k := 601024) (n := 7293033) (by omega) (by omega) ?_
      exact lw_ret hx hb hr hlk (by decide +kernel : decode cL_law 1309 = .ok (.ireturn, 1))
    have hi : 7 * j + 7 ≤ L := by
      have h1 : (Int32.ofNat L - nI 7).toInt = (L : Int) - (7 : Nat) := pk_sub_toInt (a := L) (b := 7) (by omega) (by omega)
      rw [Int32.lt_iff_toInt_lt, h1, nI_toInt (by omega)] at h
      omega
    have nx : lwN E A p l e s m below meth c b out (7 * j) (lw_Z below #[Value.ref b] s) (277 + j + 1) (18473 + 6 * j + 6) := by
      intro G f H locs ls hG ht hV hl
      refine lv_iinc (v := nI (7 * (j + 1))) (lv' := lwL E b out (7 * (j + 1))) hx hb (by decide +kernel : decode cL_law 1302 = .ok (.iinc 4 7, 3)) hl (k := 0) rfl (by rw [show Int32.ofInt 7 = nI 7 from by decide +kernel, nI_add]; rfl) (by decide) rfl (fun ls hl => ?_)
      refine lv_goto (tgt := 23) hx hb (by decide +kernel : decode cL_law 1305 = .ok (.goto (-1282), 3)) (by decide) ?_
      refine W.widen (k := 277 + (j + 1)) (n := 18473 + 6 * (j + 1)) (by omega) (by omega) ?_
      exact ih (j + 1) (by omega) G f H locs ls hG ht hV hl
    refine lv_aload_n hx hb (by decide +kernel : decode cL_law 33 = .ok (.aload_n 0, 1)) rfl (lv_at hl 1 rfl) ?_
    refine lv_iload hx hb (by decide +kernel : decode cL_law 34 = .ok (.iload 4, 2)) (lv_at hl 0 rfl) ?_
    refine va_sld hx hb hXs hbl hbA hV.2.2 (i := nI (7 * j)) (vp_in_nI (by omega) (by omega)) (by decide +kernel : decode cL_law 36 = .ok (.iaload, 1)) ?_
    refine lv_bipush (v := 63) hx hb (by decide +kernel : decode cL_law 37 = .ok (.bipush 63, 2)) (by decide) ?_
    refine lv_iand hx hb (by decide +kernel : decode cL_law 39 = .ok (.iand, 1)) ?_
    obtain ⟨k, hk, ek⟩ := and63 (xs (nI (7 * j)).toNatClampNeg)
    rw [ek]
    have hc : 277 + j + 1 ≤ 601024 := by omega
    have hs : 18473 + 6 * j + 6 ≤ 7293033 := by omega
    rcases (show k = 0 ∨ k = 1 ∨ k = 2 ∨ k = 3 ∨ k = 4 ∨ k = 5 ∨ k = 6 ∨ k = 7 ∨ k = 8 ∨ k = 9 ∨ k = 10 ∨ k = 11 ∨ k = 12 ∨ k = 13 ∨ k = 14 ∨ k = 15 ∨ k = 16 ∨ k = 17 ∨ k = 18 ∨ k = 19 ∨ k = 20 ∨ k = 21 ∨ k = 22 ∨ k = 23 ∨ k = 24 ∨ k = 25 ∨ k = 26 ∨ k = 27 ∨ k = 28 ∨ k = 29 ∨ k = 30 ∨ k = 31 ∨ k = 32 ∨ 32 < k by omega) with rfl | rfl | rfl | rfl | rfl | rfl | rfl | rfl | rfl | rfl | rfl | rfl | rfl | rfl | rfl | rfl | rfl | rfl | rfl | rfl | rfl | rfl | rfl | rfl | rfl | rfl | rfl | rfl | rfl | rfl | rfl | rfl | rfl | h33
    · exact lv_tableIn (tgt := 188) (off := 148) hx hb (by decide +kernel : decode cL_law 40 = .ok (.tableswitch 1262 0 32 #[148, 295, 308, 321, 358, 395, 432, 445, 482, 495, 520, 557, 594, 631, 656, 681, 694, 707, 720, 745, 770, 783, 844, 893, 918, 955, 992, 1029, 1042, 1055, 1135, 1184, 1237], 148)) (by decide +kernel) (by decide +kernel) (by decide +kernel) (by decide) (law_feed hX hi hL hG ht hV hl hc hs nx)
    · exact lv_tableIn (tgt := 335) (off := 295) hx hb (by decide +kernel : decode cL_law 40 = .ok (.tableswitch 1262 0 32 #[148, 295, 308, 321, 358, 395, 432, 445, 482, 495, 520, 557, 594, 631, 656, 681, 694, 707, 720, 745, 770, 783, 844, 893, 918, 955, 992, 1029, 1042, 1055, 1135, 1184, 1237], 148)) (by decide +kernel) (by decide +kernel) (by decide +kernel) (by decide) (law_province hX hi hL hG ht hV hl hc hs nx)
    · exact lv_tableIn (tgt := 348) (off := 308) hx hb (by decide +kernel : decode cL_law 40 = .ok (.tableswitch 1262 0 32 #[148, 295, 308, 321, 358, 395, 432, 445, 482, 495, 520, 557, 594, 631, 656, 681, 694, 707, 720, 745, 770, 783, 844, 893, 918, 955, 992, 1029, 1042, 1055, 1135, 1184, 1237], 148)) (by decide +kernel) (by decide +kernel) (by decide +kernel) (by decide) (law_past hX hi hL hG ht hV hl hc hs nx)
    · exact lv_tableIn (tgt := 361) (off := 321) hx hb (by decide +kernel : decode cL_law 40 = .ok (.tableswitch 1262 0 32 #[148, 295, 308, 321, 358, 395, 432, 445, 482, 495, 520, 557, 594, 631, 656, 681, 694, 707, 720, 745, 770, 783, 844, 893, 918, 955, 992, 1029, 1042, 1055, 1135, 1184, 1237], 148)) (by decide +kernel) (by decide +kernel) (by decide +kernel) (by decide) (law_town hX hi hL hG ht hV hl hc hs nx)
    · exact lv_tableIn (tgt := 398) (off := 358) hx hb (by decide +kernel : decode cL_law 40 = .ok (.tableswitch 1262 0 32 #[148, 295, 308, 321, 358, 395, 432, 445, 482, 495, 520, 557, 594, 631, 656, 681, 694, 707, 720, 745, 770, 783, 844, 893, 918, 955, 992, 1029, 1042, 1055, 1135, 1184, 1237], 148)) (by decide +kernel) (by decide +kernel) (by decide +kernel) (by decide) (law_company hX hi hL hG ht hV hl hc hs nx)
    · exact lv_tableIn (tgt := 435) (off := 395) hx hb (by decide +kernel : decode cL_law 40 = .ok (.tableswitch 1262 0 32 #[148, 295, 308, 321, 358, 395, 432, 445, 482, 495, 520, 557, 594, 631, 656, 681, 694, 707, 720, 745, 770, 783, 844, 893, 918, 955, 992, 1029, 1042, 1055, 1135, 1184, 1237], 148)) (by decide +kernel) (by decide +kernel) (by decide +kernel) (by decide) (law_juror hX hi hL hG ht hV hl hc hs nx)
    · exact lv_tableIn (tgt := 472) (off := 432) hx hb (by decide +kernel : decode cL_law 40 = .ok (.tableswitch 1262 0 32 #[148, 295, 308, 321, 358, 395, 432, 445, 482, 495, 520, 557, 594, 631, 656, 681, 694, 707, 720, 745, 770, 783, 844, 893, 918, 955, 992, 1029, 1042, 1055, 1135, 1184, 1237], 148)) (by decide +kernel) (by decide +kernel) (by decide +kernel) (by decide) (law_holder hX hi hL hG ht hV hl hc hs nx)
    · exact lv_tableIn (tgt := 485) (off := 445) hx hb (by decide +kernel : decode cL_law 40 = .ok (.tableswitch 1262 0 32 #[148, 295, 308, 321, 358, 395, 432, 445, 482, 495, 520, 557, 594, 631, 656, 681, 694, 707, 720, 745, 770, 783, 844, 893, 918, 955, 992, 1029, 1042, 1055, 1135, 1184, 1237], 148)) (by decide +kernel) (by decide +kernel) (by decide +kernel) (by decide) (law_bid hX hi hL hG ht hV hl hc hs nx)
    · exact lv_tableIn (tgt := 522) (off := 482) hx hb (by decide +kernel : decode cL_law 40 = .ok (.tableswitch 1262 0 32 #[148, 295, 308, 321, 358, 395, 432, 445, 482, 495, 520, 557, 594, 631, 656, 681, 694, 707, 720, 745, 770, 783, 844, 893, 918, 955, 992, 1029, 1042, 1055, 1135, 1184, 1237], 148)) (by decide +kernel) (by decide +kernel) (by decide +kernel) (by decide) (law_award hX hi hL hG ht hV hl hc hs nx)
    · exact lv_tableIn (tgt := 535) (off := 495) hx hb (by decide +kernel : decode cL_law 40 = .ok (.tableswitch 1262 0 32 #[148, 295, 308, 321, 358, 395, 432, 445, 482, 495, 520, 557, 594, 631, 656, 681, 694, 707, 720, 745, 770, 783, 844, 893, 918, 955, 992, 1029, 1042, 1055, 1135, 1184, 1237], 148)) (by decide +kernel) (by decide +kernel) (by decide +kernel) (by decide) (law_year hX hi hL hG ht hV hl hc hs nx)
    · exact lv_tableIn (tgt := 560) (off := 520) hx hb (by decide +kernel : decode cL_law 40 = .ok (.tableswitch 1262 0 32 #[148, 295, 308, 321, 358, 395, 432, 445, 482, 495, 520, 557, 594, 631, 656, 681, 694, 707, 720, 745, 770, 783, 844, 893, 918, 955, 992, 1029, 1042, 1055, 1135, 1184, 1237], 148)) (by decide +kernel) (by decide +kernel) (by decide +kernel) (by decide) (law_take hX hi hL hG ht hV hl hc hs nx)
    · exact lv_tableIn (tgt := 597) (off := 557) hx hb (by decide +kernel : decode cL_law 40 = .ok (.tableswitch 1262 0 32 #[148, 295, 308, 321, 358, 395, 432, 445, 482, 495, 520, 557, 594, 631, 656, 681, 694, 707, 720, 745, 770, 783, 844, 893, 918, 955, 992, 1029, 1042, 1055, 1135, 1184, 1237], 148)) (by decide +kernel) (by decide +kernel) (by decide +kernel) (by decide) (law_lend hX hi hL hG ht hV hl hc hs nx)
    · exact lv_tableIn (tgt := 634) (off := 594) hx hb (by decide +kernel : decode cL_law 40 = .ok (.tableswitch 1262 0 32 #[148, 295, 308, 321, 358, 395, 432, 445, 482, 495, 520, 557, 594, 631, 656, 681, 694, 707, 720, 745, 770, 783, 844, 893, 918, 955, 992, 1029, 1042, 1055, 1135, 1184, 1237], 148)) (by decide +kernel) (by decide +kernel) (by decide +kernel) (by decide) (law_call hX hi hL hG ht hV hl hc hs nx)
    · exact lv_tableIn (tgt := 671) (off := 631) hx hb (by decide +kernel : decode cL_law 40 = .ok (.tableswitch 1262 0 32 #[148, 295, 308, 321, 358, 395, 432, 445, 482, 495, 520, 557, 594, 631, 656, 681, 694, 707, 720, 745, 770, 783, 844, 893, 918, 955, 992, 1029, 1042, 1055, 1135, 1184, 1237], 148)) (by decide +kernel) (by decide +kernel) (by decide +kernel) (by decide) (law_spare hX hi hL hG ht hV hl hc hs nx)
    · exact lv_tableIn (tgt := 696) (off := 656) hx hb (by decide +kernel : decode cL_law 40 = .ok (.tableswitch 1262 0 32 #[148, 295, 308, 321, 358, 395, 432, 445, 482, 495, 520, 557, 594, 631, 656, 681, 694, 707, 720, 745, 770, 783, 844, 893, 918, 955, 992, 1029, 1042, 1055, 1135, 1184, 1237], 148)) (by decide +kernel) (by decide +kernel) (by decide +kernel) (by decide) (law_bribe hX hi hL hG ht hV hl hc hs nx)
    · exact lv_tableIn (tgt := 721) (off := 681) hx hb (by decide +kernel : decode cL_law 40 = .ok (.tableswitch 1262 0 32 #[148, 295, 308, 321, 358, 395, 432, 445, 482, 495, 520, 557, 594, 631, 656, 681, 694, 707, 720, 745, 770, 783, 844, 893, 918, 955, 992, 1029, 1042, 1055, 1135, 1184, 1237], 148)) (by decide +kernel) (by decide +kernel) (by decide +kernel) (by decide) (law_sue hX hi hL hG ht hV hl hc hs nx)
    · exact lv_tableIn (tgt := 734) (off := 694) hx hb (by decide +kernel : decode cL_law 40 = .ok (.tableswitch 1262 0 32 #[148, 295, 308, 321, 358, 395, 432, 445, 482, 495, 520, 557, 594, 631, 656, 681, 694, 707, 720, 745, 770, 783, 844, 893, 918, 955, 992, 1029, 1042, 1055, 1135, 1184, 1237], 148)) (by decide +kernel) (by decide +kernel) (by decide +kernel) (by decide) (law_close hX hi hL hG ht hV hl hc hs nx)
    · exact lv_tableIn (tgt := 747) (off := 707) hx hb (by decide +kernel : decode cL_law 40 = .ok (.tableswitch 1262 0 32 #[148, 295, 308, 321, 358, 395, 432, 445, 482, 495, 520, 557, 594, 631, 656, 681, 694, 707, 720, 745, 770, 783, 844, 893, 918, 955, 992, 1029, 1042, 1055, 1135, 1184, 1237], 148)) (by decide +kernel) (by decide +kernel) (by decide +kernel) (by decide) (law_undo hX hi hL hG ht hV hl hc hs nx)
    · exact lv_tableIn (tgt := 760) (off := 720) hx hb (by decide +kernel : decode cL_law 40 = .ok (.tableswitch 1262 0 32 #[148, 295, 308, 321, 358, 395, 432, 445, 482, 495, 520, 557, 594, 631, 656, 681, 694, 707, 720, 745, 770, 783, 844, 893, 918, 955, 992, 1029, 1042, 1055, 1135, 1184, 1237], 148)) (by decide +kernel) (by decide +kernel) (by decide +kernel) (by decide) (law_judged hX hi hL hG ht hV hl hc hs nx)
    · exact lv_tableIn (tgt := 785) (off := 745) hx hb (by decide +kernel : decode cL_law 40 = .ok (.tableswitch 1262 0 32 #[148, 295, 308, 321, 358, 395, 432, 445, 482, 495, 520, 557, 594, 631, 656, 681, 694, 707, 720, 745, 770, 783, 844, 893, 918, 955, 992, 1029, 1042, 1055, 1135, 1184, 1237], 148)) (by decide +kernel) (by decide +kernel) (by decide +kernel) (by decide) (law_worth hX hi hL hG ht hV hl hc hs nx)
    · exact lv_tableIn (tgt := 810) (off := 770) hx hb (by decide +kernel : decode cL_law 40 = .ok (.tableswitch 1262 0 32 #[148, 295, 308, 321, 358, 395, 432, 445, 482, 495, 520, 557, 594, 631, 656, 681, 694, 707, 720, 745, 770, 783, 844, 893, 918, 955, 992, 1029, 1042, 1055, 1135, 1184, 1237], 148)) (by decide +kernel) (by decide +kernel) (by decide +kernel) (by decide) (law_news hX hi hL hG ht hV hl hc hs nx)
    · exact lv_tableIn (tgt := 823) (off := 783) hx hb (by decide +kernel : decode cL_law 40 = .ok (.tableswitch 1262 0 32 #[148, 295, 308, 321, 358, 395, 432, 445, 482, 495, 520, 557, 594, 631, 656, 681, 694, 707, 720, 745, 770, 783, 844, 893, 918, 955, 992, 1029, 1042, 1055, 1135, 1184, 1237], 148)) (by decide +kernel) (by decide +kernel) (by decide +kernel) (by decide) (law_gather hX hi hL hG ht hV hl hc hs nx)
    · exact lv_tableIn (tgt := 884) (off := 844) hx hb (by decide +kernel : decode cL_law 40 = .ok (.tableswitch 1262 0 32 #[148, 295, 308, 321, 358, 395, 432, 445, 482, 495, 520, 557, 594, 631, 656, 681, 694, 707, 720, 745, 770, 783, 844, 893, 918, 955, 992, 1029, 1042, 1055, 1135, 1184, 1237], 148)) (by decide +kernel) (by decide +kernel) (by decide +kernel) (by decide) (law_rate hX hi hL hG ht hV hl hc hs nx)
    · exact lv_tableIn (tgt := 933) (off := 893) hx hb (by decide +kernel : decode cL_law 40 = .ok (.tableswitch 1262 0 32 #[148, 295, 308, 321, 358, 395, 432, 445, 482, 495, 520, 557, 594, 631, 656, 681, 694, 707, 720, 745, 770, 783, 844, 893, 918, 955, 992, 1029, 1042, 1055, 1135, 1184, 1237], 148)) (by decide +kernel) (by decide +kernel) (by decide +kernel) (by decide) (law_free hX hi hL hG ht hV hl hc hs nx)
    · exact lv_tableIn (tgt := 958) (off := 918) hx hb (by decide +kernel : decode cL_law 40 = .ok (.tableswitch 1262 0 32 #[148, 295, 308, 321, 358, 395, 432, 445, 482, 495, 520, 557, 594, 631, 656, 681, 694, 707, 720, 745, 770, 783, 844, 893, 918, 955, 992, 1029, 1042, 1055, 1135, 1184, 1237], 148)) (by decide +kernel) (by decide +kernel) (by decide +kernel) (by decide) (law_agree hX hi hL hG ht hV hl hc hs nx)
    · exact lv_tableIn (tgt := 995) (off := 955) hx hb (by decide +kernel : decode cL_law 40 = .ok (.tableswitch 1262 0 32 #[148, 295, 308, 321, 358, 395, 432, 445, 482, 495, 520, 557, 594, 631, 656, 681, 694, 707, 720, 745, 770, 783, 844, 893, 918, 955, 992, 1029, 1042, 1055, 1135, 1184, 1237], 148)) (by decide +kernel) (by decide +kernel) (by decide +kernel) (by decide) (law_tale hX hi hL hG ht hV hl hc hs nx)
    · exact lv_tableIn (tgt := 1032) (off := 992) hx hb (by decide +kernel : decode cL_law 40 = .ok (.tableswitch 1262 0 32 #[148, 295, 308, 321, 358, 395, 432, 445, 482, 495, 520, 557, 594, 631, 656, 681, 694, 707, 720, 745, 770, 783, 844, 893, 918, 955, 992, 1029, 1042, 1055, 1135, 1184, 1237], 148)) (by decide +kernel) (by decide +kernel) (by decide +kernel) (by decide) (law_knew hX hi hL hG ht hV hl hc hs nx)
    · exact lv_tableIn (tgt := 1069) (off := 1029) hx hb (by decide +kernel : decode cL_law 40 = .ok (.tableswitch 1262 0 32 #[148, 295, 308, 321, 358, 395, 432, 445, 482, 495, 520, 557, 594, 631, 656, 681, 694, 707, 720, 745, 770, 783, 844, 893, 918, 955, 992, 1029, 1042, 1055, 1135, 1184, 1237], 148)) (by decide +kernel) (by decide +kernel) (by decide +kernel) (by decide) (law_secret hX hi hL hG ht hV hl hc hs nx)
    · exact lv_tableIn (tgt := 1082) (off := 1042) hx hb (by decide +kernel : decode cL_law 40 = .ok (.tableswitch 1262 0 32 #[148, 295, 308, 321, 358, 395, 432, 445, 482, 495, 520, 557, 594, 631, 656, 681, 694, 707, 720, 745, 770, 783, 844, 893, 918, 955, 992, 1029, 1042, 1055, 1135, 1184, 1237], 148)) (by decide +kernel) (by decide +kernel) (by decide +kernel) (by decide) (law_next hX hi hL hG ht hV hl hc hs nx)
    · exact lv_tableIn (tgt := 1095) (off := 1055) hx hb (by decide +kernel : decode cL_law 40 = .ok (.tableswitch 1262 0 32 #[148, 295, 308, 321, 358, 395, 432, 445, 482, 495, 520, 557, 594, 631, 656, 681, 694, 707, 720, 745, 770, 783, 844, 893, 918, 955, 992, 1029, 1042, 1055, 1135, 1184, 1237], 148)) (by decide +kernel) (by decide +kernel) (by decide +kernel) (by decide) (law_rests hX hi hL hG ht hV hl hc hs nx)
    · exact lv_tableIn (tgt := 1175) (off := 1135) hx hb (by decide +kernel : decode cL_law 40 = .ok (.tableswitch 1262 0 32 #[148, 295, 308, 321, 358, 395, 432, 445, 482, 495, 520, 557, 594, 631, 656, 681, 694, 707, 720, 745, 770, 783, 844, 893, 918, 955, 992, 1029, 1042, 1055, 1135, 1184, 1237], 148)) (by decide +kernel) (by decide +kernel) (by decide +kernel) (by decide) (law_lustra hX hi hL hG ht hV hl hc hs nx)
    · exact lv_tableIn (tgt := 1224) (off := 1184) hx hb (by decide +kernel : decode cL_law 40 = .ok (.tableswitch 1262 0 32 #[148, 295, 308, 321, 358, 395, 432, 445, 482, 495, 520, 557, 594, 631, 656, 681, 694, 707, 720, 745, 770, 783, 844, 893, 918, 955, 992, 1029, 1042, 1055, 1135, 1184, 1237], 148)) (by decide +kernel) (by decide +kernel) (by decide +kernel) (by decide) (law_mark hX hi hL hG ht hV hl hc hs nx)
    · exact lv_tableIn (tgt := 1277) (off := 1237) hx hb (by decide +kernel : decode cL_law 40 = .ok (.tableswitch 1262 0 32 #[148, 295, 308, 321, 358, 395, 432, 445, 482, 495, 520, 557, 594, 631, 656, 681, 694, 707, 720, 745, 770, 783, 844, 893, 918, 955, 992, 1029, 1042, 1055, 1135, 1184, 1237], 148)) (by decide +kernel) (by decide +kernel) (by decide +kernel) (by decide) (law_count hX hi hL hG ht hV hl hc hs nx)
    · refine lv_tableOut (tgt := 1302) hx hb (by decide +kernel : decode cL_law 40 = .ok (.tableswitch 1262 0 32 #[148, 295, 308, 321, 358, 395, 432, 445, 482, 495, 520, 557, 594, 631, 656, 681, 694, 707, 720, 745, 770, 783, 844, 893, 918, 955, 992, 1029, 1042, 1055, 1135, 1184, 1237], 148)) (Or.inr (by rw [nI_toInt (by omega)]; omega)) (by decide) ?_
      exact W.widen (k := 277 + j + 1) (n := 18473 + 6 * j + 6) (by omega) (by omega) (nx G f H locs ls hG ht hV hl)
