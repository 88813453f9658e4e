/-! THE LAW: its start -/
theorem w_1_25 : (Jvm.Cond.classLink "TaxFarmLaw" (8 : Nat) "TaxFarm") ∈ tW := tWm (tm1 (List.mem_of_getElem? (i := 25) rfl)) rfl
theorem w_1_27 : (Jvm.Cond.methodLink "TaxFarmLaw" (15 : Nat) ({ cls := "TaxFarm", name := "<init>", desc := "()V" } : Jvm.MethodName)) ∈ tW := tWm (tm1 (List.mem_of_getElem? (i := 27) rfl)) rfl
theorem w_1_28 : (Jvm.Cond.instanceMethod ({ cls := "TaxFarm", name := "<init>", desc := "()V" } : Jvm.MethodName)) ∈ tW := tWm (tm1 (List.mem_of_getElem? (i := 28) rfl)) rfl
theorem w_1_29 : (Jvm.Cond.code ({ cls := "TaxFarm", name := "<init>", desc := "()V" } : Jvm.MethodName) prog_1_method_1_code (2 : Nat) (Option.none : Option Jvm.ClassFile.FieldType)) ∈ tW := tWm (tm1 (List.mem_of_getElem? (i := 29) rfl)) rfl
theorem w_6_66 : (Jvm.Cond.classLink "TaxFarmLaw" (16 : Nat) "TaxFarmModel") ∈ tW := tWm (tm6 (List.mem_of_getElem? (i := 66) rfl)) rfl
theorem w_6_67 : (Jvm.Cond.methodLink "TaxFarmLaw" (18 : Nat) ({ cls := "TaxFarmModel", name := "<init>", desc := "()V" } : Jvm.MethodName)) ∈ tW := tWm (tm6 (List.mem_of_getElem? (i := 67) rfl)) rfl
theorem w_6_68 : (Jvm.Cond.instanceMethod ({ cls := "TaxFarmModel", name := "<init>", desc := "()V" } : Jvm.MethodName)) ∈ tW := tWm (tm6 (List.mem_of_getElem? (i := 68) rfl)) rfl
theorem w_6_69 : (Jvm.Cond.code ({ cls := "TaxFarmModel", name := "<init>", desc := "()V" } : Jvm.MethodName) prog_13_method_4_code (1 : Nat) (Option.none : Option Jvm.ClassFile.FieldType)) ∈ tW := tWm (tm6 (List.mem_of_getElem? (i := 69) rfl)) rfl
theorem lHK.same2 {E : tE} {A : Nat → Prop} {U : State} {g : JFrame} {mk : MethodId} {a : Array Value} (h : lHK E A U) : lHK E A (U.calling g mk a) :=
  ⟨vk_S.moved (u := U) (U := U.calling g mk a) (Vm.Alike.refl U.vm) h.1, va_Z.moved (u := U) (U := U.calling g mk a) (Vm.Alike.refl U.vm) h.2.1, va_Zq.moved (u := U) (U := U.calling g mk a) (Vm.Alike.refl U.vm) h.2.2⟩
theorem tKN.same2 {E : tE} {U : State} {g : JFrame} {mk : MethodId} {a : Array Value} (q3 : tKN E U) : tKN E (U.calling g mk a) := by
  refine ⟨va_K.moved (u := U) (U := U.calling g mk a) (Vm.Alike.refl U.vm) q3.1, fun w hw => ?_, fun z hz => (q3.2.2 z hz).same rfl⟩
  have h1 := q3.2.1 w hw
  simp only [tNest, List.mem_cons, List.not_mem_nil, or_false] at hw
  rcases hw with rfl | rfl | rfl | rfl
  · exact h1.same rfl rfl
  · exact h1.same rfl rfl
  · exact h1.same rfl rfl
  · exact h1.same rfl rfl
theorem zk_blind {E : tE} {A : Nat → Prop} {h0 sz : Nat} : FrameBlind (va_Pc [.ref h0] (zkB E A h0 sz)) := fun a U g mk q => by
  obtain ⟨q0, q1, q2, q3, q4, q5, q6, q7⟩ := q
  exact ⟨q0, q1, q2, q3, q4, q5.same, q6.same2, q7.same2⟩
section KCALL
variable {E : tE} {A : Nat → Prop} {p : Program} {l : Launch} {e : Env} {R : Room} {s : State} {m : MethodId} {args : Array Value} {below : List Frame} {meth : Method} {c : Code} {own : String} {cc : ByteArray} {nL : Nat} {H : Heap} {locs : List Loc} {cells slots : Nat} {Q : State → Prop} {pc : Nat} {ls : Array Slot} {rest : List Value} {ws : va_W}
theorem kz_call {index q : Nat} (hX : mX E p s m args c own cc nL) (hKN : tKN E s) (hHK : lHK E A s) (hA : ∀ q : Nat, s.heap.size ≤ q → A q) (w1 : Cond.methodLink own index yX11_init ∈ tW) (w2 : Cond.instanceMethod yX11_init ∈ tW) (w4 : Cond.initialized yX11_init.cls ∈ tW) (w5 : Cond.code yX11_init cX11_init 1 none ∈ tW) (hR : 13 ≤ R.frames ∧ 788 ≤ R.locals) (hl : ls.size = nL) (hW : (rest.map fun v => v.category).sum ≤ 8) (hdg : decode cc pc = .ok (.invokespecial index, 3)) (hf : cells + 21 ≤ R.cells ∧ slots + 11482 ≤ R.slots) (hV : nV E A s (kW E q) H locs)
    (kk : ∀ (u : (Nat → Nat → Nat) × tH) (H1 : Heap) (locs1 : List Loc), kPost E q u → nV E A s (tWd (E.1, E.2.1, u.1) u.2) H1 locs1 → W p l e R s m args below meth c H1 locs1 (cells + 21) (slots + 11482) Q (F0 m (pc + 3) ls rest)) : W p l e R s m args below meth c H locs cells slots Q (F0 m pc ls (.ref q :: rest)) := by
  obtain ⟨hx, hb, hml, hown, hts, hK⟩ := hX
  obtain ⟨hP, hD, hS⟩ := hV
  refine va_callv (va_runI (As := []) (rest := rest) (b := q) (Ts := tW) ⟨hx, hb, hml, hown, hts⟩ (n_X11 l E A q H.size) (cwI 0 hts (n_good w5) rfl rfl rfl (hts _ w4) (hts _ w1) (hts _ w2) rfl (by decide +kernel) ⟨hR.1, hR.2⟩) ⟨zk_blind, fun U hU hW => ⟨rfl, by rw [hU], by rw [hU]; exact hP, hD, fun x hx => hA x (Nat.le_trans hS.1 hx), hK.warm hW, hKN.warm hW, ?_⟩⟩ rfl rfl hl rfl (lv_room hW) hdg hf) hS (fun x _ h => h) (fun x h => h) (fun u t H1 locs1 ht hvm hu hB hz1 hk1 hS1 => ?_)
  · refine ⟨?_, ?_, ?_⟩
    · rw [hU]; exact (hHK.1.kept hS.2.1).moved hW.alike
    · rw [hU]; exact (hHK.2.1.kept hS.2.1).moved hW.alike
    · rw [hU]; exact (hHK.2.2.kept hS.2.1).moved hW.alike
  · obtain ⟨hP1, hD1⟩ := hB
    rw [ht] at hP1
    exact kk u H1 locs1 hu ⟨hP1, hD1, hS1⟩
theorem m_new {ci N index : Nat} {C : String} {T : u_T} {ty : Nat → FieldType} {fs : List Value} (hX : mX E p s m args c own cc nL) (hA : ∀ q : Nat, s.heap.size ≤ q → A q) (hcl : tCl ci C T N ty) (hlink : Cond.classLink own index C ∈ tW) (hinst : Cond.instantiable C N ∈ tW) (hini : Cond.initialized C ∈ tW) (hfs : ∀ j, j < N → defaultValue (ty j) = vp_V fs j) (hcells : cells + 1 ≤ R.cells) (hslots : slots + N ≤ R.slots) (hdg : decode cc pc = .ok (.new index, 3)) (hV : nV E A s ws H locs)
    (kk : ∀ (q : Nat) (H1 : Heap), nV E A s (ws ++ [(q, .inr (ci, fs))]) H1 locs → W p l e R s m args below meth c H1 locs (cells + 1) (slots + N) Q (F0 m (pc + 3) ls (.ref q :: rest))) : W p l e R s m args below meth c H locs cells slots Q (F0 m pc ls rest) := by
  obtain ⟨hx, hb, hml, hown, hts, hK⟩ := hX
  obtain ⟨hc, hws, hcm, hci, hty, hnm, hT, hlen⟩ := hcl
  obtain ⟨hP, hD, hS⟩ := hV
  exact va_new (C := C) (T := T) (N := N) (ci := ci) hx hb hts hws ty hty hown (hts _ hlink) (hts _ hinst) (hts _ hini) hK.1 hP hD hS hA hc hfs hcells hslots hdg (fun q H1 a b c => kk q H1 ⟨a, b, c⟩)
theorem m_newL (hX : mX E p s m args c own cc nL) (hA : ∀ q : Nat, s.heap.size ≤ q → A q) (hcells : cells + 1 ≤ R.cells) (hslots : slots + 1 ≤ R.slots) (hdg : decode cc pc = .ok (.newarray .long, 2)) (hV : nV E A s ws H locs)
    (kk : ∀ (q : Nat) (H1 : Heap), nV E A s (ws ++ [(q, lgC E fun _ => 0)]) H1 locs → W p l e R s m args below meth c H1 locs (cells + 1) (slots + 1) Q (F0 m (pc + 2) ls (.ref q :: rest))) : W p l e R s m args below meth c H locs cells slots Q (F0 m pc ls (.int 1 :: rest)) := by
  obtain ⟨hx, hb, hml, hown, hts, hK⟩ := hX
  obtain ⟨hP, hD, hS⟩ := hV
  refine va_newa (atype := .long) (ty := .long) (n := 1) (N' := 1) (a0 := (1, .inr (.inl fun _ => 0))) hx hb (hts _ w_1_101) rfl hK.1 hP hD hS hA (fun _ => rfl) (by decide) (by decide) (by decide) hcells hslots hdg (fun q cA H1 hK1 hP1 hD1 hS1 => ?_)
  have e : cA = E.2.1 1 := n_nm (ty := .long) (fun _ h => h) _ _ (hK1.2 (ttys E).length (cA, .long) (by rw [List.getElem?_append_right (Nat.le_refl _), Nat.sub_self]; rfl)).2 (hK.1.2 1 (E.2.1 1, .long) rfl).2
  rw [e] at hP1 hD1
  exact kk q H1 ⟨hP1, hD1, hS1⟩
end KCALL
set_option maxRecDepth 100000 in
set_option maxHeartbeats 4000000 in
theorem whole_start {p : Program} {e : Env} {s : State} {m : MethodId} {below : List Frame} {meth : Method} {c : Code} (l : Launch) (htr : l.stackTraces = false) {b L : Nat} {xs : Nat → Int32} (hL : L ≤ 3584) (C0 : lw_At p s m meth c b L xs) : W p l e room_1 s m #[Value.ref b] below meth c s.heap [] 0 0 (lw_Z below #[Value.ref b] s) (entryFrame m ([Value.ref b] : List Value).toArray 7) := by
  obtain ⟨hx, hb, hr, hml, hown, hts0, hXs, hbl, hlocks, hgv⟩ := id C0
  have hts : ∀ w ∈ tW, w.before #[Value.ref b] s = true := fun w h => hts0 w (tW_tbl w h)
  obtain ⟨E, hK, hKN, hHK, hTh, hs1, hs2⟩ := lw_entry hts0 hgv
  obtain ⟨A, hAd⟩ : ∃ A, A = lwA s := ⟨_, rfl⟩
  have hA : ∀ q : Nat, s.heap.size ≤ q → A q := fun q h => by rw [hAd]; exact h
  have hA2 : ∀ q : Nat, A q → s.heap.size ≤ q := fun q h => by rw [hAd] at h; exact h
  have hAl : ∀ q : Nat, q < s.heap.size → ¬ A q := fun q h1 h2 => by have := hA2 q h2; omega
  rw [← hAd] at hHK
  clear hAd
  have hX : mX E p s m #[Value.ref b] c "TaxFarmLaw" cL_law 7 := ⟨hx, hb, hml, hown, hts, hK⟩
  have hl := lv_entry ([.ref b]) (n := 7) (Nat.le_of_ble_eq_true rfl)
  rw [lg_entry_eq]
  refine (?_ : ∀ ls : Array Slot, lv_has ls 7 [(0, .ref b)] → W p l e room_1 s m #[Value.ref b] below meth c s.heap [] 0 0 (lw_Z below #[Value.ref b] s) (F0 m 0 ls [])) _ hl
  intro ls hl
  have hV : nV E A s [] s.heap [] := ⟨fun k q h => by simp at h, ⟨fun i j p q h => by simp at h, fun k q h => by simp at h⟩, va_S.rf⟩
  refine m_new (fs := fdX10) hX hA tc_10 w_1_25 w_1_26 w_1_1 dfX10 (Nat.le_of_ble_eq_true rfl) (Nat.le_of_ble_eq_true rfl) (by decide +kernel : decode cL_law 0 = .ok (.new 8, 3)) hV (fun q1 H hV => ?_)
  refine lv_dup hx hb (by decide +kernel : decode cL_law 3 = .ok (.dup, 1)) rfl ?_
  refine n_callz (n := 0) (as := []) (rest := [.ref q1]) hX hA (n_X10 l E) w_1_27 w_1_28 w_1_1 w_1_29 rfl (by decide +kernel) rfl ⟨Nat.le_of_ble_eq_true rfl, Nat.le_of_ble_eq_true rfl⟩ hl.1 (Nat.le_of_ble_eq_true rfl) (by decide +kernel : decode cL_law 4 = .ok (.invokespecial 15, 3)) ⟨Nat.le_of_ble_eq_true rfl, Nat.le_of_ble_eq_true rfl⟩ hV (fun u H locs hu hV2 => ?_)
  have hu : u 10 0 = q1 := hu
  subst hu
  refine lv_astore_n (lv' := [(1, .ref (u 10 0)), (0, .ref b)]) hx hb (by decide +kernel : decode cL_law 7 = .ok (.astore_n 1, 1)) rfl hl (by decide) rfl (fun ls hl => ?_)
  obtain ⟨E1, hE1⟩ : ∃ z : tE, z = (E.1, E.2.1, fun c o => cond (Nat.beq c 20) (E.2.2 20 o) (cond (Nat.beq c 21) (E.2.2 21 o) (cond (Nat.beq c 22) (E.2.2 22 o) (u c o)))) := ⟨_, rfl⟩
  have hV : nV E1 A s (tCo E1 G00 L10) H locs := by
    rw [hE1, tCo_E (g' := u) (fun c o h => by
      have n0 : ∀ k, k = 20 ∨ k = 21 ∨ k = 22 → Nat.beq c k = false := fun k hk => by
        cases hb : Nat.beq c k with
        | false => rfl
        | true => exact absurd (Nat.eq_of_beq_eq_true hb) (by unfold okc1 at h; omega)
      show cond (Nat.beq c 20) _ (cond (Nat.beq c 21) _ (cond (Nat.beq c 22) _ (u c o))) = u c o
      rw [n0 20 (by omega), n0 21 (by omega), n0 22 (by omega)]
      rfl)]
    exact hV2
  have hK1 : nK E1 s := by rw [hE1]; exact hK
  have hKN1 : tKN E1 s := by rw [hE1]; exact hKN
  have hHK1 : lHK E1 A s := by rw [hE1]; exact hHK
  have h10 : u 10 0 = E1.2.2 10 0 := by rw [hE1]; rfl
  rw [h10] at hl
  clear hE1 hV2 hX
  have hX : mX E1 p s m #[Value.ref b] c "TaxFarmLaw" cL_law 7 := ⟨hx, hb, hml, hown, hts, hK1⟩
  refine m_new (fs := fdX11) hX hA tc_11 w_6_66 w_6_64 w_1_13 dfX11 (Nat.le_of_ble_eq_true rfl) (Nat.le_of_ble_eq_true rfl) (by decide +kernel : decode cL_law 8 = .ok (.new 16, 3)) hV (fun q2 H hV => ?_)
  refine lv_dup hx hb (by decide +kernel : decode cL_law 11 = .ok (.dup, 1)) rfl ?_
  refine kz_call (rest := [.ref q2]) hX hKN1 hHK1 hA w_6_67 w_6_68 w_1_13 w_6_69 ⟨Nat.le_of_ble_eq_true rfl, Nat.le_of_ble_eq_true rfl⟩ hl.1 (Nat.le_of_ble_eq_true rfl) (by decide +kernel : decode cL_law 12 = .ok (.invokespecial 18, 3)) ⟨Nat.le_of_ble_eq_true rfl, Nat.le_of_ble_eq_true rfl⟩ hV (fun u2 H locs hu2 hV => ?_)
  obtain ⟨g10, g11, hG, htG, g20, g21, g22⟩ := hu2
  refine lv_astore_n (lv' := [(2, .ref q2), (1, .ref (E1.2.2 10 0)), (0, .ref b)]) hx hb (by decide +kernel : decode cL_law 15 = .ok (.astore_n 2, 1)) rfl hl (by decide) rfl (fun ls hl => ?_)
  refine lv_iconst (v := 1) hx hb (by decide +kernel : decode cL_law 16 = .ok (.iconst 1, 1)) (by decide) ?_
  refine m_newL hX hA (Nat.le_of_ble_eq_true rfl) (Nat.le_of_ble_eq_true rfl) (by decide +kernel : decode cL_law 17 = .ok (.newarray .long, 2)) hV (fun out H hV => ?_)
  refine lv_astore_n (lv' := [(3, .ref out), (2, .ref q2), (1, .ref (E1.2.2 10 0)), (0, .ref b)]) hx hb (by decide +kernel : decode cL_law 19 = .ok (.astore_n 3, 1)) rfl hl (by decide) rfl (fun ls hl => ?_)
  refine lv_iconst (v := nI 0) hx hb (by decide +kernel : decode cL_law 20 = .ok (.iconst 0, 1)) (by decide +kernel) ?_
  refine lv_istore (lv' := [(4, .int (nI 0)), (3, .ref out), (2, .ref q2), (1, .ref (E1.2.2 10 0)), (0, .ref b)]) hx hb (by decide +kernel : decode cL_law 21 = .ok (.istore 4, 2)) hl (by decide) rfl (fun ls hl => ?_)
  obtain ⟨E2, hE2⟩ : ∃ z : tE, z = (E1.1, E1.2.1, u2.1) := ⟨_, rfl⟩
  have hV : nV E2 A s (tWd E2 u2.2 ++ [(out, lgC E2 fun _ => 0)]) H locs := by rw [hE2]; exact hV
  have hKN2 : tKN E2 s := by
    rw [hE2]
    exact ⟨hKN1.1, hKN1.2.1, fun q hq => by show vk_R q.1 q.2.1 q.2.2.1 (u2.1 20 q.2.2.2) s; rw [g20]; exact hKN1.2.2 q hq⟩
  have hHK2 : lHK E2 A s := by
    rw [hE2]
    refine ⟨?_, hHK1.2⟩
    show vk_S 15 tslen tsbyt (u2.1 20) (u2.1 21) A s s.heap
    rw [g20, g21]
    exact hHK1.1
  have h10 : E1.2.2 10 0 = E2.2.2 10 0 := by rw [hE2]; exact g10.symm
  have h11 : q2 = E2.2.2 11 0 := by rw [hE2]; exact g11.symm
  have hI : tInj E2 := by
    have hD := va_D.iff.mp hV.2.1
    obtain ⟨d3, -, -⟩ := List.pairwise_append.mp hD.1
    exact tInj_of (G := u2.2) (A := A) (va_D.iff.mpr ⟨d3, fun z hz => hD.2 z (List.mem_append_left _ hz)⟩)
  rw [h10, h11] at hl
  clear hE2
  refine W.widen (k := 277 + 0) (n := 18473 + 6 * 0) (Nat.le_of_ble_eq_true rfl) (Nat.le_of_ble_eq_true rfl) ?_
  exact law_loop (E := E2) (A := A) ⟨⟨hx, hb, hml, hown, hts, hKN2, hHK2, hI⟩, hAl, hXs, hbl, htr, hTh, hs1, hs2⟩ hL hr hlocks hA2 512 0 rfl u2.2 (fun _ => 0) H locs ls hG htG hV (lv_sub hl [0, 4, 3, 2, 1] rfl)
