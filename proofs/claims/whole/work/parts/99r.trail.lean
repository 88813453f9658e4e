/-! CONSTRUCTORS: Trail -/
theorem w_1_236 : (Jvm.Cond.instantiable "TaxFarm$State" (15 : Nat)) ∈ tW := tWm (tm1 (List.mem_of_getElem? (i := 236) rfl)) rfl
theorem w_1_238 : (Jvm.Cond.instanceMethod ({ cls := "TaxFarm$State", name := "<init>", desc := "(LTaxFarm$Province;)V" } : Jvm.MethodName)) ∈ tW := tWm (tm1 (List.mem_of_getElem? (i := 238) rfl)) rfl
theorem w_1_239 : (Jvm.Cond.code ({ cls := "TaxFarm$State", name := "<init>", desc := "(LTaxFarm$Province;)V" } : Jvm.MethodName) prog_9_method_1_code (2 : Nat) (Option.none : Option Jvm.ClassFile.FieldType)) ∈ tW := tWm (tm1 (List.mem_of_getElem? (i := 239) rfl)) rfl
theorem w_2_74 : (Jvm.Cond.methodLink "TaxFarm$Trail" (3 : Nat) ({ cls := "java/lang/Object", name := "<init>", desc := "()V" } : Jvm.MethodName)) ∈ tW := tWm (tm2 (List.mem_of_getElem? (i := 74) rfl)) rfl
theorem w_2_75 : (Jvm.Cond.classLink "TaxFarm$Trail" (11 : Nat) "TaxFarm$State") ∈ tW := tWm (tm2 (List.mem_of_getElem? (i := 75) rfl)) rfl
theorem w_2_77 : (Jvm.Cond.methodLink "TaxFarm$Trail" (24 : Nat) ({ cls := "TaxFarm$State", name := "<init>", desc := "(LTaxFarm$Province;)V" } : Jvm.MethodName)) ∈ tW := tWm (tm2 (List.mem_of_getElem? (i := 77) rfl)) rfl
theorem arrV_ext {cA : ClassId} {n : Nat} {f g : Nat → Value} (h : ∀ i, i < n → f i = g i) : arrV cA n f = arrV cA n g := by
  unfold arrV
  congr 1
  apply Array.ext
  · simp
  · intro i h1 h2
    simp only [Array.getElem_ofFn]
    exact h i (by simpa using h1)
theorem va_at_q {D : va_G} {cl : List vw_C} {a n : Nat} {cA : ClassId} {f g : Nat → Option Nat} {H : Heap} (hfg : ∀ i, i < n → f i = g i) (h : va_at D cl (a, .inl (cA, n, .inr (.inr (.inr (.inr f))))) H) : va_at D cl (a, .inl (cA, n, .inr (.inr (.inr (.inr g))))) H := by
  have h : H[a]? = some (vp_cell cA (n, .inr (.inr (.inr (.inr f))))) := h
  show H[a]? = some (vp_cell cA (n, .inr (.inr (.inr (.inr g)))))
  rw [h, vp_cell_q, vp_cell_q, arrV_ext fun i hi => by rw [hfg i hi]]
theorem va_at_i {D : va_G} {cl : List vw_C} {a n : Nat} {cA : ClassId} {f g : Nat → Int32} {H : Heap} (hfg : ∀ i, i < n → f i = g i) (h : va_at D cl (a, .inl (cA, n, .inl f)) H) : va_at D cl (a, .inl (cA, n, .inl g)) H := by
  have h : H[a]? = some (vp_cell cA (n, .inl f)) := h
  show H[a]? = some (vp_cell cA (n, .inl g))
  rw [h, vp_cell_i, vp_cell_i, arrV_ext fun i hi => by rw [hfg i hi]]
/-- another text of one cell -/
theorem nV.cell {E : tE} {A : Nat → Prop} {s : State} {x y : Nat × va_E} {w : va_W} {a : Nat} {e e' : va_E} {H : Heap} {locs : List Loc} (h : nV E A s (x :: (a, e) :: w) H locs) (he : va_at E.1 vwCl (a, e) H → va_at E.1 vwCl (a, e') H) : nV E A s (x :: (a, e') :: w) H locs := by
  obtain ⟨hP, hD, hS⟩ := h
  obtain ⟨d1, d2⟩ := va_D.iff.mp hD
  refine ⟨va_P.iff.mpr fun q hq => ?_, va_D.iff.mpr ⟨?_, fun q hq => ?_⟩, hS⟩
  · rcases List.mem_cons.mp hq with h | h
    · exact va_P.iff.mp hP q (by rw [h]; exact List.mem_cons_self)
    · rcases List.mem_cons.mp h with h | h
      · rw [h]; exact he (va_P.iff.mp hP (a, e) (List.mem_cons_of_mem _ List.mem_cons_self))
      · exact va_P.iff.mp hP q (List.mem_cons_of_mem _ (List.mem_cons_of_mem _ h))
  · have h1 : ((x :: (a, e) :: w).map (·.1)).Pairwise (· ≠ ·) := List.pairwise_map.mpr d1
    exact List.pairwise_map.mp (show ((x :: (a, e') :: w).map (·.1)).Pairwise (· ≠ ·) from h1)
  · rcases List.mem_cons.mp hq with h | h
    · exact d2 q (by rw [h]; exact List.mem_cons_self)
    · rcases List.mem_cons.mp h with h | h
      · rw [h]; exact d2 (a, e) (List.mem_cons_of_mem _ List.mem_cons_self)
      · exact d2 q (List.mem_cons_of_mem _ (List.mem_cons_of_mem _ h))
def stL (E : tE) (hp : Nat) (q : Nat → Nat → Nat) : Nat → va_W
  | 0 => []
  | n + 1 => stL E hp q n ++ nW7 E hp (q n)
theorem stL_congr {E : tE} {hp : Nat} {q q' : Nat → Nat → Nat} : ∀ (n : Nat), (∀ i, i < n → q i = q' i) → stL E hp q n = stL E hp q' n
  | 0, _ => rfl
  | n + 1, h => by
    show stL E hp q n ++ nW7 E hp (q n) = stL E hp q' n ++ nW7 E hp (q' n)
    rw [stL_congr n (fun i hi => h i (by omega)), h n (by omega)]
theorem nW7_congr {E : tE} {hp : Nat} {a b : Nat → Nat} (h : ∀ k, k < 9 → a k = b k) : nW7 E hp a = nW7 E hp b := by
  unfold nW7
  rw [h 0 (by omega), h 2 (by omega), h 3 (by omega), h 4 (by omega), h 5 (by omega), h 6 (by omega), h 7 (by omega), h 8 (by omega)]
theorem stL_congr2 {E : tE} {hp : Nat} {q q' : Nat → Nat → Nat} : ∀ (n : Nat), (∀ i, i < n → ∀ k, k < 9 → q i k = q' i k) → stL E hp q n = stL E hp q' n
  | 0, _ => rfl
  | n + 1, h => by
    show stL E hp q n ++ nW7 E hp (q n) = stL E hp q' n ++ nW7 E hp (q' n)
    rw [stL_congr2 n (fun i hi => h i (by omega)), nW7_congr (h n (by omega))]
def trU (h0 q1 : Nat) (q : Nat → Nat → Nat) : Nat → Nat := fun j => if j = 0 then h0 else if j = 1 then q1 else if j < 100 then 0 else q (j / 100 - 1) (j % 100)
def rfF (q : Nat → Nat → Nat) (n : Nat) : Nat → Option Nat := fun j => if j < n then some (q j 0) else none
def qUp (q : Nat → Nat → Nat) (n : Nat) (u : Nat → Nat) : Nat → Nat → Nat := fun j => if j = n then u else q j
theorem stL_up {E : tE} {hp n : Nat} {q : Nat → Nat → Nat} {u : Nat → Nat} : stL E hp q n ++ nW7 E hp u = stL E hp (qUp q n u) (n + 1) := by
  show _ = stL E hp (qUp q n u) n ++ nW7 E hp (qUp q n u n)
  rw [stL_congr (q := qUp q n u) (q' := q) n (fun i hi => by unfold qUp; rw [if_neg (by omega)])]
  unfold qUp
  rw [if_pos rfl]
theorem rfF_up {n : Nat} {q : Nat → Nat → Nat} {u : Nat → Nat} : va_up (rfF q n) n (some (u 0)) = rfF (qUp q n u) (n + 1) := by
  funext j
  unfold va_up rfF qUp
  by_cases h : j = n
  · rw [if_pos h, if_pos (by omega), if_pos h]
  · rw [if_neg h]
    by_cases h2 : j < n
    · rw [if_pos h2, if_pos (by omega), if_neg h]
    · rw [if_neg h2, if_neg (by omega)]
set_option maxRecDepth 100000 in
theorem trail_loop {l : Launch} {E : tE} {hp h0 sl : Nat} {p : Program} {e : Env} {s : State} {m : MethodId} {args : Array Value} {below : List Frame} {meth : Method} {c : Code} {A : Nat → Prop} {pl : va_W} {Q : State → Prop} (hX : nX E A p s m args meth c RX9 cX9_init 3)
    (kk : ∀ (q : Nat → Nat → Nat) (H : Heap) (locs : List Loc) (ls : Array Slot), nV E A s ((h0, .inr (9, [.ref sl, .int 0, .int 0])) :: (sl, .inl (E.2.1 4, 17, .inr (.inr (.inr (.inr (rfF q 17)))))) :: (pl ++ stL E hp q 17)) H locs → lv_has ls 3 [(2, .int (nI 17)), (0, .ref h0), (1, .ref hp)] → W p l e (nR 2 137 952) s m args below meth c H locs (1 + 8 * 17) (17 + 55 * 17) Q (F0 m 51 ls [])) :
    ∀ (n i : Nat), i + n = 17 → ∀ (q : Nat → Nat → Nat) (H : Heap) (locs : List Loc) (ls : Array Slot), nV E A s ((h0, .inr (9, [.ref sl, .int 0, .int 0])) :: (sl, .inl (E.2.1 4, 17, .inr (.inr (.inr (.inr (rfF q i)))))) :: (pl ++ stL E hp q i)) H locs → lv_has ls 3 [(2, .int (nI i)), (0, .ref h0), (1, .ref hp)] → W p l e (nR 2 137 952) s m args below meth c H locs (1 + 8 * i) (17 + 55 * i) Q (F0 m 25 ls []) := by
  have hx := hX.1
  have hb := hX.2.1
  intro n
  induction n with
  | zero =>
    intro i hi q H locs ls hV hl
    have hi : i = 17 := by omega
    subst hi
    refine lv_iload_n hx hb (by decide +kernel : decode cX9_init 25 = .ok (.iload_n 2, 1)) rfl (lv_at hl 0 rfl) ?_
    refine lv_bipush (v := 17) hx hb (by decide +kernel : decode cX9_init 26 = .ok (.bipush 17, 2)) (by decide) ?_
    refine lv_icmp_ge (tgt := 51) hx hb (by decide +kernel : decode cX9_init 28 = .ok (.if_icmp .ge 23, 3)) (by decide) (fun _ => kk q H locs ls hV hl) (fun h => absurd (by decide +kernel) h)
  | succ n ih =>
    intro i hi q H locs ls hV hl
    have hR1 : (nR 2 137 952).cells = 137 := rfl
    have hR2 : (nR 2 137 952).slots = 952 := rfl
    refine lv_iload_n hx hb (by decide +kernel : decode cX9_init 25 = .ok (.iload_n 2, 1)) rfl (lv_at hl 0 rfl) ?_
    refine lv_bipush (v := 17) hx hb (by decide +kernel : decode cX9_init 26 = .ok (.bipush 17, 2)) (by decide) ?_
    refine lv_icmp_ge (tgt := 51) hx hb (by decide +kernel : decode cX9_init 28 = .ok (.if_icmp .ge 23, 3)) (by decide) (fun h => absurd h (by rw [show (17 : Int32) = nI 17 from by decide +kernel]; exact nI_ge (by omega) (by omega))) (fun _ => ?_)
    refine lv_aload_n hx hb (by decide +kernel : decode cX9_init 31 = .ok (.aload_n 0, 1)) rfl (lv_at hl 1 rfl) ?_
    refine n_get (k := 0) (v := .ref sl) hX tc_9 w_2_78 (by decide +kernel : decode cX9_init 32 = .ok (.getfield 13, 3)) (by decide) rfl hV ?_
    refine lv_iload_n hx hb (by decide +kernel : decode cX9_init 35 = .ok (.iload_n 2, 1)) rfl (lv_at hl 0 rfl) ?_
    refine n_new (fs := fdX7) hX tc_7 w_2_75 w_1_236 w_1_8 dfX7 (by rw [hR1]; omega) (by rw [hR2]; omega) (by decide +kernel : decode cX9_init 36 = .ok (.new 11, 3)) hV (fun x H hV => ?_)
    refine lv_dup hx hb (by decide +kernel : decode cX9_init 39 = .ok (.dup, 1)) rfl ?_
    refine lv_aload_n hx hb (by decide +kernel : decode cX9_init 40 = .ok (.aload_n 1, 1)) rfl (lv_at hl 2 rfl) ?_
    refine n_callI (n := 1) (as := [.ref hp]) (rest := [.ref x, .int (nI i), .ref sl]) hX (n_X7 l E hp) w_2_77 w_1_238 w_1_8 w_1_239 rfl (by decide +kernel) rfl ⟨Nat.le_of_ble_eq_true rfl, Nat.le_of_ble_eq_true rfl⟩ hl.1 (Nat.le_of_ble_eq_true rfl) (by decide +kernel : decode cX9_init 41 = .ok (.invokespecial 24, 3)) ⟨by rw [hR1]; show _ + 7 ≤ _; omega, by rw [hR2]; show _ + 40 ≤ _; omega⟩ hV (fun u H locs hu hV2 => ?_)
    subst hu
    replace hV := hV2
    have hobj : ∃ (k : Nat) (vs : List Value), ((((h0, .inr (9, [.ref sl, .int 0, .int 0])) :: (sl, .inl (E.2.1 4, 17, .inr (.inr (.inr (.inr (rfF q i)))))) :: (pl ++ stL E hp q i)) : va_W) ++ nW7 E hp u)[k]? = some ((u 0, .inr (7, vs)) : Nat × va_E) := by
      have hm : ∃ vs : List Value, ((u 0, .inr (7, vs)) : Nat × va_E) ∈ nW7 E hp u := ⟨_, List.mem_cons_self⟩
      obtain ⟨vs, hm⟩ := hm
      obtain ⟨k, hk⟩ := List.getElem?_of_mem (List.mem_append_right ((h0, .inr (9, [.ref sl, .int 0, .int 0])) :: (sl, .inl (E.2.1 4, 17, .inr (.inr (.inr (.inr (rfF q i)))))) :: (pl ++ stL E hp q i)) hm)
      exact ⟨k, vs, hk⟩
    obtain ⟨k, vs, hk⟩ := hobj
    refine va_astq hx hb hX.2.2.2.2.2.2.1.1 hV.1 hV.2.1 hV.2.2 1 4 k 7 (cA := E.2.1 4) (r := (RX7, TX7, 15)) (n := 17) (f := rfF q i) rfl rfl hk rfl (vp_in_nI (by omega) (by omega)) (by decide +kernel : decode cX9_init 44 = .ok (.aastore, 1)) (fun H locs a b c => ?_)
    have hV : nV E A s ((h0, .inr (9, [.ref sl, .int 0, .int 0])) :: (sl, .inl (E.2.1 4, 17, .inr (.inr (.inr (.inr (rfF (qUp q i u) (i + 1))))))) :: (pl ++ stL E hp (qUp q i u) (i + 1))) H locs := by
      rw [← stL_up, ← rfF_up, ← List.append_assoc]
      rw [nI_clamp (by omega)] at a b
      exact ⟨a, b, c⟩
    refine lv_iinc (v := nI (i + 1)) (lv' := [(2, .int (nI (i + 1))), (0, .ref h0), (1, .ref hp)]) hx hb (by decide +kernel : decode cX9_init 45 = .ok (.iinc 2 1, 3)) hl (k := 0) rfl (nI_1 i) (by decide) rfl (fun ls hl => ?_)
    refine lv_goto (tgt := 25) hx hb (by decide +kernel : decode cX9_init 48 = .ok (.goto (-23), 3)) (by decide) ?_
    refine W.widen (k := 1 + 8 * (i + 1)) (n := 17 + 55 * (i + 1)) (by show _ + 7 ≤ _; omega) (by show _ + 40 ≤ _; omega) ?_
    exact ih (i + 1) (by omega) (qUp q i u) H locs ls hV (lv_sub hl [0, 1, 2] rfl)
def nW9 (E : tE) (hp : Nat) (a : Nat → Nat) : va_W := (a 0, .inr (9, [.ref (a 1), .int 0, .int 0])) :: (a 1, .inl (E.2.1 4, 17, .inr (.inr (.inr (.inr fun i => some (a (100 * (i + 1)))))))) :: stL E hp (fun i k => a (100 * (i + 1) + k)) 17
set_option maxRecDepth 100000 in
theorem n_X9 (l : Launch) (E : tE) (hp : Nat) : nCon l E yX9_init cX9_init 3 (nR 2 137 952) 9 fdX9 [.ref hp] (nW9 E hp) := by
  refine n_con (by decide +kernel) rfl (fun _ => Nat.le_of_ble_eq_true rfl) ?_
  intro h0 p e s m below meth c A ls hAe hX hr hV hl
  have hx := hX.1
  have hb := hX.2.1
  have hl : lv_has ls 3 [(0, .ref h0), (1, .ref hp)] := hl
  refine n_super (idx := 3) (h0 := h0) hX w_2_74 w_1_31 w_1_32 (by decide +kernel : decode cX9_init 0 = .ok (.aload_n 0, 1)) (by decide +kernel : decode cX9_init 1 = .ok (.invokespecial 3, 3)) hl rfl (Nat.le_of_ble_eq_true rfl) (Nat.le_of_ble_eq_true rfl) ?_
  have hV : nV E A s ((h0, .inr (9, [.null, .int 0, .int 0])) :: []) s.heap [] := hV
  refine lv_aload_n hx hb (by decide +kernel : decode cX9_init 4 = .ok (.aload_n 0, 1)) rfl (lv_at hl 0 rfl) ?_
  refine lv_bipush (v := 17) hx hb (by decide +kernel : decode cX9_init 5 = .ok (.bipush 17, 2)) (by decide) ?_
  refine n_newq (N' := 17) (n := 17) hX w_2_75 (by decide) (by decide) (by decide) (Nat.le_of_ble_eq_true rfl) (Nat.le_of_ble_eq_true rfl) (by decide +kernel : decode cX9_init 7 = .ok (.anewarray 11, 3)) hV (fun q1 H hV => ?_)
  have hV : nV E A s ((h0, .inr (9, [.null, .int 0, .int 0])) :: [(q1, .inl (E.2.1 4, 17, .inr (.inr (.inr (.inr fun _ => none)))))]) H [] := hV
  refine n_put (k := 0) (v := .ref q1) hX tc_9 w_2_78 (by decide +kernel : decode cX9_init 10 = .ok (.putfield 13, 3)) (by decide) rfl rfl (Nat.le_of_ble_eq_true rfl) hV (fun H locs hV => ?_)
  have hV : nV E A s ((h0, .inr (9, [.ref q1, .int 0, .int 0])) :: [(q1, .inl (E.2.1 4, 17, .inr (.inr (.inr (.inr fun _ => none)))))]) H locs := hV
  refine lv_aload_n hx hb (by decide +kernel : decode cX9_init 13 = .ok (.aload_n 0, 1)) rfl (lv_at hl 0 rfl) ?_
  refine lv_iconst (v := 0) hx hb (by decide +kernel : decode cX9_init 14 = .ok (.iconst 0, 1)) (by decide) ?_
  refine n_put (k := 1) (v := .int 0) hX tc_9 w_2_79 (by decide +kernel : decode cX9_init 15 = .ok (.putfield 17, 3)) (by decide) rfl rfl (Nat.le_of_ble_eq_true rfl) hV (fun H locs hV => ?_)
  have hV : nV E A s ((h0, .inr (9, [.ref q1, .int 0, .int 0])) :: [(q1, .inl (E.2.1 4, 17, .inr (.inr (.inr (.inr fun _ => none)))))]) H locs := hV
  refine lv_aload_n hx hb (by decide +kernel : decode cX9_init 18 = .ok (.aload_n 0, 1)) rfl (lv_at hl 0 rfl) ?_
  refine lv_iconst (v := 0) hx hb (by decide +kernel : decode cX9_init 19 = .ok (.iconst 0, 1)) (by decide) ?_
  refine n_put (k := 2) (v := .int 0) hX tc_9 w_2_80 (by decide +kernel : decode cX9_init 20 = .ok (.putfield 21, 3)) (by decide) rfl rfl (Nat.le_of_ble_eq_true rfl) hV (fun H locs hV => ?_)
  have hV : nV E A s ((h0, .inr (9, [.ref q1, .int 0, .int 0])) :: [(q1, .inl (E.2.1 4, 17, .inr (.inr (.inr (.inr fun _ => none)))))]) H locs := hV
  refine lv_iconst (v := 0) hx hb (by decide +kernel : decode cX9_init 23 = .ok (.iconst 0, 1)) (by decide) ?_
  refine lv_istore_n (lv' := [(2, .int 0), (0, .ref h0), (1, .ref hp)]) hx hb (by decide +kernel : decode cX9_init 24 = .ok (.istore_n 2, 1)) rfl hl (by decide) rfl (fun ls hl => ?_)
  refine trail_loop (pl := []) (sl := q1) hX (fun q H locs ls hV hl => ?_) 17 0 rfl (fun _ _ => 0) H locs ls ?_ hl
  · have hU : ∀ i k, k < 100 → trU h0 q1 q (100 * (i + 1) + k) = q i k := fun i k hk => by
      unfold trU
      rw [if_neg (by omega), if_neg (by omega), if_neg (by omega), show (100 * (i + 1) + k) / 100 - 1 = i by omega, show (100 * (i + 1) + k) % 100 = k by omega]
    have hV := hV.cell (y := (0, .inr (0, []))) (va_at_q (g := fun i => some (trU h0 q1 q (100 * (i + 1)))) fun i hi => by rw [show trU h0 q1 q (100 * (i + 1)) = q i 0 from hU i 0 (by omega)]; exact if_pos hi)
    rw [stL_congr2 (q' := fun i k => trU h0 q1 q (100 * (i + 1) + k)) 17 (fun i _ k hk => (hU i k (by omega)).symm)] at hV
    exact n_ret (Wd := nW9 E hp) (as := []) hX hAe hr (trU h0 q1 q) rfl hV (Nat.le_of_ble_eq_true rfl) (Nat.le_of_ble_eq_true rfl) (by decide +kernel : decode cX9_init 51 = .ok (.return_, 1))
  · exact hV.cell (y := (0, .inr (0, []))) (va_at_q fun i hi => rfl)
