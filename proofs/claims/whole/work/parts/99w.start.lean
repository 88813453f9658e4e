/-! PURE: the beginning -/
def pr00 : mP := fun k i => if k = 8 then (if i = 0 then 10 else 0) else 0
noncomputable def lw00 : mL := fun i => if i = 0 then lval [(1, 20)] else lval [(2, 2)]
theorem tokG_00 : tokG G00 := fun q hq o => by
  simp only [tmut, List.mem_cons, List.not_mem_nil, or_false] at hq
  rcases hq with rfl | rfl | rfl | rfl | rfl | rfl <;> exact Nat.le_of_ble_eq_true rfl
theorem okP_00 : okP pr00 := ⟨Nat.zero_le _, Nat.zero_le _, Nat.zero_le _, Nat.zero_le _, (show 10 ≤ 100 by omega), Nat.zero_le _, fun t ht => absurd ht (Nat.not_lt_zero t), fun t ht => absurd ht (Nat.not_lt_zero t), fun t ht => absurd ht (Nat.not_lt_zero t), fun t ht => absurd ht (Nat.not_lt_zero t)⟩
theorem cnt_00 {j i : Nat} (h : i < cntP pr00 j) : False := by
  unfold cntP pr00 at h
  rw [if_pos rfl, if_neg (by omega)] at h
  exact Nat.not_lt_zero _ h
theorem IC_00 : IC G00 0 0 0 pr00 lw00 (fun _ => fBegin pr00) (fun _ _ => -1) nuZ (fun _ _ => 0) (fun _ => 0) (fun _ _ => []) := by
  have z : (0 : Int32) = nI 0 := by decide +kernel
  refine ⟨⟨Nat.zero_le _, rfl, rfl, ?_, ?_, ?_, ?_, (show 0 < 17 by omega), z, z, fun k hk => (nuZ_l hk).elim, fun m hm => (nuZ_m hm).elim⟩, ⟨fun c hc => ?_, fun m hm => (nuZ_m hm).elim, z⟩, ⟨Nat.zero_le _, rfl, rfl, z, fun i hi => (nuZ_l hi).elim⟩, ⟨z, fun i hi => (nuZ_l hi).elim⟩, fun j i hj hi => (cnt_00 hi).elim⟩
  · exact ⟨z, z, z, z, (show (10 : Int32) = nI 10 by decide +kernel), z, fun t ht => absurd ht (Nat.not_lt_zero t), fun t ht => absurd ht (Nat.not_lt_zero t), fun t ht => absurd ht (Nat.not_lt_zero t), fun t ht => absurd ht (Nat.not_lt_zero t)⟩
  · refine c_val (cs := [(1, 20)]) ⟨(show (1 : Int32) = nI 1 by decide +kernel), fun i hi => ?_⟩ (show 1 ≤ 1000 by omega) (fun x hx => ?_) rfl
    · have : i = 0 := Nat.lt_one_iff.mp hi
      subst this
      decide +kernel
    · rw [List.mem_singleton.mp hx]; exact Or.inl ⟨rfl, (show 20 ≤ 9999 by omega)⟩
  · refine c_val (cs := [(2, 2)]) ⟨(show (1 : Int32) = nI 1 by decide +kernel), fun i hi => ?_⟩ (show 1 ≤ 1000 by omega) (fun x hx => ?_) rfl
    · have : i = 0 := Nat.lt_one_iff.mp hi
      subst this
      decide +kernel
    · rw [List.mem_singleton.mp hx]; exact Or.inr (Or.inl ⟨rfl, (show 2 < 3 by omega)⟩)
  · refine ⟨rfl, fun t ht => absurd ht (Nat.not_lt_zero t), fun t ht => absurd ht (Nat.not_lt_zero t), ⟨0, by omega, z, fun t _ => ?_⟩, ⟨0, by omega, z, fun t _ => ?_⟩, rfl, z, z, rfl, rfl⟩
    · rw [Nat.zero_div]; rfl
    · rw [Nat.zero_div]; rfl
  · show tlF 5 c = -1
    exact if_pos hc
theorem RW_00 : RW G00 := by
  have h : ∀ k, k < 38 → zwF k = lN (mWords.getD k 0) := by decide +kernel
  exact h
theorem INV_start : ∃ G1 G2, V_X11_standsAsAlways 0 G00 = some (none, G1) ∧ V_X11_begins G1 = some (none, G2) ∧ INV G2 := by
  obtain ⟨a', e1, h1, h2⟩ := r_stands (b := 0) (by omega) (G := G00)
  rw [show nI 0 = (0 : Int32) from by decide +kernel] at e1
  have g : ∀ k, gA (sA G00 1110 0 a') 1110 0 k = a' k := fun k => by rw [gA_eq]
  have hP : rP (sA G00 1110 0 a') pr00 := by
    refine ⟨?_, ?_, ?_, ?_, ?_, ?_, fun t ht => absurd ht (Nat.not_lt_zero t), fun t ht => absurd ht (Nat.not_lt_zero t), fun t ht => absurd ht (Nat.not_lt_zero t), fun t ht => absurd ht (Nat.not_lt_zero t)⟩ <;> rw [g, h1 _ (by omega) (by omega)] <;> rfl
  obtain ⟨G2, e2, b1, b2, b3, b4, b5, b6⟩ := r_begins hP okP_00
  have f1 : tfr (fun f _ => f = 1110) G00 (sA G00 1110 0 a') := tfr.sA rfl
  have f2 : tfr zRef G00 G2 := (f1.mono fun f o w => by unfold zRef; omega).tr (b6.mono fun f o w => by unfold zRef; omega)
  have f3 : tfr (fun f _ => f = 1110 ∨ f = 1121 ∨ f = 1124 ∨ f = 1125 ∨ f = 1126) G00 G2 := (f1.mono fun f o w => Or.inl w).tr (b6.mono fun f o w => Or.inr w)
  have z : (0 : Int32) = nI 0 := by decide +kernel
  have k6 : ∀ i, i < 2 → gA G2 1110 0 (6 + i) < 0 := fun i hi => by
    rw [(b6 1110 0 (by omega)).2.2.2.1, g, h1 _ (by omega) (by omega)]
    rcases (show i = 0 ∨ i = 1 by omega) with e | e <;> subst e <;> decide +kernel
  refine ⟨_, G2, e1, e2, 0, 0, 0, pr00, lw00, fun _ => fBegin pr00, fun _ _ => -1, nuZ, fun _ _ => 0, fun _ => 0, fun _ _ => [], ?_, ?_, IC_00.kept f2, ?_⟩
  · exact ⟨okP_00, ok_begin okP_00, Nat.zero_le _, fun k hk => (nuZ_l hk).elim, (show 0 < 16 by omega), fun m hm => (nuZ_m hm).elim, fun c _ => Or.inl rfl, fun m hm => (nuZ_m hm).elim, Nat.zero_le _, fun i hi => (nuZ_l hi).elim, Nat.zero_le _, fun i hi => (nuZ_l hi).elim⟩
  · exact ⟨fun j i _ hi => (cnt_00 hi).elim, fun j i j' i' _ hi => (cnt_00 hi).elim⟩
  · refine ⟨⟨hP.kept b6 (by omega), Or.inl ⟨k6 0 (by omega), fun w c d => rfl⟩, Or.inl ⟨k6 1 (by omega), fun w c d => rfl⟩, b1, b4, fun k hk => (nuZ_l hk).elim, fun m hm => (nuZ_m hm).elim⟩, ⟨fun c hc => b2 c hc, fun m hm => (nuZ_m hm).elim, fun m hm => ?_⟩, ⟨b3, fun i hi => (nuZ_l hi).elim⟩, ⟨?_, fun i hi => (nuZ_l hi).elim⟩, ⟨0, Nat.zero_le _, ?_, fun k hk => absurd hk (Nat.not_lt_zero k), fun j i _ hi => (cnt_00 hi).elim⟩, RW_00.kept f3 (by omega)⟩
    · rw [show nuZ 1 = 0 from rfl, Nat.zero_div]; exact b5 m hm
    · rw [(f3 1102 0 (by omega)).1]; exact z
    · rw [(f3 1118 0 (by omega)).1]; exact z
