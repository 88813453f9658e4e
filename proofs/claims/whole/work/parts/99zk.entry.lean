/-! THE LAW: what holds at its entry -/
theorem w_1_26 : (Jvm.Cond.instantiable "TaxFarm" (15 : Nat)) ∈ tW := tWm (tm1 (List.mem_of_getElem? (i := 26) rfl)) rfl
theorem w_6_64 : (Jvm.Cond.instantiable "TaxFarmModel" (38 : Nat)) ∈ tW := tWm (tm6 (List.mem_of_getElem? (i := 64) rfl)) rfl
def stT : List (String × Nat) := [("TaxFarm$Tape", 51), ("TaxFarm$Province", 99), ("TaxFarm$Tape", 74), ("TaxFarm$Tape", 76), ("TaxFarm$Tape", 78), ("TaxFarm$Tape", 80), ("TaxFarm$Province", 165), ("TaxFarm$Province", 172), ("TaxFarm$Province", 173), ("TaxFarm$Province", 174), ("TaxFarm$Province", 175), ("TaxFarm$Province", 181), ("TaxFarm$Law", 53), ("TaxFarm$Law", 58), ("TaxFarm$Law", 43)]
def stm (i : Nat) : Term := .string (stT.getD i ("", 0)).1 (stT.getD i ("", 0)).2
abbrev stV (i : Nat) : Term := .field (stm i) "java/lang/String" "value" "[B"
def stC (i : Nat) : List Cond := [.exactly (stm i) "java/lang/String", .eq (.field (stm i) "java/lang/String" "coder" "B") (.int 0), .arrayOf (stV i) .byte, .eq (.length (stV i)) (.int (Int32.ofNat (tslen.getD i 0)))] ++ (List.range (tslen.getD i 0)).map fun j => .eq (.elem (stV i) (.int (Int32.ofNat j))) (.int ((tsbyt.getD i []).getD j 0))
abbrev stG : List Cond := flatC (Jvm.Cond.and given_1 narrow_1)
set_option maxRecDepth 100000 in
theorem stC_0 : (stC 0).map some = ([23, 24, 25, 26, 27, 28, 29, 30, 31, 32, 33, 34] : List Nat).map (fun k => stG[k]?) := by decide +kernel
set_option maxRecDepth 100000 in
theorem stC_1 : (stC 1).map some = ([35, 36, 37, 38, 39, 40, 41, 42, 43, 44, 45, 46, 47, 48, 49, 50, 51, 52, 53, 54, 55, 56, 57, 58, 59, 60, 61, 62, 63, 64, 65, 66, 67, 68, 69, 70, 71, 72, 73, 74, 75, 76, 77, 78, 79, 80, 81, 82, 83, 84, 85] : List Nat).map (fun k => stG[k]?) := by decide +kernel
set_option maxRecDepth 100000 in
theorem stC_2 : (stC 2).map some = ([140, 141, 142, 143, 144, 145, 146, 147, 148, 149, 150, 151, 152, 153, 154, 155, 156, 157, 158, 159, 160, 161, 162, 163, 164, 165, 166, 167, 168, 169, 170, 171, 172, 173, 174, 175, 176, 177, 178, 179, 180, 181, 182, 183, 184, 185, 186, 187, 188, 189, 190, 191, 192, 193, 194] : List Nat).map (fun k => stG[k]?) := by decide +kernel
set_option maxRecDepth 100000 in
theorem stC_3 : (stC 3).map some = ([198, 199, 200, 201, 202, 203, 204, 205, 206, 207, 208, 209, 210, 211, 212, 213, 214, 215, 216, 217, 218, 219, 220, 221, 222] : List Nat).map (fun k => stG[k]?) := by decide +kernel
set_option maxRecDepth 100000 in
theorem stC_4 : (stC 4).map some = ([227, 228, 229, 230, 231, 232, 233, 234, 235, 236, 237, 238, 239, 240, 241, 242, 243, 244, 245, 246, 247, 248, 249, 250, 251, 252, 253] : List Nat).map (fun k => stG[k]?) := by decide +kernel
set_option maxRecDepth 100000 in
theorem stC_5 : (stC 5).map some = ([259, 260, 261, 262, 263, 264, 265, 266, 267, 268, 269, 270, 271, 272, 273, 274, 275, 276, 277, 278, 279, 280, 281, 282, 283, 284, 285, 286, 287, 288, 289, 290, 291, 292, 293, 294, 295, 296, 297, 298, 299, 300, 301, 302, 303, 304, 305, 306, 307] : List Nat).map (fun k => stG[k]?) := by decide +kernel
set_option maxRecDepth 100000 in
theorem stC_6 : (stC 6).map some = ([346, 347, 348, 349, 350, 351, 352, 353, 354] : List Nat).map (fun k => stG[k]?) := by decide +kernel
set_option maxRecDepth 100000 in
theorem stC_7 : (stC 7).map some = ([399, 400, 401, 402, 403, 404, 405, 406, 407] : List Nat).map (fun k => stG[k]?) := by decide +kernel
set_option maxRecDepth 100000 in
theorem stC_8 : (stC 8).map some = ([418, 419, 420, 421, 422, 423, 424, 425, 426] : List Nat).map (fun k => stG[k]?) := by decide +kernel
set_option maxRecDepth 100000 in
theorem stC_9 : (stC 9).map some = ([438, 439, 440, 441, 442, 443, 444, 445] : List Nat).map (fun k => stG[k]?) := by decide +kernel
set_option maxRecDepth 100000 in
theorem stC_10 : (stC 10).map some = ([458, 459, 460, 461, 462, 463, 464, 465, 466] : List Nat).map (fun k => stG[k]?) := by decide +kernel
set_option maxRecDepth 100000 in
theorem stC_11 : (stC 11).map some = ([480, 481, 482, 483, 484, 485, 486, 487, 488] : List Nat).map (fun k => stG[k]?) := by decide +kernel
set_option maxRecDepth 100000 in
theorem stC_12 : (stC 12).map some = ([503, 504, 505, 506, 507, 508, 509, 510, 511, 512, 513, 514, 515, 516, 517, 518, 519, 520, 521, 522] : List Nat).map (fun k => stG[k]?) := by decide +kernel
set_option maxRecDepth 100000 in
theorem stC_13 : (stC 13).map some = ([538, 539, 540, 541, 542, 543, 544] : List Nat).map (fun k => stG[k]?) := by decide +kernel
set_option maxRecDepth 100000 in
theorem stC_14 : (stC 14).map some = ([561, 562, 563, 564, 565, 566, 567, 568, 569, 570] : List Nat).map (fun k => stG[k]?) := by decide +kernel
theorem st_mem {L : List Cond} {ks : List Nat} (h : L.map some = ks.map (fun k => stG[k]?)) {c : Cond} (hc : c ∈ L) : c ∈ stG := by
  have h1 : some c ∈ L.map some := List.mem_map.mpr ⟨c, hc, rfl⟩
  rw [h] at h1
  obtain ⟨k, -, hk⟩ := List.mem_map.mp h1
  exact List.mem_of_getElem? hk
theorem stC_ok : ∀ i, i < 15 → ∀ c ∈ stC i, c ∈ stG := by
  intro i hi c hc
  rcases (show i = 0 ∨ i = 1 ∨ i = 2 ∨ i = 3 ∨ i = 4 ∨ i = 5 ∨ i = 6 ∨ i = 7 ∨ i = 8 ∨ i = 9 ∨ i = 10 ∨ i = 11 ∨ i = 12 ∨ i = 13 ∨ i = 14 by omega) with rfl | rfl | rfl | rfl | rfl | rfl | rfl | rfl | rfl | rfl | rfl | rfl | rfl | rfl | rfl
  · exact st_mem stC_0 hc
  · exact st_mem stC_1 hc
  · exact st_mem stC_2 hc
  · exact st_mem stC_3 hc
  · exact st_mem stC_4 hc
  · exact st_mem stC_5 hc
  · exact st_mem stC_6 hc
  · exact st_mem stC_7 hc
  · exact st_mem stC_8 hc
  · exact st_mem stC_9 hc
  · exact st_mem stC_10 hc
  · exact st_mem stC_11 hc
  · exact st_mem stC_12 hc
  · exact st_mem stC_13 hc
  · exact st_mem stC_14 hc
set_option maxRecDepth 100000 in
theorem stN_1 : ((List.range 1).map fun j => Cond.not (.eq (stm j) (stm 1))).map some = ([86] : List Nat).map (fun k => stG[k]?) := by decide +kernel
set_option maxRecDepth 100000 in
theorem stN_2 : ((List.range 2).map fun j => Cond.not (.eq (stm j) (stm 2))).map some = ([195, 196] : List Nat).map (fun k => stG[k]?) := by decide +kernel
set_option maxRecDepth 100000 in
theorem stN_3 : ((List.range 3).map fun j => Cond.not (.eq (stm j) (stm 3))).map some = ([223, 224, 226] : List Nat).map (fun k => stG[k]?) := by decide +kernel
set_option maxRecDepth 100000 in
theorem stN_4 : ((List.range 4).map fun j => Cond.not (.eq (stm j) (stm 4))).map some = ([254, 255, 257, 258] : List Nat).map (fun k => stG[k]?) := by decide +kernel
set_option maxRecDepth 100000 in
theorem stN_5 : ((List.range 5).map fun j => Cond.not (.eq (stm j) (stm 5))).map some = ([308, 309, 311, 312, 313] : List Nat).map (fun k => stG[k]?) := by decide +kernel
set_option maxRecDepth 100000 in
theorem stN_6 : ((List.range 6).map fun j => Cond.not (.eq (stm j) (stm 6))).map some = ([355, 356, 358, 359, 360, 361] : List Nat).map (fun k => stG[k]?) := by decide +kernel
set_option maxRecDepth 100000 in
theorem stN_7 : ((List.range 7).map fun j => Cond.not (.eq (stm j) (stm 7))).map some = ([408, 409, 411, 412, 413, 414, 416] : List Nat).map (fun k => stG[k]?) := by decide +kernel
set_option maxRecDepth 100000 in
theorem stN_8 : ((List.range 8).map fun j => Cond.not (.eq (stm j) (stm 8))).map some = ([427, 428, 430, 431, 432, 433, 435, 437] : List Nat).map (fun k => stG[k]?) := by decide +kernel
set_option maxRecDepth 100000 in
theorem stN_9 : ((List.range 9).map fun j => Cond.not (.eq (stm j) (stm 9))).map some = ([446, 447, 449, 450, 451, 452, 454, 456, 457] : List Nat).map (fun k => stG[k]?) := by decide +kernel
set_option maxRecDepth 100000 in
theorem stN_10 : ((List.range 10).map fun j => Cond.not (.eq (stm j) (stm 10))).map some = ([467, 468, 470, 471, 472, 473, 475, 477, 478, 479] : List Nat).map (fun k => stG[k]?) := by decide +kernel
set_option maxRecDepth 100000 in
theorem stN_11 : ((List.range 11).map fun j => Cond.not (.eq (stm j) (stm 11))).map some = ([489, 490, 492, 493, 494, 495, 497, 499, 500, 501, 502] : List Nat).map (fun k => stG[k]?) := by decide +kernel
set_option maxRecDepth 100000 in
theorem stN_12 : ((List.range 12).map fun j => Cond.not (.eq (stm j) (stm 12))).map some = ([523, 524, 526, 527, 528, 529, 531, 533, 534, 535, 536, 537] : List Nat).map (fun k => stG[k]?) := by decide +kernel
set_option maxRecDepth 100000 in
theorem stN_13 : ((List.range 13).map fun j => Cond.not (.eq (stm j) (stm 13))).map some = ([545, 546, 548, 549, 550, 551, 553, 555, 556, 557, 558, 559, 560] : List Nat).map (fun k => stG[k]?) := by decide +kernel
set_option maxRecDepth 100000 in
theorem stN_14 : ((List.range 14).map fun j => Cond.not (.eq (stm j) (stm 14))).map some = ([571, 572, 574, 575, 576, 577, 579, 581, 582, 583, 584, 585, 586, 587] : List Nat).map (fun k => stG[k]?) := by decide +kernel
theorem stN_ok : ∀ i, i < 15 → ∀ j, j < i → Cond.not (.eq (stm j) (stm i)) ∈ stG := by
  intro i hi j hj
  rcases (show i = 0 ∨ i = 1 ∨ i = 2 ∨ i = 3 ∨ i = 4 ∨ i = 5 ∨ i = 6 ∨ i = 7 ∨ i = 8 ∨ i = 9 ∨ i = 10 ∨ i = 11 ∨ i = 12 ∨ i = 13 ∨ i = 14 by omega) with rfl | rfl | rfl | rfl | rfl | rfl | rfl | rfl | rfl | rfl | rfl | rfl | rfl | rfl | rfl
  · exact absurd hj (Nat.not_lt_zero j)
  · exact st_mem stN_1 (List.mem_map.mpr ⟨j, List.mem_range.mpr hj, rfl⟩)
  · exact st_mem stN_2 (List.mem_map.mpr ⟨j, List.mem_range.mpr hj, rfl⟩)
  · exact st_mem stN_3 (List.mem_map.mpr ⟨j, List.mem_range.mpr hj, rfl⟩)
  · exact st_mem stN_4 (List.mem_map.mpr ⟨j, List.mem_range.mpr hj, rfl⟩)
  · exact st_mem stN_5 (List.mem_map.mpr ⟨j, List.mem_range.mpr hj, rfl⟩)
  · exact st_mem stN_6 (List.mem_map.mpr ⟨j, List.mem_range.mpr hj, rfl⟩)
  · exact st_mem stN_7 (List.mem_map.mpr ⟨j, List.mem_range.mpr hj, rfl⟩)
  · exact st_mem stN_8 (List.mem_map.mpr ⟨j, List.mem_range.mpr hj, rfl⟩)
  · exact st_mem stN_9 (List.mem_map.mpr ⟨j, List.mem_range.mpr hj, rfl⟩)
  · exact st_mem stN_10 (List.mem_map.mpr ⟨j, List.mem_range.mpr hj, rfl⟩)
  · exact st_mem stN_11 (List.mem_map.mpr ⟨j, List.mem_range.mpr hj, rfl⟩)
  · exact st_mem stN_12 (List.mem_map.mpr ⟨j, List.mem_range.mpr hj, rfl⟩)
  · exact st_mem stN_13 (List.mem_map.mpr ⟨j, List.mem_range.mpr hj, rfl⟩)
  · exact st_mem stN_14 (List.mem_map.mpr ⟨j, List.mem_range.mpr hj, rfl⟩)
def stE : List Cond := [.eq (.string "TaxFarm$Province" 99) (.string "TaxFarm$Tape" 68), .eq (.string "TaxFarm$Tape" 76) (.string "TaxFarm$Province" 160), .eq (.string "TaxFarm$Tape" 78) (.string "TaxFarm$Province" 170), .eq (.string "TaxFarm$Tape" 74) (.string "TaxFarm$Past" 34)]
set_option maxRecDepth 100000 in
theorem stE_ok : stE.map some = ([139, 343, 395, 646] : List Nat).map (fun k => stG[k]?) := by decide +kernel
theorem stE_in (i : Nat) {c : Cond} (h : stE[i]? = some c := by rfl) : c ∈ stG := st_mem stE_ok (List.mem_of_getElem? h)
theorem eq_str {args : Array Value} {s : State} {t u : Term} {a : Nat} (h : (Cond.eq t u).before args s = true) (ht : t.eval args s none [] s = some (.ref a)) : u.eval args s none [] s = some (.ref a) := by
  cases hu : u.eval args s none [] s with
  | none => simp [Cond.before, Cond.holds, Cond.value, ht, hu] at h
  | some w =>
    cases w with
    | ref b =>
      simp [Cond.before, Cond.holds, Cond.value, ht, hu] at h
      rw [h]
    | _ => simp [Cond.before, Cond.holds, Cond.value, ht, hu] at h
def lwA (s : State) : Nat → Prop := fun q => s.heap.size ≤ q
set_option maxHeartbeats 4000000 in
theorem lw_strings {b : Nat} {s : State} (hts : ∀ w ∈ lw_tbl, w.before #[Value.ref b] s = true) (hgv : (Jvm.Cond.and given_1 narrow_1).before #[Value.ref b] s = true) : ∃ adK adV : Nat → Nat, vk_S 15 tslen tsbyt adK adV (lwA s) s s.heap ∧ ∀ q ∈ tStr, vk_R q.1 q.2.1 q.2.2.1 (adK q.2.2.2) s := by
  have hg := flat_of_before _ hgv
  have hA : ∀ a : Nat, a < s.heap.size → ¬ lwA s a := fun a h q => by unfold lwA at q; omega
  have hc : ∀ i, i < 15 → ∀ c ∈ stC i, c.before #[Value.ref b] s = true := fun i hi c h => hg c (stC_ok i hi c h)
  obtain ⟨adK, adV, h1, hev⟩ := vk_Sof (args := #[Value.ref b]) (s := s) (N := 15) (tm := stm) (len := tslen) (byt := tsbyt) (A := lwA s) (by decide +kernel)
    (fun i hi => hc i hi _ (List.mem_append_left _ (List.mem_of_getElem? (i := 0) rfl))) (fun i hi => hc i hi _ (List.mem_append_left _ (List.mem_of_getElem? (i := 1) rfl))) (fun i hi => hc i hi _ (List.mem_append_left _ (List.mem_of_getElem? (i := 2) rfl))) (fun i hi => hc i hi _ (List.mem_append_left _ (List.mem_of_getElem? (i := 3) rfl)))
    (fun i hi j hj => hc i hi _ (List.mem_append_right _ (List.mem_map.mpr ⟨j, List.mem_range.mpr hj, rfl⟩))) (fun i j hi hj hij => by
      rcases Nat.lt_or_gt_of_ne hij with h | h
      · exact Or.inl (hg _ (stN_ok j hj i h))
      · exact Or.inr (hg _ (stN_ok i hi j h))) hA
  refine ⟨adK, adV, h1, fun q hq => ?_⟩
  simp only [tStr, List.mem_cons, List.not_mem_nil, or_false] at hq
  rcases hq with rfl | rfl | rfl | rfl | rfl | rfl | rfl | rfl | rfl | rfl | rfl | rfl | rfl | rfl | rfl | rfl | rfl | rfl | rfl
  · exact vk_R.of (hts _ (List.mem_append_right _ (tm2 (List.mem_of_getElem? (i := 236) rfl)))) (hev 0 (by omega))
  · exact vk_R.of (hts _ (List.mem_append_right _ (tm3 (List.mem_of_getElem? (i := 93) rfl)))) (hev 1 (by omega))
  · exact vk_R.of (hts _ (List.mem_append_right _ (tm3 (List.mem_of_getElem? (i := 148) rfl)))) (eq_str (hg _ (stE_in 0)) (hev 1 (by omega)))
  · exact vk_R.of (hts _ (List.mem_append_right _ (tm3 (List.mem_of_getElem? (i := 150) rfl)))) (hev 2 (by omega))
  · exact vk_R.of (hts _ (List.mem_append_right _ (tm3 (List.mem_of_getElem? (i := 151) rfl)))) (hev 3 (by omega))
  · exact vk_R.of (hts _ (List.mem_append_right _ (tm3 (List.mem_of_getElem? (i := 152) rfl)))) (hev 4 (by omega))
  · exact vk_R.of (hts _ (List.mem_append_right _ (tm3 (List.mem_of_getElem? (i := 153) rfl)))) (hev 5 (by omega))
  · exact vk_R.of (hts _ (List.mem_append_right _ (tm3 (List.mem_of_getElem? (i := 163) rfl)))) (eq_str (hg _ (stE_in 1)) (hev 3 (by omega)))
  · exact vk_R.of (hts _ (List.mem_append_right _ (tm3 (List.mem_of_getElem? (i := 169) rfl)))) (hev 6 (by omega))
  · exact vk_R.of (hts _ (List.mem_append_right _ (tm3 (List.mem_of_getElem? (i := 183) rfl)))) (eq_str (hg _ (stE_in 2)) (hev 4 (by omega)))
  · exact vk_R.of (hts _ (List.mem_append_right _ (tm3 (List.mem_of_getElem? (i := 184) rfl)))) (hev 7 (by omega))
  · exact vk_R.of (hts _ (List.mem_append_right _ (tm3 (List.mem_of_getElem? (i := 189) rfl)))) (hev 8 (by omega))
  · exact vk_R.of (hts _ (List.mem_append_right _ (tm3 (List.mem_of_getElem? (i := 190) rfl)))) (hev 9 (by omega))
  · exact vk_R.of (hts _ (List.mem_append_right _ (tm3 (List.mem_of_getElem? (i := 195) rfl)))) (hev 10 (by omega))
  · exact vk_R.of (hts _ (List.mem_append_right _ (tm3 (List.mem_of_getElem? (i := 202) rfl)))) (hev 11 (by omega))
  · exact vk_R.of (hts _ (List.mem_append_right _ (tm3 (List.mem_of_getElem? (i := 216) rfl)))) (hev 12 (by omega))
  · exact vk_R.of (hts _ (List.mem_append_right _ (tm3 (List.mem_of_getElem? (i := 222) rfl)))) (hev 13 (by omega))
  · exact vk_R.of (hts _ (List.mem_append_right _ (tm3 (List.mem_of_getElem? (i := 233) rfl)))) (hev 14 (by omega))
  · exact vk_R.of (hts _ (List.mem_append_right _ (tm4 (List.mem_of_getElem? (i := 24) rfl)))) (eq_str (hg _ (stE_in 3)) (hev 2 (by omega)))
theorem tW_tbl : ∀ w ∈ tW, w ∈ lw_tbl := fun w h => (List.mem_filter.mp h).1
set_option maxHeartbeats 4000000 in
theorem lw_classes {b : Nat} {s : State} (hts : ∀ w ∈ tW, w.before #[Value.ref b] s = true) : ∃ D : va_G, ∀ (k : Nat) (q : vw_C), vwCl[k]? = some q → u_Kn s q.1 q.2.1 q.2.2 (D.1 k) (D.2 k) := by
  have h : ∀ k : Nat, ∃ z : ClassId × (Nat → Nat), ∀ q : vw_C, vwCl[k]? = some q → u_Kn s q.1 q.2.1 q.2.2 z.1 z.2 := by
    intro k
    by_cases hk : k < 12
    · rcases (show k = 0 ∨ k = 1 ∨ k = 2 ∨ k = 3 ∨ k = 4 ∨ k = 5 ∨ k = 6 ∨ k = 7 ∨ k = 8 ∨ k = 9 ∨ k = 10 ∨ k = 11 by omega) with rfl | rfl | rfl | rfl | rfl | rfl | rfl | rfl | rfl | rfl | rfl | rfl
      · obtain ⟨cC, iS, h1⟩ := u_known (C := RX0) (T := TX0) (N := 2) (n := 2) hts tc_0.2.1 (hts _ w_2_143)
        exact ⟨(cC, iS), fun q hq => by rw [tc_0.1] at hq; cases hq; exact h1⟩
      · obtain ⟨cC, iS, h1⟩ := u_known (C := RX1) (T := TX1) (N := 8) (n := 8) hts tc_1.2.1 (hts _ w_2_109)
        exact ⟨(cC, iS), fun q hq => by rw [tc_1.1] at hq; cases hq; exact h1⟩
      · obtain ⟨cC, iS, h1⟩ := u_known (C := RX2) (T := TX2) (N := 3) (n := 3) hts tc_2.2.1 (hts _ w_1_103)
        exact ⟨(cC, iS), fun q hq => by rw [tc_2.1] at hq; cases hq; exact h1⟩
      · obtain ⟨cC, iS, h1⟩ := u_known (C := RX3) (T := TX3) (N := 4) (n := 4) hts tc_3.2.1 (hts _ w_2_90)
        exact ⟨(cC, iS), fun q hq => by rw [tc_3.1] at hq; cases hq; exact h1⟩
      · obtain ⟨cC, iS, h1⟩ := u_known (C := RX4) (T := TX4) (N := 4) (n := 4) hts tc_4.2.1 (hts _ w_1_216)
        exact ⟨(cC, iS), fun q hq => by rw [tc_4.1] at hq; cases hq; exact h1⟩
      · obtain ⟨cC, iS, h1⟩ := u_known (C := RX5) (T := TX5) (N := 17) (n := 17) hts tc_5.2.1 (hts _ w_1_75)
        exact ⟨(cC, iS), fun q hq => by rw [tc_5.1] at hq; cases hq; exact h1⟩
      · obtain ⟨cC, iS, h1⟩ := u_known (C := RX6) (T := TX6) (N := 2) (n := 2) hts tc_6.2.1 (hts _ w_1_81)
        exact ⟨(cC, iS), fun q hq => by rw [tc_6.1] at hq; cases hq; exact h1⟩
      · obtain ⟨cC, iS, h1⟩ := u_known (C := RX7) (T := TX7) (N := 15) (n := 15) hts tc_7.2.1 (hts _ w_1_236)
        exact ⟨(cC, iS), fun q hq => by rw [tc_7.1] at hq; cases hq; exact h1⟩
      · obtain ⟨cC, iS, h1⟩ := u_known (C := RX8) (T := TX8) (N := 9) (n := 9) hts tc_8.2.1 (hts _ w_1_34)
        exact ⟨(cC, iS), fun q hq => by rw [tc_8.1] at hq; cases hq; exact h1⟩
      · obtain ⟨cC, iS, h1⟩ := u_known (C := RX9) (T := TX9) (N := 3) (n := 3) hts tc_9.2.1 (hts _ w_2_70)
        exact ⟨(cC, iS), fun q hq => by rw [tc_9.1] at hq; cases hq; exact h1⟩
      · obtain ⟨cC, iS, h1⟩ := u_known (C := RX10) (T := TX10) (N := 15) (n := 15) hts tc_10.2.1 (hts _ w_1_26)
        exact ⟨(cC, iS), fun q hq => by rw [tc_10.1] at hq; cases hq; exact h1⟩
      · obtain ⟨cC, iS, h1⟩ := u_known (C := RX11) (T := TX11) (N := 38) (n := 38) hts tc_11.2.1 (hts _ w_6_64)
        exact ⟨(cC, iS), fun q hq => by rw [tc_11.1] at hq; cases hq; exact h1⟩
    · refine ⟨(0, fun _ => 0), fun q hq => ?_⟩
      have := (List.getElem?_eq_some_iff.mp hq).1
      exact absurd (show k < 12 from this) hk
  obtain ⟨f, hf⟩ := Classical.axiomOfChoice h
  exact ⟨(fun k => (f k).1, fun k => (f k).2), fun k q hq => hf k q hq⟩
set_option maxHeartbeats 4000000 in
theorem lw_entry {b : Nat} {s : State} (hts0 : ∀ w ∈ lw_tbl, w.before #[Value.ref b] s = true) (hgv : (Jvm.Cond.and given_1 narrow_1).before #[Value.ref b] s = true) : ∃ E : tE, nK E s ∧ tKN E s ∧ lHK E (lwA s) s ∧ nTh s ∧ (∃ a, vk_R "TaxFarm" 319 "no such worth or number" a s) ∧ ∃ a, vk_R "TaxFarm" 328 "no such bids at rest" a s := by
  have hts : ∀ w ∈ tW, w.before #[Value.ref b] s = true := fun w h => hts0 w (tW_tbl w h)
  have hg := flat_of_before _ hgv
  have hA : ∀ a : Nat, a < s.heap.size → ¬ lwA s a := fun a h q => by unfold lwA at q; omega
  obtain ⟨adK, adV, hvS, hvR⟩ := lw_strings hts0 hgv
  obtain ⟨D, hD⟩ := lw_classes hts
  obtain ⟨cI, kI, pI, i1, i2, i3⟩ := Cond.arrayClass_spec (hts0 (Cond.arrayClass .int) (List.mem_append_right _ (tm1 (List.mem_of_getElem? (i := 118) rfl))))
  obtain ⟨cJ, kJ, pJ, j1, j2, j3⟩ := Cond.arrayClass_spec (hts0 (Cond.arrayClass .long) (List.mem_append_right _ (tm1 (List.mem_of_getElem? (i := 101) rfl))))
  obtain ⟨cC, kC, pC, c1, c2, c3⟩ := Cond.arrayClass_spec (hts0 (Cond.arrayClass .char) (List.mem_append_right _ (tm1 (List.mem_of_getElem? (i := 73) rfl))))
  obtain ⟨cZ, kZ, pZ, z1, z2, z3⟩ := Cond.arrayClass_spec (hts0 (Cond.arrayClass .boolean) (List.mem_append_right _ (tm7 (List.mem_of_getElem? (i := 8) rfl))))
  have hover : va_AO "TaxFarm$State" s := va_AO.of (hts0 _ (List.mem_append_right _ (tm2 (List.mem_of_getElem? (i := 76) rfl))))
  obtain ⟨comp, cS, kS, s1, s2, s3, s4, s5⟩ := Cond.arrayOver_spec hover
  obtain ⟨E, hE⟩ : ∃ E : tE, E = (D, (fun k => if k = 0 then cI else if k = 1 then cJ else if k = 2 then cC else if k = 3 then cZ else cS), fun c o => if c = 20 then adK o else adV o) := ⟨_, rfl⟩
  have hK : va_K E.1 vwCl (ttys E) s := by
    rw [hE]
    refine ⟨hD, fun k q hq => ?_⟩
    match k, hq with
    | 0, hq => cases hq; exact ⟨fun n z => ⟨fun k h => (by cases h), kI, i2, pI, i3⟩, i1⟩
    | 1, hq => cases hq; exact ⟨fun n z => ⟨fun k h => (by cases h), kJ, j2, pJ, j3⟩, j1⟩
    | 2, hq => cases hq; exact ⟨fun n z => ⟨fun k h => (by cases h), kC, c2, pC, c3⟩, c1⟩
    | 3, hq => cases hq; exact ⟨fun n z => ⟨fun k h => (by cases h), kZ, z2, pZ, z3⟩, z1⟩
    | 4, hq => cases hq; exact ⟨fun n z => ⟨fun k h => (by cases h), kS, s3, comp, s4⟩, kS, comp, s3, s4, s1, s5⟩
    | k + 5, hq => cases hq
  have e20 : E.2.2 20 = adK := by rw [hE]; rfl
  have e21 : E.2.2 21 = adV := by rw [hE]; rfl
  obtain ⟨a1, q1⟩ := (fun h => (Cond.exactly_spec (args := #[Value.ref b]) (first := s) (o := none) (s := s) (idx := []) (t := .string "TaxFarm" 319) (cls := "java/lang/String") h).imp fun a h => h : (Cond.exactly (.string "TaxFarm" 319) "java/lang/String").before #[Value.ref b] s = true → _) (hg _ (List.mem_of_getElem? (i := 661) (by decide +kernel)))
  obtain ⟨a2, q2⟩ := (fun h => (Cond.exactly_spec (args := #[Value.ref b]) (first := s) (o := none) (s := s) (idx := []) (t := .string "TaxFarm" 328) (cls := "java/lang/String") h).imp fun a h => h : (Cond.exactly (.string "TaxFarm" 328) "java/lang/String").before #[Value.ref b] s = true → _) (hg _ (List.mem_of_getElem? (i := 707) (by decide +kernel)))
  obtain ⟨_, _, _, q1, -⟩ := q1
  obtain ⟨_, _, _, q2, -⟩ := q2
  refine ⟨E, ⟨hK, fun w hw => ?_, hover⟩, ⟨hK, fun w hw => ?_, fun q hq => ?_⟩, ⟨?_, ?_, ?_⟩, ⟨?_, ?_, ?_, ?_⟩, ⟨a1, ?_⟩, ⟨a2, ?_⟩⟩
  · simp only [tNest2, List.mem_cons, List.not_mem_nil, or_false] at hw
    rcases hw with rfl | rfl | rfl | rfl | rfl
    · exact va_Nw.of rfl (hts0 _ (List.mem_append_right _ (tm1 (List.mem_of_getElem? (i := 35) rfl))))
    · exact va_Nw.of rfl (hts0 _ (List.mem_append_right _ (tm1 (List.mem_of_getElem? (i := 104) rfl))))
    · exact va_Nw.of rfl (hts0 _ (List.mem_append_right _ (tm1 (List.mem_of_getElem? (i := 217) rfl))))
    · exact va_Nw.of rfl (hts0 _ (List.mem_append_right _ (tm2 (List.mem_of_getElem? (i := 91) rfl))))
    · exact va_Nw.of rfl (hts0 _ (List.mem_append_right _ (tm2 (List.mem_of_getElem? (i := 144) rfl))))
  · simp only [tNest, List.mem_cons, List.not_mem_nil, or_false] at hw
    rcases hw with rfl | rfl | rfl | rfl
    · exact va_Nw.of rfl (hts0 _ (List.mem_append_right _ (tm2 (List.mem_of_getElem? (i := 2) rfl))))
    · exact va_Nw.of rfl (hts0 _ (List.mem_append_right _ (tm2 (List.mem_of_getElem? (i := 3) rfl))))
    · exact va_Nw.of rfl (hts0 _ (List.mem_append_right _ (tm2 (List.mem_of_getElem? (i := 4) rfl))))
    · exact va_Nw.of rfl (hts0 _ (List.mem_append_right _ (tm4 (List.mem_of_getElem? (i := 141) rfl))))
  · rw [e20]; exact hvR q hq
  · rw [e20, e21]; exact hvS
  · exact va_Zof (hts0 _ (List.mem_append_right _ (tm3 (List.mem_of_getElem? (i := 10) rfl)))) (hts _ w_1_14) (va_eqi (hg (Cond.eq (.static "java/lang/String" "COMPACT_STRINGS" "Z") (.int 1)) (List.mem_of_getElem? (i := 4) (by decide +kernel)))) hA
  · exact va_Zqof (hts0 _ (List.mem_append_right _ (tm3 (List.mem_of_getElem? (i := 51) rfl)))) (hts _ w_1_17) (hg (Cond.isRef (.static "jdk/internal/util/Preconditions" "SIOOBE_FORMATTER" "Ljava/util/function/BiFunction;")) (List.mem_of_getElem? (i := 5) (by decide +kernel))) hA
  · exact (hts0 _ (List.mem_append_right _ (tm6 (List.mem_of_getElem? (i := 8) rfl))))
  · exact (hts0 _ (List.mem_append_right _ (tm6 (List.mem_of_getElem? (i := 10) rfl))))
  · exact hg (Cond.isRef (.static "java/lang/Throwable" "UNASSIGNED_STACK" "[Ljava/lang/StackTraceElement;")) (List.mem_of_getElem? (i := 9) (by decide +kernel))
  · exact hg (Cond.isRef (.static "java/lang/Throwable" "SUPPRESSED_SENTINEL" "Ljava/util/List;")) (List.mem_of_getElem? (i := 10) (by decide +kernel))
  · exact vk_R.of (hts0 _ (List.mem_append_right _ (tm6 (List.mem_of_getElem? (i := 20) rfl)))) q1
  · exact vk_R.of (hts0 _ (List.mem_append_right _ (tm6 (List.mem_of_getElem? (i := 52) rfl)))) q2
