/-! PURE: the reference cuts the tape -/
def zCut : Nat → Nat → Prop := fun f _ => 1104 ≤ f ∧ f ≤ 1108
def pG (G : tH) (k s d : Nat) (v : Int64) : tH := sB (sA (sA G 1105 0 (upd (gA G 1105 0) k (nI s))) 1104 0 (upd (gA (sA G 1105 0 (upd (gA G 1105 0) k (nI s))) 1104 0) k (nI d))) 1106 0 (vp_updL (gB (sA (sA G 1105 0 (upd (gA G 1105 0) k (nI s))) 1104 0 (upd (gA (sA G 1105 0 (upd (gA G 1105 0) k (nI s))) 1104 0) k (nI d))) 1106 0) k v)
theorem pG_fr {G : tH} {k s d : Nat} {v : Int64} : tfr zCut G (pG G k s d v) := tfrB (tfrA (tfr.sA (by unfold zCut; omega)) (by unfold zCut; omega)) (by unfold zCut; omega)
theorem S3.kept {G G' : tH} {z : mZ} {S : Nat → Nat → Prop} (h : S3 G z) (hf : tfr S G G') (h0 : ¬ S 1101 0) (h1 : ¬ S 1103 0) : S3 G' z := by
  unfold S3
  rw [(hf 1103 0 h1).1, (hf 1101 0 h0).2.2.2.1]
  exact h
theorem RTk.ext {G G' : tH} {z : mZ} {k : Nat} (h : RTk G z k) (h1 : gA G' 1104 0 k = gA G 1104 0 k) (h2 : gA G' 1105 0 k = gA G 1105 0 k) (h3 : gB G' 1106 0 k = gB G 1106 0 k) : RTk G' z k := by
  unfold RTk
  rw [h1, h2, h3]
  exact h
theorem r_put {z : mZ} {k s d : Nat} {G : tH} {v : Int64} (hs : tst z k = s) (hd : kd z k = d) (hd0 : d ≠ 0) (h1 : d = 1 → v = lN (wcode 37 (wl z k))) (h2 : d = 2 → v = lN (nv z k)) (h3 : d = 3 → v = lN (ch z k)) (hj : ∀ j, j < k → RTk G z j ∧ kd z j ≠ 0) : ∀ j, j < k + 1 → RTk (pG G k s d v) z j ∧ kd z j ≠ 0 := by
  intro j hjk
  by_cases e : j = k
  · subst e
    refine ⟨⟨?_, ?_, ?_, ?_, ?_⟩, by rw [hd]; exact hd0⟩
    · unfold pG; rw [gA_sB, gA_eq, upd_eq, hd]
    · unfold pG; rw [gA_sB, gA_ne (by omega), gA_eq, upd_eq, hs]
    · unfold pG; rw [gB_eq, pk_uLs, hd]; exact h1
    · unfold pG; rw [gB_eq, pk_uLs, hd]; exact h2
    · unfold pG; rw [gB_eq, pk_uLs, hd]; exact h3
  · obtain ⟨a, b⟩ := hj j (by omega)
    refine ⟨a.ext ?_ ?_ ?_, b⟩
    · unfold pG; rw [gA_sB, gA_eq, upd_ne e, gA_ne (by omega)]
    · unfold pG; rw [gA_sB, gA_ne (by omega), gA_eq, upd_ne e]
    · unfold pG; rw [gB_eq, pk_uLn e]; rfl
def CUT (G G' : tH) (z : mZ) (N : Nat) : Prop := N ≤ z.1 ∧ kd z N = 0 ∧ (∀ j, j < N → kd z j ≠ 0) ∧ (∀ j, j ≤ N → RTk G' z j) ∧ gI G' 1107 0 = nI 0 ∧ gI G' 1108 0 = nI 0 ∧ tfr zCut G G'
theorem r_cut_end {z : mZ} (hz : okZ z) {p k : Nat} {G : tH} (hp : p = z.1) (hS : S3 G z) (ht : ru isB z p = tst z k) (hk : k ≤ tps z k) (hj : ∀ j, j < k → RTk G z j ∧ kd z j ≠ 0) : ∃ N G', V_X11_cutAll_17 (nI k) (nI p) G = some (none, G') ∧ CUT G G' z N := by
  have hn := hz.1
  have hkn := tps_le (z := z) k
  have hst : tst z k = z.1 := by rw [← ht, ru_0 (fun q => by omega)]; exact hp
  have hkd : kd z k = 0 := by unfold kd; rw [tkd_0]; omega
  refine ⟨k, sI (sI (sA (sA G 1104 0 (upd (gA G 1104 0) k (nI 0))) 1105 0 (upd (gA (sA G 1104 0 (upd (gA G 1104 0) k (nI 0))) 1105 0) k (nI z.1))) 1107 0 (nI 0)) 1108 0 (nI 0), ?_, by omega, hkd, fun j h => (hj j h).2, fun j h => ?_, ?_, ?_, ?_⟩
  · rw [e_X11_cutAll_17, hS.1, tltM (by omega) (by omega) (by omega), ttin (by omega) (by omega), nI_clamp (by omega)]
    dsimp only
    rw [ttin (by omega) (by omega), gI_sA, hS.1]
  · by_cases e : j = k
    · subst e
      refine ⟨?_, ?_, fun q => by omega, fun q => by omega, fun q => by omega⟩
      · simp (disch := omega) only [gA_sI, gA_ne, gA_eq, upd_eq, hkd]
      · simp (disch := omega) only [gA_sI, gA_eq, upd_eq, hst]
    · refine (hj j (by omega)).1.ext ?_ ?_ rfl
      · simp (disch := omega) only [gA_sI, gA_ne, gA_eq, upd_ne]
      · simp (disch := omega) only [gA_sI, gA_ne, gA_eq, upd_ne]
  · rw [gI_ne (by omega), gI_eq]
  · rw [gI_eq]
  · exact tfrI (tfrI (tfrA (tfr.sA (by unfold zCut; omega)) (by unfold zCut; omega)) (by unfold zCut; omega)) (by unfold zCut; omega)
theorem CUT.pre {G G1 G' : tH} {z : mZ} {N : Nat} (h : CUT G1 G' z N) (hf : tfr zCut G G1) : CUT G G' z N := by
  obtain ⟨a1, a2, a3, a4, a5, a6, a7⟩ := h
  exact ⟨a1, a2, a3, a4, a5, a6, hf.tr a7⟩
theorem r_cut {z : mZ} (hz : okZ z) : ∀ m p k G, z.1 - p ≤ m → p ≤ z.1 → S3 G z → tps z k ≤ p → ru isB z p = tst z k → k ≤ tps z k → (∀ j, j < k → RTk G z j ∧ kd z j ≠ 0) → ∃ N G', V_X11_cutAll_17 (nI k) (nI p) G = some (none, G') ∧ CUT G G' z N := by
  intro m
  induction m with
  | zero =>
    intro p k G hm hp hS h1 ht hk hj
    exact r_cut_end hz (by omega) hS ht hk hj
  | succ m ih =>
    intro p k G hm hp hS h1 ht hk hj
    by_cases hlt : p < z.1
    · have hn := hz.1
      have hkn := tps_le (z := z) k
      have hx := okX_le (hz.2 p hlt)
      by_cases hb : isB (z.2 p)
      · obtain ⟨N, G', e, h⟩ := ih (p + 1) k G (by omega) (by omega) hS (by omega) (by rw [← ru_1 hlt hb]; exact ht) hk hj
        refine ⟨N, G', ?_, h⟩
        rw [e_X11_cutAll_17, hS.1, tltP (by omega) (by omega) hlt, ttin (by omega) (by omega), nI_clamp (by omega), hS.2 p hlt, nI_add]
        rcases hb with q | q
        · rw [teqP q]; exact e
        · rw [teqM (by omega) (by omega) (by omega), teqP q]; exact e
      · have hst : tst z k = p := by rw [← ht, ru_0 (fun _ => hb)]
        have hgt := tke_gt hlt
        have hle := tke_le (z := z) (s := p) hp
        have htp : tps z (k + 1) = tke z p := by rw [tps_s, hst]
        have go : ∀ d v, kd z k = d → d ≠ 0 → (d = 1 → v = lN (wcode 37 (wl z k))) → (d = 2 → v = lN (nv z k)) → (d = 3 → v = lN (ch z k)) → ∃ N G', V_X11_cutAll_17 (nI (k + 1)) (nI (tke z p)) (pG G k p d v) = some (none, G') ∧ CUT G G' z N := by
          intro d v hd hd0 w1 w2 w3
          have hf := pG_fr (G := G) (k := k) (s := p) (d := d) (v := v)
          obtain ⟨N, G', e, h⟩ := ih (tke z p) (k + 1) (pG G k p d v) (by omega) hle (hS.kept hf (by unfold zCut; omega) (by unfold zCut; omega)) (by omega) (by rw [← htp]; rfl) (by omega) (r_put hst hd hd0 w1 w2 w3 hj)
          exact ⟨N, G', e, h.pre hf⟩
        have hS1 : S3 (sA G 1105 0 (upd (gA G 1105 0) k (nI p))) z := ⟨hS.1, fun i hi => by rw [gA_ne (by omega)]; exact hS.2 i hi⟩
        have hnb : z.2 p ≠ 10 ∧ z.2 p ≠ 32 := by unfold isB at hb; omega
        rw [e_X11_cutAll_17, hS.1, tltP (by omega) (by omega) hlt, ttin (by omega) (by omega), nI_clamp (by omega), nI_clamp (by omega), hS.2 p hlt, teqM (by omega) (by omega) hnb.1, teqM (by omega) (by omega) hnb.2, ttin (by omega) (by omega)]
        dsimp only
        by_cases hl : isLt (z.2 p)
        · obtain ⟨a1, a2⟩ := tk_let hlt hl
          have hd : kd z k = pif (ru isLt z p - p ≤ 8) 1 4 := by unfold kd; rw [hst]; exact a2
          rw [r_let1 hl, tbI_v, tn1]
          have := r_runW hz (k := k) (s := p) hS1 _ p rfl (Nat.le_refl _) hp
          rw [show min p (p + 8) = p by omega, gl_0] at this
          rw [show lN 0 = lN (wcode 37 []) from rfl, this, e_X11_cutAll_129, nI_sub ru_ge]
          have hre := ru_le (P := isLt) hp
          by_cases q : ru isLt z p - p ≤ 8
          · rw [pif_1 q] at hd
            rw [tltM (by omega) (by omega) q, ttin (by omega) (by omega), nI_clamp (by omega)]
            dsimp only
            rw [ttin (by omega) (by omega), nI_add, ← a1, show min (tke z p) (p + 8) = tke z p by omega]
            exact go 1 _ hd (by omega) (fun _ => by unfold wl; rw [hst]) (fun w => by omega) (fun w => by omega)
          · rw [pif_0 q] at hd
            rw [tltP (by omega) (by omega) (by omega), ttin (by omega) (by omega), nI_clamp (by omega)]
            dsimp only
            rw [ttin (by omega) (by omega), nI_add, ← a1]
            exact go 4 _ hd (by omega) (fun w => by omega) (fun w => by omega) (fun w => by omega)
        · rw [r_let0 hx hl, tbI_v, tn0]
          by_cases hdg : isDg (z.2 p)
          · obtain ⟨a1, a2⟩ := tk_dig hlt hl hdg
            have hd : kd z k = pif (ru isDg z p - p ≤ 4) 2 4 := by unfold kd; rw [hst]; exact a2
            rw [r_dig1 hdg, tbI_v, tn1]
            have := r_runN hz (k := k) (s := p) hS1 _ p rfl (Nat.le_refl _) hp
            rw [show min p (p + 4) = p by omega, gl_0] at this
            rw [show lN 0 = lN (wcode 10 []) from rfl, this, e_X11_cutAll_218, nI_sub ru_ge]
            have hre := ru_le (P := isDg) hp
            by_cases q : ru isDg z p - p ≤ 4
            · rw [pif_1 q] at hd
              rw [tltM (by omega) (by omega) q, ttin (by omega) (by omega), nI_clamp (by omega)]
              dsimp only
              rw [ttin (by omega) (by omega), nI_add, ← a1, show min (tke z p) (p + 4) = tke z p by omega]
              exact go 2 _ hd (by omega) (fun w => by omega) (fun _ => by unfold nv; rw [hst]) (fun w => by omega)
            · rw [pif_0 q] at hd
              rw [tltP (by omega) (by omega) (by omega), ttin (by omega) (by omega), nI_clamp (by omega)]
              dsimp only
              rw [ttin (by omega) (by omega), nI_add, ← a1]
              exact go 4 _ hd (by omega) (fun w => by omega) (fun w => by omega) (fun w => by omega)
          · obtain ⟨a1, a2⟩ := tk_sgn hlt hl hdg
            have hd : kd z k = pif (isSg (z.2 p)) 3 4 := by unfold kd; rw [hst]; exact a2
            rw [r_dig0 hx hdg, tbI_v, tn0, nI_l (by omega), nI_add, nI_add]
            rw [a1] at go
            by_cases q : isSg (z.2 p)
            · rw [pif_1 q] at hd
              rw [r_sgn1 q, tbI_v, tn1, ttin (by omega) (by omega), ttin (by omega) (by omega)]
              exact go 3 _ hd (by omega) (fun w => by omega) (fun w => by omega) (fun _ => by unfold ch; rw [hst])
            · rw [pif_0 q] at hd
              rw [r_sgn0 hx q, tbI_v, tn0, ttin (by omega) (by omega), ttin (by omega) (by omega)]
              exact go 4 _ hd (by omega) (fun w => by omega) (fun w => by omega) (fun w => by omega)
    · exact r_cut_end hz (by omega) hS ht hk hj
theorem r_cutAll {z : mZ} (hz : okZ z) {G : tH} (h : S4 G z) : ∃ N G', V_X11_cutAll G = some (none, G') ∧ CUT (sI (sI G 1103 0 (nI z.1)) 1102 0 (nI 0)) G' z N := by
  have hS : S3 (sI (sI G 1103 0 (nI z.1)) 1102 0 (nI 0)) z := ⟨by rw [gI_ne (by omega), gI_eq], h.2⟩
  obtain ⟨N, G', e, k⟩ := r_cut hz _ 0 0 _ (Nat.le_refl _) (Nat.zero_le _) hS (Nat.le_refl _) rfl (Nat.le_refl _) (fun j hj => by omega)
  refine ⟨N, G', ?_, k⟩
  rw [e_X11_cutAll, h.1]
  exact e
