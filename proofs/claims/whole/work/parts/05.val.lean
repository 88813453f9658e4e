/-! runs with fuel, their limit, and its equation -/
section TVAL
variable (code : Nat → Nat → Option tAct) (rank : Nat → List tV → Nat) (nl : Nat → Nat)
def tin0 (nl : Nat → Nat) (mid : Nat) (as : List tV) (G : tH) : tC := (0, tpad (nl mid) (targs as), [], G)
def tex (code : Nat → Nat → Option tAct) (rank : Nat → List tV → Nat) (nl : Nat → Nat) : Nat → Nat → Nat → tC → Option tRes
  | 0, _, _, _ => none
  | n + 1, mid, d, q => match code mid q.1 with
    | none => none
    | some a => a d (fun mid' as G => cond (Nat.blt (rank mid' as) d && Nat.ble (targs as).length (nl mid')) (tex code rank nl n mid' (rank mid' as) (tin0 nl mid' as G)) none) q (tex code rank nl n mid d)
theorem tbI_mono {r r' : Option tRes} {k k' : Int32 → tH → Option tRes} {z : tRes} (hr : ∀ y, r = some y → r' = some y) (hk : ∀ x G y, k x G = some y → k' x G = some y) (h : tbI r k = some z) : tbI r' k' = some z := by
  unfold tbI at h
  split at h
  · rename_i x G
    rw [hr _ rfl]
    exact hk _ _ _ h
  · cases h
theorem tbV_mono {r r' : Option tRes} {k k' : tH → Option tRes} {z : tRes} (hr : ∀ y, r = some y → r' = some y) (hk : ∀ G y, k G = some y → k' G = some y) (h : tbV r k = some z) : tbV r' k' = some z := by
  unfold tbV at h
  split at h
  · rename_i G
    rw [hr _ rfl]
    exact hk _ _ h
  · cases h
theorem tSh_mono {a : tAct} (ha : tSh a) {d : Nat} {q : tC} {rec rec' : tRec} {K K' : tK} {z : tRes} (hr : ∀ mid as G y, rec mid as G = some y → rec' mid as G = some y) (hK : ∀ q y, K q = some y → K' q = some y) (h : a d rec q K = some z) : a d rec' q K' = some z := by
  rcases ha d q with h1 | ⟨q', h1⟩ | ⟨r, h1⟩ | ⟨mid, as, G, k, h1⟩ | ⟨mid, as, G, k, h1⟩
  · rw [h1] at h; cases h
  · rw [h1] at h ⊢; exact hK _ _ h
  · rw [h1] at h ⊢; exact h
  · rw [h1] at h ⊢; exact tbI_mono (hr _ _ _) (fun x G' y => hK _ y) h
  · rw [h1] at h ⊢; exact tbV_mono (hr _ _ _) (fun G' y => hK _ y) h
theorem tcond_mono {b : Bool} {r r' : Option tRes} (h : ∀ y, r = some y → r' = some y) : ∀ y, cond b r none = some y → cond b r' none = some y := by
  cases b
  · exact fun y h => h
  · exact h
theorem tex_mono (hS : ∀ mid pc a, code mid pc = some a → tSh a) : ∀ (n mid d : Nat) (q : tC) (r : tRes), tex code rank nl n mid d q = some r → tex code rank nl (n + 1) mid d q = some r := by
  intro n
  induction n with
  | zero => intro mid d q r h; cases h
  | succ n ih =>
    intro mid d q r h
    unfold tex at h ⊢
    cases hc : code mid q.1 with
    | none => rw [hc] at h; cases h
    | some a =>
      rw [hc] at h
      exact tSh_mono (hS _ _ _ hc) (fun mid' as G => tcond_mono (ih mid' _ _)) (ih mid d) h
theorem tex_mono' (hS : ∀ mid pc a, code mid pc = some a → tSh a) {n m mid d : Nat} {q : tC} {r : tRes} (hn : n ≤ m) (h : tex code rank nl n mid d q = some r) : tex code rank nl m mid d q = some r := by
  induction hn with
  | refl => exact h
  | step _ ih => exact tex_mono code rank nl hS _ _ _ _ _ ih
theorem tval_ex (hS : ∀ mid pc a, code mid pc = some a → tSh a) (mid d : Nat) (q : tC) : ∃ v : Option tRes, ∀ r, v = some r ↔ ∃ n, tex code rank nl n mid d q = some r := by
  by_cases h : ∃ (r : tRes) (n : Nat), tex code rank nl n mid d q = some r
  · obtain ⟨r, n, h⟩ := h
    refine ⟨some r, fun r' => ⟨fun e => ⟨n, e ▸ h⟩, fun ⟨m, hm⟩ => ?_⟩⟩
    have h1 := tex_mono' code rank nl hS (Nat.le_max_left n m) h
    have h2 := tex_mono' code rank nl hS (Nat.le_max_right n m) hm
    exact h1.symm.trans h2
  · exact ⟨none, fun r => ⟨fun e => by (cases e), fun h2 => absurd ⟨r, h2⟩ h⟩⟩
end TVAL
/-- the limit of the runs, or none -/
noncomputable def tvl (code : Nat → Nat → Option tAct) (rank : Nat → List tV → Nat) (nl : Nat → Nat) (hS : ∀ mid pc a, code mid pc = some a → tSh a) (mid d : Nat) (q : tC) : Option tRes := Classical.choose (tval_ex code rank nl hS mid d q)
section TVAL2
variable {code : Nat → Nat → Option tAct} {rank : Nat → List tV → Nat} {nl : Nat → Nat} (hS : ∀ mid pc a, code mid pc = some a → tSh a)
theorem tvl_iff {mid d : Nat} {q : tC} {r : tRes} : tvl code rank nl hS mid d q = some r ↔ ∃ n, tex code rank nl n mid d q = some r := Classical.choose_spec (tval_ex code rank nl hS mid d q) r
/-- a method's value -/
noncomputable def tvm (code : Nat → Nat → Option tAct) (rank : Nat → List tV → Nat) (nl : Nat → Nat) (hS : ∀ mid pc a, code mid pc = some a → tSh a) (mid : Nat) (as : List tV) (G : tH) : Option tRes := tvl code rank nl hS mid (rank mid as) (tin0 nl mid as G)
noncomputable def tvr (code : Nat → Nat → Option tAct) (rank : Nat → List tV → Nat) (nl : Nat → Nat) (hS : ∀ mid pc a, code mid pc = some a → tSh a) (d : Nat) : tRec := fun mid as G => cond (Nat.blt (rank mid as) d && Nat.ble (targs as).length (nl mid)) (tvm code rank nl hS mid as G) none
theorem tOpt_ext {α : Type} {a b : Option α} (h : ∀ r, a = some r ↔ b = some r) : a = b := by
  cases a with
  | none =>
    cases b with
    | none => rfl
    | some y => exact absurd ((h y).mpr rfl) (by simp)
  | some x => exact ((h x).mp rfl).symm
theorem tbI_some {r : Option tRes} {k : Int32 → tH → Option tRes} {z : tRes} : tbI r k = some z ↔ ∃ x G, r = some (some (.inl x), G) ∧ k x G = some z := by
  constructor
  · intro h
    unfold tbI at h
    split at h
    · exact ⟨_, _, rfl, h⟩
    · cases h
  · rintro ⟨x, G, rfl, h⟩
    exact h
theorem tbV_some {r : Option tRes} {k : tH → Option tRes} {z : tRes} : tbV r k = some z ↔ ∃ G, r = some (none, G) ∧ k G = some z := by
  constructor
  · intro h
    unfold tbV at h
    split at h
    · exact ⟨_, rfl, h⟩
    · cases h
  · rintro ⟨G, rfl, h⟩
    exact h
theorem tcond_some {b : Bool} {r : Option tRes} {z : tRes} : cond b r none = some z ↔ b = true ∧ r = some z := by
  cases b
  · exact ⟨fun h => (by cases h), fun h => (by cases h.1)⟩
  · exact ⟨fun h => ⟨rfl, h⟩, fun h => h.2⟩
theorem tvl_eq {mid d : Nat} {q : tC} : tvl code rank nl hS mid d q = match code mid q.1 with
    | none => none
    | some a => a d (tvr code rank nl hS d) q (tvl code rank nl hS mid d) := by
  apply tOpt_ext
  intro r
  rw [tvl_iff]
  cases hc : code mid q.1 with
  | none =>
    constructor
    · rintro ⟨n, h⟩
      cases n with
      | zero => cases h
      | succ n => unfold tex at h; rw [hc] at h; cases h
    · intro h; cases h
  | some a =>
    have hsh := hS _ _ _ hc
    have up : ∀ n, a d (fun mid' as G => cond (Nat.blt (rank mid' as) d && Nat.ble (targs as).length (nl mid')) (tex code rank nl n mid' (rank mid' as) (tin0 nl mid' as G)) none) q (tex code rank nl n mid d) = some r → tex code rank nl (n + 1) mid d q = some r := by
      intro n h
      unfold tex
      rw [hc]
      exact h
    constructor
    · rintro ⟨n, h⟩
      cases n with
      | zero => cases h
      | succ n =>
        unfold tex at h
        rw [hc] at h
        exact tSh_mono hsh (fun mid' as G => tcond_mono fun y hy => (tvl_iff hS).mpr ⟨n, hy⟩) (fun q y hy => (tvl_iff hS).mpr ⟨n, hy⟩) h
    · intro h
      rcases hsh d q with h1 | ⟨q', h1⟩ | ⟨z, h1⟩ | ⟨mid', as, G, k, h1⟩ | ⟨mid', as, G, k, h1⟩
      · replace h : a d (tvr code rank nl hS d) q (tvl code rank nl hS mid d) = some r := h
        rw [h1] at h; cases h
      · replace h : a d (tvr code rank nl hS d) q (tvl code rank nl hS mid d) = some r := h
        rw [h1] at h
        obtain ⟨n, hn⟩ := (tvl_iff hS).mp h
        exact ⟨n + 1, up n (by rw [h1]; exact hn)⟩
      · replace h : a d (tvr code rank nl hS d) q (tvl code rank nl hS mid d) = some r := h
        rw [h1] at h
        exact ⟨1, up 0 (by rw [h1]; exact h)⟩
      · replace h : a d (tvr code rank nl hS d) q (tvl code rank nl hS mid d) = some r := h
        rw [h1] at h
        obtain ⟨x, G', e1, e2⟩ := tbI_some.mp h
        obtain ⟨b1, e1⟩ := tcond_some.mp e1
        obtain ⟨n1, hn1⟩ := (tvl_iff hS).mp e1
        obtain ⟨n2, hn2⟩ := (tvl_iff hS).mp e2
        refine ⟨max n1 n2 + 1, up _ ?_⟩
        rw [h1]
        exact tbI_some.mpr ⟨x, G', tcond_some.mpr ⟨b1, tex_mono' code rank nl hS (Nat.le_max_left _ _) hn1⟩, tex_mono' code rank nl hS (Nat.le_max_right _ _) hn2⟩
      · replace h : a d (tvr code rank nl hS d) q (tvl code rank nl hS mid d) = some r := h
        rw [h1] at h
        obtain ⟨G', e1, e2⟩ := tbV_some.mp h
        obtain ⟨b1, e1⟩ := tcond_some.mp e1
        obtain ⟨n1, hn1⟩ := (tvl_iff hS).mp e1
        obtain ⟨n2, hn2⟩ := (tvl_iff hS).mp e2
        refine ⟨max n1 n2 + 1, up _ ?_⟩
        rw [h1]
        exact tbV_some.mpr ⟨G', tcond_some.mpr ⟨b1, tex_mono' code rank nl hS (Nat.le_max_left _ _) hn1⟩, tex_mono' code rank nl hS (Nat.le_max_right _ _) hn2⟩
theorem lmask_idem : ∀ (bs : List Bool) (l : tL), lmask bs (lmask bs l) = lmask bs l
  | [], l => by cases l <;> rfl
  | b :: bs, [] => rfl
  | b :: bs, x :: l => by
    simp only [lmask]
    rw [lmask_idem bs l]
    cases b <;> rfl
/-- at the head of a block only what lives counts -/
theorem tvl_mask {mid d pc : Nat} {bs : List Bool} {a : tAct} (hc : code mid pc = some (aMk bs a)) {ls : tL} {r : List tV × tH} : tvl code rank nl hS mid d (pc, ls, r) = tvl code rank nl hS mid d (pc, lmask bs ls, r) := by
  rw [tvl_eq hS, tvl_eq hS (q := (pc, lmask bs ls, r))]
  simp only [hc]
  show a d _ (pc, lmask bs ls, r) _ = a d _ (pc, lmask bs (lmask bs ls), r) _
  rw [lmask_idem]
/-- some steps at once, up to the heads of blocks -/
noncomputable def tU (code : Nat → Nat → Option tAct) (rank : Nat → List tV → Nat) (nl : Nat → Nat) (hS : ∀ mid pc a, code mid pc = some a → tSh a) (stop : Nat → Option (List Bool)) (cm : Nat → Option tAct) (mid d : Nat) : Nat → tC → Option tRes
  | 0, q => tvl code rank nl hS mid d q
  | k + 1, q => match stop q.1 with
    | some bs => tvl code rank nl hS mid d (q.1, lmask bs q.2.1, q.2.2)
    | none => match cm q.1 with
      | none => none
      | some a => a d (tvr code rank nl hS d) q (tU code rank nl hS stop cm mid d k)
theorem tU_eq {stop : Nat → Option (List Bool)} {cm : Nat → Option tAct} {mid d : Nat} (hcm : code mid = cm) (hst : ∀ pc bs, stop pc = some bs → ∃ a, cm pc = some (aMk bs a)) : ∀ k, tU code rank nl hS stop cm mid d k = tvl code rank nl hS mid d := by
  intro k
  induction k with
  | zero => rfl
  | succ k ih =>
    funext q
    unfold tU
    rw [ih]
    cases hq : stop q.1 with
    | some bs =>
      obtain ⟨a, ha⟩ := hst _ _ hq
      obtain ⟨pc, ls, r⟩ := q
      exact (tvl_mask hS (mid := mid) (pc := pc) (a := a) (by rw [hcm]; exact ha)).symm
    | none =>
      rw [tvl_eq hS, hcm]
/-- the value at a configuration, by steps -/
theorem tU_go {stop : Nat → Option (List Bool)} {cm : Nat → Option tAct} {mid d pc : Nat} {ls : tL} {r : List tV × tH} {a : tAct} (k : Nat) (hcm : code mid = cm) (hst : ∀ pc bs, stop pc = some bs → ∃ a, cm pc = some (aMk bs a)) (ha : cm pc = some a) : tvl code rank nl hS mid d (pc, ls, r) = a d (tvr code rank nl hS d) (pc, ls, r) (tU code rank nl hS stop cm mid d k) := by
  rw [tU_eq hS hcm hst k, tvl_eq hS, hcm]
  simp only [ha]
end TVAL2
/-! codes as trees -/
def tlf (k : Nat) (a : tAct) : Nat → Option tAct := fun pc => cond (Nat.beq pc k) (some a) none
def tnd (k : Nat) (x y : Nat → Option tAct) : Nat → Option tAct := fun pc => cond (Nat.blt pc k) (x pc) (y pc)
theorem tlf_ok {P : Nat → tAct → Prop} {k : Nat} {a : tAct} (h : P k a) : ∀ pc b, tlf k a pc = some b → P pc b := by
  intro pc b hb
  unfold tlf at hb
  cases hk : Nat.beq pc k with
  | false => rw [hk] at hb; cases hb
  | true =>
    rw [hk] at hb
    cases hb
    rw [Nat.eq_of_beq_eq_true hk]
    exact h
theorem tnd_ok {P : Nat → tAct → Prop} {k : Nat} {x y : Nat → Option tAct} (hx : ∀ pc b, x pc = some b → P pc b) (hy : ∀ pc b, y pc = some b → P pc b) : ∀ pc b, tnd k x y pc = some b → P pc b := by
  intro pc b hb
  unfold tnd at hb
  cases hk : Nat.blt pc k with
  | false => rw [hk] at hb; exact hy _ _ hb
  | true => rw [hk] at hb; exact hx _ _ hb
