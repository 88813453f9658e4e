/-! The typed heap: every object and array of the two systems by its kind and its owner; pure values, worlds. -/
abbrev tV : Type := Int32 ⊕ (Int64 ⊕ (Nat × Nat))
abbrev tH : Type := (Nat → Nat → Int32) × (Nat → Nat → Int64) × (Nat → Nat → Nat) × (Nat → Nat → Nat → Int32) × (Nat → Nat → Nat → Int64)
abbrev tD : Type := Nat × Nat × Nat × Nat
abbrev tE : Type := va_G × (Nat → ClassId) × (Nat → Nat → Nat)
abbrev vI (x : Int32) : tV := .inl x
abbrev vL (x : Int64) : tV := .inr (.inl x)
abbrev vR (c o : Nat) : tV := .inr (.inr (c, o))
def gI (G : tH) (f o : Nat) : Int32 := G.1 f o
def gL (G : tH) (f o : Nat) : Int64 := G.2.1 f o
def gR (G : tH) (f o : Nat) : Nat := G.2.2.1 f o
def gA (G : tH) (c o : Nat) : Nat → Int32 := G.2.2.2.1 c o
def gB (G : tH) (c o : Nat) : Nat → Int64 := G.2.2.2.2 c o
def sI (G : tH) (f o : Nat) (v : Int32) : tH := (fun f' o' => if f' = f then (if o' = o then v else G.1 f' o') else G.1 f' o', G.2)
def sL (G : tH) (f o : Nat) (v : Int64) : tH := (G.1, fun f' o' => if f' = f then (if o' = o then v else G.2.1 f' o') else G.2.1 f' o', G.2.2)
def sR (G : tH) (f o : Nat) (v : Nat) : tH := (G.1, G.2.1, fun f' o' => if f' = f then (if o' = o then v else G.2.2.1 f' o') else G.2.2.1 f' o', G.2.2.2)
def sA (G : tH) (c o : Nat) (g : Nat → Int32) : tH := (G.1, G.2.1, G.2.2.1, fun c' o' => if c' = c then (if o' = o then g else G.2.2.2.1 c' o') else G.2.2.2.1 c' o', G.2.2.2.2)
def sB (G : tH) (c o : Nat) (g : Nat → Int64) : tH := (G.1, G.2.1, G.2.2.1, G.2.2.2.1, fun c' o' => if c' = c then (if o' = o then g else G.2.2.2.2 c' o') else G.2.2.2.2 c' o')
/-- fields of the objects in the order of their slots: 0 an int, 1 a long, 2 a reference that stays (kind, owner m*o+b), 3 one that changes -/
def tlay : Nat → List tD := fun k => match k with
  | 0 => [(1, 0, 0, 0), (0, 0, 0, 0)]
  | 1 => [(3, 5, 0, 0), (0, 0, 0, 0), (0, 0, 0, 0), (0, 0, 0, 0), (2, 104, 1, 0), (2, 105, 1, 0), (0, 0, 0, 0), (0, 0, 0, 0)]
  | 2 => [(2, 200, 1, 0), (0, 0, 0, 0), (2, 202, 1, 0)]
  | 3 => [(2, 300, 1, 0), (2, 301, 1, 0), (2, 302, 1, 0), (0, 0, 0, 0)]
  | 4 => [(0, 0, 0, 0), (2, 401, 1, 0), (2, 402, 1, 0), (2, 403, 1, 0)]
  | 5 => [(2, 6, 4, 0), (2, 6, 4, 1), (2, 6, 4, 2), (2, 6, 4, 3), (2, 504, 1, 0), (2, 505, 1, 0), (2, 506, 1, 0), (2, 507, 1, 0), (2, 508, 1, 0), (2, 509, 1, 0), (2, 510, 1, 0), (2, 511, 1, 0), (0, 0, 0, 0), (0, 0, 0, 0), (2, 2, 2, 0), (2, 2, 2, 1), (0, 0, 0, 0)]
  | 6 => [(2, 600, 1, 0), (0, 0, 0, 0)]
  | 7 => [(3, 5, 0, 0), (2, 701, 1, 0), (2, 702, 1, 0), (2, 703, 1, 0), (2, 704, 1, 0), (2, 705, 1, 0), (2, 706, 1, 0), (2, 707, 1, 0), (0, 0, 0, 0), (0, 0, 0, 0), (0, 0, 0, 0), (0, 0, 0, 0), (0, 0, 0, 0), (0, 0, 0, 0), (0, 0, 0, 0)]
  | 8 => [(2, 800, 1, 0), (0, 0, 0, 0), (0, 0, 0, 0), (0, 0, 0, 0), (0, 0, 0, 0), (1, 0, 0, 0), (0, 0, 0, 0), (0, 0, 0, 0), (0, 0, 0, 0)]
  | 9 => [(2, 900, 1, 0), (0, 0, 0, 0), (0, 0, 0, 0)]
  | 10 => [(2, 8, 0, 0), (3, 5, 0, 0), (3, 5, 0, 0), (3, 4, 0, 0), (3, 4, 0, 0), (2, 7, 0, 0), (2, 7, 0, 1), (2, 9, 0, 0), (2, 1008, 1, 0), (2, 1009, 1, 0), (0, 0, 0, 0), (2, 1011, 1, 0), (2, 3, 0, 0), (2, 1, 0, 0), (2, 0, 0, 0)]
  | 11 => [(0, 0, 0, 0), (2, 1101, 1, 0), (0, 0, 0, 0), (0, 0, 0, 0), (2, 1104, 1, 0), (2, 1105, 1, 0), (2, 1106, 1, 0), (0, 0, 0, 0), (0, 0, 0, 0), (2, 1109, 1, 0), (2, 1110, 1, 0), (2, 1111, 1, 0), (2, 1112, 1, 0), (0, 0, 0, 0), (2, 1114, 1, 0), (2, 1115, 1, 0), (2, 1116, 1, 0), (2, 1117, 1, 0), (0, 0, 0, 0), (0, 0, 0, 0), (0, 0, 0, 0), (2, 1121, 1, 0), (2, 1122, 1, 0), (2, 1123, 1, 0), (2, 1124, 1, 0), (0, 0, 0, 0), (2, 1126, 1, 0), (0, 0, 0, 0), (2, 1128, 1, 0), (2, 1129, 1, 0), (0, 0, 0, 0), (0, 0, 0, 0), (0, 0, 0, 0), (0, 0, 0, 0), (0, 0, 0, 0), (2, 1135, 1, 0), (2, 1136, 1, 0), (1, 0, 0, 0)]
  | _ => []
/-- how many owners a kind has -/
def tcn : Nat → Nat := fun k => match k with
  | 0 => 1
  | 1 => 1
  | 2 => 4
  | 3 => 1
  | 4 => 2
  | 5 => 2
  | 6 => 8
  | 7 => 23
  | 8 => 1
  | 9 => 1
  | 10 => 1
  | 11 => 1
  | 20 => 15
  | 21 => 15
  | 22 => 1
  | _ => 0
def tcnt (c : Nat) : Nat := if c < 100 then tcn c else tcn (c / 100)
/-- the arrays: 0 int, 1 long, 2 char, 3 boolean, 4 of states; how long -/
def tak : Nat → Nat := fun k => match k with
  | 600 => 1
  | 800 => 2
  | 900 => 4
  | 1008 => 4
  | 1106 => 1
  | 1109 => 1
  | 1114 => 1
  | 1115 => 1
  | 1126 => 3
  | 1136 => 3
  | _ => 0
def talen (c o : Nat) : Nat := match c with
  | 104 => 5
  | 105 => 5
  | 200 => 1000
  | 202 => 28
  | 300 => 5
  | 301 => 5
  | 302 => 32
  | 401 => 40
  | 402 => 40
  | 403 => 40
  | 504 => 6
  | 505 => 6
  | 506 => 5
  | 507 => 5
  | 508 => 5
  | 509 => 5
  | 510 => 5
  | 511 => 5
  | 600 => if o % 4 = 0 then 6 else 5
  | 701 => 6
  | 702 => 6
  | 703 => 6
  | 704 => 6
  | 705 => 6
  | 706 => 5
  | 707 => 5
  | 800 => 1000
  | 900 => 17
  | 1008 => 4
  | 1009 => 20
  | 1011 => 5
  | 1101 => 1000
  | 1104 => 1002
  | 1105 => 1002
  | 1106 => 1002
  | 1109 => 38
  | 1110 => 120
  | 1111 => 2200
  | 1112 => 2200
  | 1114 => 21
  | 1115 => 21
  | 1116 => 21
  | 1117 => 21
  | 1121 => 250
  | 1122 => 3
  | 1123 => 1100
  | 1124 => 1403
  | 1126 => 4
  | 1128 => 5
  | 1129 => 5
  | 1135 => 32
  | 1136 => 32
  | _ => 0
def tabase : Nat → Nat := fun k => match k with
  | 900 => 2
  | _ => 19
def tcomps : List Nat := [0, 1, 2, 3, 4, 5, 6, 7, 8, 9, 10, 11, 104, 105, 200, 202, 300, 301, 302, 401, 402, 403, 504, 505, 506, 507, 508, 509, 510, 511, 600, 701, 702, 703, 704, 705, 706, 707, 800, 900, 1008, 1009, 1011, 1101, 1104, 1105, 1106, 1109, 1110, 1111, 1112, 1114, 1115, 1116, 1117, 1121, 1122, 1123, 1124, 1126, 1128, 1129, 1135, 1136]
def tpairs : List (Nat × Nat) := tcomps.flatMap fun c => (List.range (tcnt c)).map fun o => (c, o)
def tmv (E : tE) (v : tV) : Value := match v with
  | .inl x => .int x
  | .inr (.inl x) => .long x
  | .inr (.inr q) => .ref (E.2.2 q.1 q.2)
def tfv (E : tE) (G : tH) (fid o : Nat) (d : tD) : Value := match d with
  | (0, _) => .int (gI G fid o)
  | (1, _) => .long (gL G fid o)
  | (2, c, m, b) => .ref (E.2.2 c (m * o + b))
  | (_, c, _) => .ref (E.2.2 c (gR G fid o))
def tfl (E : tE) (G : tH) (o : Nat) : Nat → List tD → List Value
  | _, [] => []
  | fid, d :: ds => tfv E G fid o d :: tfl E G o (fid + 1) ds
def tcell (E : tE) (G : tH) (c o : Nat) : va_E :=
  if c < 100 then .inr (c, tfl E G o (100 * c) (tlay c))
  else if tak c = 1 then .inl (E.2.1 1, talen c o, .inr (.inl (gB G c o)))
  else if tak c = 4 then .inl (E.2.1 4, talen c o, .inr (.inr (.inr (.inr fun i => some (E.2.2 7 (tabase c + i))))))
  else .inl (E.2.1 (tak c), talen c o, .inl (gA G c o))
def tWd (E : tE) (G : tH) : va_W := tpairs.map fun q => (E.2.2 q.1 q.2, tcell E G q.1 q.2)
def tAP (E : tE) : Nat → Prop := fun a => ∃ q ∈ tpairs, a = E.2.2 q.1 q.2
def tInj (E : tE) : Prop := ∀ (i j : Nat) (x y : Nat × Nat), tpairs[i]? = some x → tpairs[j]? = some y → E.2.2 x.1 x.2 = E.2.2 y.1 y.2 → i = j
def ttys (E : tE) : List (ClassId × FieldType) := [(E.2.1 0, .int), (E.2.1 1, .long), (E.2.1 2, .char), (E.2.1 3, .boolean), (E.2.1 4, .object "TaxFarm$State")]
theorem tpairs_mem {c o : Nat} (hc : c ∈ tcomps) (ho : o < tcnt c) : (c, o) ∈ tpairs := List.mem_flatMap.mpr ⟨c, hc, List.mem_map.mpr ⟨o, List.mem_range.mpr ho, rfl⟩⟩
theorem tWd_get {E : tE} {G : tH} {c o : Nat} (hc : c ∈ tcomps) (ho : o < tcnt c) : ∃ k : Nat, tpairs[k]? = some (c, o) ∧ (tWd E G)[k]? = some (E.2.2 c o, tcell E G c o) := by
  obtain ⟨k, hk⟩ := List.getElem?_of_mem (tpairs_mem hc ho)
  exact ⟨k, hk, by rw [tWd, List.getElem?_map, hk]; rfl⟩
theorem tWd_D {E : tE} (hI : tInj E) (G : tH) : va_D (tAP E) (tWd E G) := by
  have key : ∀ (k : Nat) (q : Nat × va_E), (tWd E G)[k]? = some q → ∃ x : Nat × Nat, tpairs[k]? = some x ∧ q.1 = E.2.2 x.1 x.2 := by
    intro k q hk
    rw [tWd, List.getElem?_map] at hk
    cases hx : tpairs[k]? with
    | none => rw [hx] at hk; cases hk
    | some x => rw [hx] at hk; cases hk; exact ⟨x, rfl, rfl⟩
  refine ⟨fun i j p q hi hj hpq => ?_, fun k q hk => ?_⟩
  · obtain ⟨x, h1, h2⟩ := key i p hi
    obtain ⟨y, h3, h4⟩ := key j q hj
    exact hI i j x y h1 h3 (h2.symm.trans (hpq.trans h4))
  · obtain ⟨x, h1, h2⟩ := key k q hk
    exact ⟨x, List.mem_of_getElem? h1, h2⟩
theorem tWd_set {E : tE} (hI : tInj E) {G G' : tH} {c o k : Nat} {e : va_E} (hk : tpairs[k]? = some (c, o)) (he : tcell E G' c o = e) (hne : ∀ c' o' : Nat, (c', o') ≠ (c, o) → tcell E G' c' o' = tcell E G c' o') : (tWd E G).set k (E.2.2 c o, e) = tWd E G' := by
  subst he
  apply List.ext_getElem?
  intro j
  have hl : k < tpairs.length := (List.getElem?_eq_some_iff.mp hk).1
  by_cases hj : j = k
  · subst hj
    rw [List.getElem?_set_self (by rw [tWd, List.length_map]; exact hl), tWd, List.getElem?_map, hk]
    rfl
  · rw [List.getElem?_set_ne (Ne.symm hj), tWd, tWd, List.getElem?_map, List.getElem?_map]
    cases hx : tpairs[j]? with
    | none => rfl
    | some x =>
      have hne2 : (x.1, x.2) ≠ (c, o) := fun h => hj (hI j k x (c, o) hx hk (by rw [show x = (c, o) from h]))
      show some (E.2.2 x.1 x.2, tcell E G x.1 x.2) = some (E.2.2 x.1 x.2, tcell E G' x.1 x.2)
      rw [hne x.1 x.2 hne2]
/-- the fields as a list -/
theorem tfl_get (E : tE) (G : tH) (o : Nat) : ∀ (ds : List tD) (fid k : Nat), (tfl E G o fid ds)[k]? = (ds[k]?).map (tfv E G (fid + k) o)
  | [], _, _ => by simp [tfl]
  | d :: ds, fid, 0 => by simp [tfl]
  | d :: ds, fid, k + 1 => by
    simp only [tfl, List.getElem?_cons_succ]
    rw [tfl_get E G o ds (fid + 1) k, Nat.add_right_comm fid 1 k]; rfl
theorem tfl_congr (E : tE) {G G' : tH} {o : Nat} : ∀ (ds : List tD) (fid : Nat), (∀ k d, ds[k]? = some d → tfv E G' (fid + k) o d = tfv E G (fid + k) o d) → tfl E G' o fid ds = tfl E G o fid ds
  | [], _, _ => rfl
  | d :: ds, fid, h => by
    simp only [tfl]
    rw [show tfv E G' fid o d = tfv E G fid o d from h 0 d rfl, tfl_congr E (G := G) (G' := G') ds (fid + 1) (fun k d hk => by rw [Nat.add_right_comm fid 1 k]; exact h (k + 1) d hk)]
theorem tfl_set (E : tE) {G G' : tH} {o : Nat} {v : Value} : ∀ (ds : List tD) (fid k0 : Nat) (d0 : tD), ds[k0]? = some d0 → tfv E G' (fid + k0) o d0 = v → (∀ k d, k ≠ k0 → ds[k]? = some d → tfv E G' (fid + k) o d = tfv E G (fid + k) o d) → tfl E G' o fid ds = (tfl E G o fid ds).set k0 v
  | [], _, _, _, h, _, _ => by simp at h
  | d :: ds, fid, 0, d0, h, hv, hne => by
    simp only [List.getElem?_cons_zero, Option.some.injEq] at h
    subst h
    simp only [tfl, List.set_cons_zero]
    rw [show tfv E G' fid o d = v from hv, tfl_congr E (G := G) (G' := G') ds (fid + 1) (fun k d hk => by rw [Nat.add_right_comm fid 1 k]; exact hne (k + 1) d (Nat.succ_ne_zero k) hk)]
  | d :: ds, fid, k0 + 1, d0, h, hv, hne => by
    simp only [List.getElem?_cons_succ] at h
    simp only [tfl, List.set_cons_succ]
    rw [show tfv E G' fid o d = tfv E G fid o d from hne 0 d (Nat.succ_ne_zero k0).symm rfl, tfl_set E (G := G) (G' := G') (v := v) ds (fid + 1) k0 d0 h (by rw [Nat.add_right_comm fid 1 k0]; exact hv) (fun k d hk hd => by rw [Nat.add_right_comm fid 1 k]; exact hne (k + 1) d (fun h => hk (Nat.succ.inj h)) hd)]
/-! reading behind a write -/
theorem gI_sI (G : tH) (f o : Nat) (v : Int32) (f' o' : Nat) : gI (sI G f o v) f' o' = if f' = f then (if o' = o then v else gI G f' o') else gI G f' o' := rfl
theorem gL_sL (G : tH) (f o : Nat) (v : Int64) (f' o' : Nat) : gL (sL G f o v) f' o' = if f' = f then (if o' = o then v else gL G f' o') else gL G f' o' := rfl
theorem gR_sR (G : tH) (f o : Nat) (v : Nat) (f' o' : Nat) : gR (sR G f o v) f' o' = if f' = f then (if o' = o then v else gR G f' o') else gR G f' o' := rfl
theorem gA_sA (G : tH) (c o : Nat) (g : Nat → Int32) (c' o' : Nat) : gA (sA G c o g) c' o' = if c' = c then (if o' = o then g else gA G c' o') else gA G c' o' := rfl
theorem gB_sB (G : tH) (c o : Nat) (g : Nat → Int64) (c' o' : Nat) : gB (sB G c o g) c' o' = if c' = c then (if o' = o then g else gB G c' o') else gB G c' o' := rfl
theorem tdm {a b k j : Nat} (hk : k < 100) (hj : j < 100) (h : 100 * a + k = 100 * b + j) : a = b ∧ k = j := by omega
theorem tlay_short : ∀ c, (tlay c).length < 100 := by
  intro c
  unfold tlay
  split <;> decide
theorem tfv_sI {E : tE} {G : tH} {f o : Nat} {v : Int32} {fid o' : Nat} {d : tD} (h : fid ≠ f ∨ o' ≠ o) : tfv E (sI G f o v) fid o' d = tfv E G fid o' d := by
  obtain ⟨k, c, m, b⟩ := d
  have e1 : gI (sI G f o v) fid o' = gI G fid o' := by
    rw [gI_sI]
    rcases h with h | h <;> simp [h]
  match k with
  | 0 => simp only [tfv, e1]
  | 1 => rfl
  | 2 => rfl
  | (k + 3) => rfl
theorem tfv_sL {E : tE} {G : tH} {f o : Nat} {v : Int64} {fid o' : Nat} {d : tD} (h : fid ≠ f ∨ o' ≠ o) : tfv E (sL G f o v) fid o' d = tfv E G fid o' d := by
  obtain ⟨k, c, m, b⟩ := d
  have e1 : gL (sL G f o v) fid o' = gL G fid o' := by
    rw [gL_sL]
    rcases h with h | h <;> simp [h]
  match k with
  | 0 => rfl
  | 1 => simp only [tfv, e1]
  | 2 => rfl
  | (k + 3) => rfl
theorem tfv_sR {E : tE} {G : tH} {f o : Nat} {v : Nat} {fid o' : Nat} {d : tD} (h : fid ≠ f ∨ o' ≠ o) : tfv E (sR G f o v) fid o' d = tfv E G fid o' d := by
  obtain ⟨k, c, m, b⟩ := d
  have e1 : gR (sR G f o v) fid o' = gR G fid o' := by
    rw [gR_sR]
    rcases h with h | h <;> simp [h]
  match k with
  | 0 => rfl
  | 1 => rfl
  | 2 => rfl
  | (k + 3) => simp only [tfv, e1]
theorem tfl_len (E : tE) (G : tH) (o : Nat) : ∀ (ds : List tD) (fid : Nat), (tfl E G o fid ds).length = ds.length
  | [], _ => rfl
  | d :: ds, fid => by simp [tfl, tfl_len E G o ds (fid + 1)]
/-- a world behind a write to a field: which field of which object -/
theorem tcell_put {E : tE} {G G' : tH} {ci k o : Nat} {d : tD} {v : Value} (hci : ci < 100) (hd : (tlay ci)[k]? = some d) (hv : tfv E G' (100 * ci + k) o d = v)
    (hf : ∀ (fid o' : Nat) (d' : tD), (fid ≠ 100 * ci + k ∨ o' ≠ o) → tfv E G' fid o' d' = tfv E G fid o' d') (hA : G'.2.2.2 = G.2.2.2) :
    tcell E G' ci o = .inr (ci, (tfl E G o (100 * ci) (tlay ci)).set k v) ∧ ∀ c' o' : Nat, (c', o') ≠ (ci, o) → tcell E G' c' o' = tcell E G c' o' := by
  have hk : k < 100 := Nat.lt_of_lt_of_le (List.getElem?_eq_some_iff.mp hd).1 (Nat.le_of_lt (tlay_short ci))
  refine ⟨?_, fun c' o' hne => ?_⟩
  · unfold tcell
    rw [if_pos hci, tfl_set E (tlay ci) (100 * ci) k d hd hv (fun j d' hj _ => hf _ _ _ (Or.inl (by omega)))]
  · have hgA : gA G' = gA G := by unfold gA; rw [hA]
    have hgB : gB G' = gB G := by unfold gB; rw [hA]
    unfold tcell
    rw [hgA, hgB]
    by_cases hc : c' < 100
    · rw [if_pos hc, if_pos hc, tfl_congr E (tlay c') (100 * c') (fun j d' hj => hf _ _ _ ?_)]
      have hj2 : j < 100 := Nat.lt_of_lt_of_le (List.getElem?_eq_some_iff.mp hj).1 (Nat.le_of_lt (tlay_short c'))
      by_cases ho : o' = o
      · left
        intro h
        obtain ⟨h1, -⟩ := tdm hj2 hk h
        exact hne (by rw [h1, ho])
      · exact Or.inr ho
    · rw [if_neg hc, if_neg hc]
theorem tcell_same {E : tE} {G G' : tH} (h1 : G'.1 = G.1) (h2 : G'.2.1 = G.2.1) (h3 : G'.2.2.1 = G.2.2.1) {c o : Nat} (hA : gA G' c o = gA G c o) (hB : gB G' c o = gB G c o) : tcell E G' c o = tcell E G c o := by
  unfold tcell
  rw [hA, hB]
  rw [tfl_congr E (G := G) (G' := G') (tlay c) (100 * c) (fun j d _ => by
    obtain ⟨k, c2, m, b⟩ := d
    match k with
    | 0 => simp only [tfv, gI, h1]
    | 1 => simp only [tfv, gL, h2]
    | 2 => rfl
    | (k + 3) => simp only [tfv, gR, h3])]
theorem tcell_sA {E : tE} {G : tH} {c o : Nat} {g : Nat → Int32} (hc : ¬ c < 100) (hk : tak c ≠ 1 ∧ tak c ≠ 4) :
    tcell E (sA G c o g) c o = .inl (E.2.1 (tak c), talen c o, .inl g) ∧ ∀ c' o' : Nat, (c', o') ≠ (c, o) → tcell E (sA G c o g) c' o' = tcell E G c' o' := by
  refine ⟨?_, fun c' o' hne => tcell_same (G := G) (G' := sA G c o g) rfl rfl rfl ?_ rfl⟩
  · unfold tcell
    rw [if_neg hc, if_neg hk.1, if_neg hk.2, gA_sA, if_pos rfl, if_pos rfl]
  · rw [gA_sA]
    by_cases h : c' = c
    · rw [if_pos h, if_neg (fun h2 => hne (by rw [h, h2]))]
    · rw [if_neg h]
theorem tcell_sB {E : tE} {G : tH} {c o : Nat} {g : Nat → Int64} (hc : ¬ c < 100) (hk : tak c = 1) :
    tcell E (sB G c o g) c o = .inl (E.2.1 1, talen c o, .inr (.inl g)) ∧ ∀ c' o' : Nat, (c', o') ≠ (c, o) → tcell E (sB G c o g) c' o' = tcell E G c' o' := by
  refine ⟨?_, fun c' o' hne => tcell_same (G := G) (G' := sB G c o g) rfl rfl rfl rfl ?_⟩
  · unfold tcell
    rw [if_neg hc, if_pos hk, gB_sB, if_pos rfl, if_pos rfl]
  · rw [gB_sB]
    by_cases h : c' = c
    · rw [if_pos h, if_neg (fun h2 => hne (by rw [h, h2]))]
    · rw [if_neg h]
