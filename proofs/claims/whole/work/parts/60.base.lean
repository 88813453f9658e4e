/-! PURE: tools -/
theorem tif_pos {c : Prop} {a b : Option tRes} (h : c) : tif c a b = a := if_pos h
theorem tif_neg {c : Prop} {a b : Option tRes} (h : ¬ c) : tif c a b = b := if_neg h
theorem tif_ite {c : Prop} [Decidable c] {a b : Option tRes} : tif c a b = if c then a else b := by
  by_cases h : c
  · rw [tif_pos h, if_pos h]
  · rw [tif_neg h, if_neg h]
theorem tbI_v (x : Int32) (G : tH) (k : Int32 → tH → Option tRes) : tbI (some (some (vI x), G)) k = k x G := rfl
theorem tbV_v (G : tH) (k : tH → Option tRes) : tbV (some (none, G)) k = k G := rfl
theorem tz0 {a b : Option tRes} : tif (vp_nar .boolean (nI 0) = nI 0) a b = a := tif_pos (by decide +kernel)
theorem tz1 {a b : Option tRes} : tif (vp_nar .boolean (nI 1) = nI 1) a b = a := tif_pos (by decide +kernel)
theorem tn2 {a b : Option tRes} : tif (nI 2 = 0) a b = b := tif_neg (by decide +kernel)
theorem tn4 {a b : Option tRes} : tif (nI 4 = 0) a b = b := tif_neg (by decide +kernel)
theorem tn10 {a b : Option tRes} : tif (nI 10 = 0) a b = b := tif_neg (by decide +kernel)
theorem tn17 {a b : Option tRes} : tif (nI 17 = 0) a b = b := tif_neg (by decide +kernel)
theorem tn100 {a b : Option tRes} : tif (nI 100 = 0) a b = b := tif_neg (by decide +kernel)
theorem tn0 {a b : Option tRes} : tif (nI 0 = 0) a b = a := tif_pos nI_0
theorem tn1 {a b : Option tRes} : tif (nI 1 = 0) a b = b := tif_neg (by decide +kernel)
theorem tin_nI {j n : Nat} (hj : j < n) (hn : n < 2 ^ 31) : tin (nI j) n := by
  unfold tin
  rw [nI_toInt (by omega)]
  omega
theorem ttin {j n : Nat} {a b : Option tRes} (hj : j < n) (hn : n < 2 ^ 31) : tif (tin (nI j) n) a b = a := tif_pos (tin_nI hj hn)
/-- an int that is a small number -/
def sm (x : Int32) (n : Nat) : Prop := ∃ k : Nat, k ≤ n ∧ x = nI k
theorem nI_inj {a b : Nat} (ha : a < 2 ^ 31) (hb : b < 2 ^ 31) (h : nI a = nI b) : a = b := (nI_eq ha hb).mp h
theorem m1_lt : ((-1 : Int32)) < 0 := by decide +kernel
theorem m1_ne {n : Nat} (h : n < 2 ^ 31) : nI n ≠ (-1 : Int32) := fun e => by
  have h1 := nI_pos h
  rw [e] at h1
  exact h1 m1_lt
theorem nI_lt0 {n : Nat} (h : n < 2 ^ 31) : ¬ nI n < (0 : Int32) := nI_pos h
/-- which argument is a number below n -/
theorem arg_cases (x : Int32) (n : Nat) (hn : n < 2 ^ 31) : (x < 0 ∨ nI n ≤ x) ∨ ∃ k : Nat, k < n ∧ x = nI k := by
  rcases pk_ix x hn with h | h | h
  · exact Or.inl (Or.inl h)
  · exact Or.inl (Or.inr h)
  · exact Or.inr h
/-! frames: what may change -/
def tfr (S : Nat → Nat → Prop) (G G' : tH) : Prop := ∀ f o, ¬ S f o → gI G' f o = gI G f o ∧ gL G' f o = gL G f o ∧ gR G' f o = gR G f o ∧ gA G' f o = gA G f o ∧ gB G' f o = gB G f o
theorem tfr.rf {S : Nat → Nat → Prop} {G : tH} : tfr S G G := fun _ _ _ => ⟨rfl, rfl, rfl, rfl, rfl⟩
theorem tfr.tr {S : Nat → Nat → Prop} {G1 G2 G3 : tH} (h : tfr S G1 G2) (h' : tfr S G2 G3) : tfr S G1 G3 := fun f o q => by
  obtain ⟨a1, a2, a3, a4, a5⟩ := h f o q
  obtain ⟨b1, b2, b3, b4, b5⟩ := h' f o q
  exact ⟨b1.trans a1, b2.trans a2, b3.trans a3, b4.trans a4, b5.trans a5⟩
theorem tfr.mono {S T : Nat → Nat → Prop} {G G' : tH} (h : tfr S G G') (hST : ∀ f o, S f o → T f o) : tfr T G G' := fun f o q => h f o fun z => q (hST f o z)
theorem tfr.sI {S : Nat → Nat → Prop} {G : tH} {f o : Nat} {v : Int32} (h : S f o) : tfr S G (sI G f o v) := fun f' o' q => by
  refine ⟨?_, rfl, rfl, rfl, rfl⟩
  rw [gI_sI]
  by_cases h1 : f' = f
  · by_cases h2 : o' = o
    · subst h1; subst h2; exact absurd h q
    · rw [if_pos h1, if_neg h2]
  · rw [if_neg h1]
theorem tfr.sL {S : Nat → Nat → Prop} {G : tH} {f o : Nat} {v : Int64} (h : S f o) : tfr S G (sL G f o v) := fun f' o' q => by
  refine ⟨rfl, ?_, rfl, rfl, rfl⟩
  rw [gL_sL]
  by_cases h1 : f' = f
  · by_cases h2 : o' = o
    · subst h1; subst h2; exact absurd h q
    · rw [if_pos h1, if_neg h2]
  · rw [if_neg h1]
theorem tfr.sR {S : Nat → Nat → Prop} {G : tH} {f o v : Nat} (h : S f o) : tfr S G (sR G f o v) := fun f' o' q => by
  refine ⟨rfl, rfl, ?_, rfl, rfl⟩
  rw [gR_sR]
  by_cases h1 : f' = f
  · by_cases h2 : o' = o
    · subst h1; subst h2; exact absurd h q
    · rw [if_pos h1, if_neg h2]
  · rw [if_neg h1]
theorem tfr.sA {S : Nat → Nat → Prop} {G : tH} {f o : Nat} {v : Nat → Int32} (h : S f o) : tfr S G (sA G f o v) := fun f' o' q => by
  refine ⟨rfl, rfl, rfl, ?_, rfl⟩
  rw [gA_sA]
  by_cases h1 : f' = f
  · by_cases h2 : o' = o
    · subst h1; subst h2; exact absurd h q
    · rw [if_pos h1, if_neg h2]
  · rw [if_neg h1]
theorem tfr.sB {S : Nat → Nat → Prop} {G : tH} {f o : Nat} {v : Nat → Int64} (h : S f o) : tfr S G (sB G f o v) := fun f' o' q => by
  refine ⟨rfl, rfl, rfl, rfl, ?_⟩
  rw [gB_sB]
  by_cases h1 : f' = f
  · by_cases h2 : o' = o
    · subst h1; subst h2; exact absurd h q
    · rw [if_pos h1, if_neg h2]
  · rw [if_neg h1]
/-! reading across kinds -/
theorem gI_sA (G : tH) (c o : Nat) (g : Nat → Int32) : gI (sA G c o g) = gI G := rfl
theorem gI_sB (G : tH) (c o : Nat) (g : Nat → Int64) : gI (sB G c o g) = gI G := rfl
theorem gI_sR (G : tH) (c o v : Nat) : gI (sR G c o v) = gI G := rfl
theorem gI_sL (G : tH) (c o : Nat) (v : Int64) : gI (sL G c o v) = gI G := rfl
theorem gR_sA (G : tH) (c o : Nat) (g : Nat → Int32) : gR (sA G c o g) = gR G := rfl
theorem gR_sB (G : tH) (c o : Nat) (g : Nat → Int64) : gR (sB G c o g) = gR G := rfl
theorem gR_sI (G : tH) (c o : Nat) (v : Int32) : gR (sI G c o v) = gR G := rfl
theorem gR_sL (G : tH) (c o : Nat) (v : Int64) : gR (sL G c o v) = gR G := rfl
theorem gA_sI (G : tH) (c o : Nat) (v : Int32) : gA (sI G c o v) = gA G := rfl
theorem gA_sL (G : tH) (c o : Nat) (v : Int64) : gA (sL G c o v) = gA G := rfl
theorem gA_sR (G : tH) (c o v : Nat) : gA (sR G c o v) = gA G := rfl
theorem gA_sB (G : tH) (c o : Nat) (g : Nat → Int64) : gA (sB G c o g) = gA G := rfl
theorem gB_sI (G : tH) (c o : Nat) (v : Int32) : gB (sI G c o v) = gB G := rfl
theorem gB_sL (G : tH) (c o : Nat) (v : Int64) : gB (sL G c o v) = gB G := rfl
theorem gB_sR (G : tH) (c o v : Nat) : gB (sR G c o v) = gB G := rfl
theorem gB_sA (G : tH) (c o : Nat) (g : Nat → Int32) : gB (sA G c o g) = gB G := rfl
theorem gL_sI (G : tH) (c o : Nat) (v : Int32) : gL (sI G c o v) = gL G := rfl
theorem gL_sA (G : tH) (c o : Nat) (g : Nat → Int32) : gL (sA G c o g) = gL G := rfl
theorem gL_sB (G : tH) (c o : Nat) (g : Nat → Int64) : gL (sB G c o g) = gL G := rfl
theorem gL_sR (G : tH) (c o v : Nat) : gL (sR G c o v) = gL G := rfl
theorem upd_at (f : Nat → Int32) (k : Nat) (x : Int32) (j : Nat) : upd f k x j = if j = k then x else f j := rfl
theorem iltN {α : Type} {a b : Nat} {x y : α} (ha : a < 2 ^ 31) (hb : b < 2 ^ 31) : (if nI a < nI b then x else y) = if a < b then x else y := by simp only [nI_ltI ha hb]
theorem ieqN {α : Type} {a b : Nat} {x y : α} (ha : a < 2 ^ 31) (hb : b < 2 ^ 31) : (if nI a = nI b then x else y) = if a = b then x else y := by simp only [nI_eq ha hb]
theorem tltN {a b : Nat} {x y : Option tRes} (ha : a < 2 ^ 31) (hb : b < 2 ^ 31) : tif (nI a < nI b) x y = if a < b then x else y := by rw [tif_ite, iltN ha hb]
theorem teqN {a b : Nat} {x y : Option tRes} (ha : a < 2 ^ 31) (hb : b < 2 ^ 31) : tif (nI a = nI b) x y = if a = b then x else y := by rw [tif_ite, ieqN ha hb]
theorem tlt0 {a : Nat} {x y : Option tRes} (ha : a < 2 ^ 31) : tif (nI a < 0) x y = y := tif_neg (nI_pos ha)
theorem teq0 {a : Nat} {x y : Option tRes} (ha : a < 2 ^ 31) : tif (nI a = 0) x y = if a = 0 then x else y := by rw [← nI_0, teqN ha (by omega)]
/-- numbers cut -/
def cl (v : Int32) : Nat := if v < 0 then 0 else if nI 9999 < v then 9999 else v.toNatClampNeg
theorem cl_le (v : Int32) : cl v ≤ 9999 := by
  unfold cl
  split
  · omega
  · split
    · omega
    · rename_i h1 h2
      obtain ⟨k, hk, rfl⟩ := nI_of h1
      rw [nI_clamp hk]
      rw [nI_ltI (by omega) hk] at h2
      omega
theorem cl_nI {n : Nat} (h : n < 2 ^ 31) : cl (nI n) = min 9999 n := by
  unfold cl
  rw [if_neg (nI_pos h), iltN (by omega) h, nI_clamp h]
  split <;> omega
theorem cl_spec (v : Int32) : nI (cl v) = if v < 0 then nI 0 else if nI 9999 < v then nI 9999 else v := by
  unfold cl
  split
  · rfl
  · split
    · rfl
    · rename_i h1 h2
      obtain ⟨k, hk, rfl⟩ := nI_of h1
      rw [nI_clamp hk]
theorem nI_sub {a b : Nat} (h : b ≤ a) : nI a - nI b = nI (a - b) := pk_sub h
/-- a difference that may be below zero, cut at zero -/
theorem nI_subcut {a b : Nat} (ha : a < 2 ^ 30) (hb : b < 2 ^ 30) : (if nI 0 < nI a - nI b then nI a - nI b else nI 0) = nI (a - b) := by
  by_cases h : b < a
  · rw [nI_sub (by omega), iltN (by omega) (by omega), if_pos (by omega)]
  · have h2 : ¬ nI 0 < nI a - nI b := by
      by_cases h3 : a = b
      · subst h3
        rw [nI_sub (Nat.le_refl _), nI_ltI (by omega) (by omega)]
        omega
      · have := pk_sneg hb (show a < b by omega)
        rw [nI_0]
        exact Int32.not_lt.mpr (Int32.le_of_lt this)
    rw [if_neg h2, show a - b = 0 by omega]
theorem nI_minc {a : Nat} (ha : a < 2 ^ 31) : (if nI a < nI 9999 then nI a else nI 9999) = nI (min 9999 a) := by
  rw [iltN ha (by omega)]
  split
  · rw [show min 9999 a = a by omega]
  · rw [show min 9999 a = 9999 by omega]
theorem gA_eq {G : tH} {c o : Nat} {g : Nat → Int32} : gA (sA G c o g) c o = g := by rw [gA_sA, if_pos rfl, if_pos rfl]
theorem gA_ne {G : tH} {c o c' o' : Nat} {g : Nat → Int32} (h : c' ≠ c) : gA (sA G c o g) c' o' = gA G c' o' := by rw [gA_sA, if_neg h]
theorem gA_no {G : tH} {c o c' o' : Nat} {g : Nat → Int32} (h : o' ≠ o) : gA (sA G c o g) c' o' = gA G c' o' := by rw [gA_sA]; split <;> first | rfl | (rw [if_neg h])
theorem gB_eq {G : tH} {c o : Nat} {g : Nat → Int64} : gB (sB G c o g) c o = g := by rw [gB_sB, if_pos rfl, if_pos rfl]
theorem gB_ne {G : tH} {c o c' o' : Nat} {g : Nat → Int64} (h : c' ≠ c) : gB (sB G c o g) c' o' = gB G c' o' := by rw [gB_sB, if_neg h]
theorem gB_no {G : tH} {c o c' o' : Nat} {g : Nat → Int64} (h : o' ≠ o) : gB (sB G c o g) c' o' = gB G c' o' := by rw [gB_sB]; split <;> first | rfl | (rw [if_neg h])
theorem gI_eq {G : tH} {c o : Nat} {g : Int32} : gI (sI G c o g) c o = g := by rw [gI_sI, if_pos rfl, if_pos rfl]
theorem gI_ne {G : tH} {c o c' o' : Nat} {g : Int32} (h : c' ≠ c) : gI (sI G c o g) c' o' = gI G c' o' := by rw [gI_sI, if_neg h]
theorem gI_no {G : tH} {c o c' o' : Nat} {g : Int32} (h : o' ≠ o) : gI (sI G c o g) c' o' = gI G c' o' := by rw [gI_sI]; split <;> first | rfl | (rw [if_neg h])
theorem gR_eq {G : tH} {c o v : Nat} : gR (sR G c o v) c o = v := by rw [gR_sR, if_pos rfl, if_pos rfl]
theorem gR_ne {G : tH} {c o c' o' v : Nat} (h : c' ≠ c) : gR (sR G c o v) c' o' = gR G c' o' := by rw [gR_sR, if_neg h]
theorem gR_no {G : tH} {c o c' o' v : Nat} (h : o' ≠ o) : gR (sR G c o v) c' o' = gR G c' o' := by rw [gR_sR]; split <;> first | rfl | (rw [if_neg h])
theorem gL_eq {G : tH} {c o : Nat} {g : Int64} : gL (sL G c o g) c o = g := by rw [gL_sL, if_pos rfl, if_pos rfl]
theorem gL_ne {G : tH} {c o c' o' : Nat} {g : Int64} (h : c' ≠ c) : gL (sL G c o g) c' o' = gL G c' o' := by rw [gL_sL, if_neg h]
theorem upd_eq {f : Nat → Int32} {k : Nat} {x : Int32} : upd f k x k = x := pk_us
theorem upd_ne {f : Nat → Int32} {k j : Nat} {x : Int32} (h : j ≠ k) : upd f k x j = f j := pk_un h
theorem tltP {a b : Nat} {x y : Option tRes} (ha : a < 2 ^ 31) (hb : b < 2 ^ 31) (h : a < b) : tif (nI a < nI b) x y = x := tif_pos ((nI_ltI ha hb).mpr h)
theorem tltM {a b : Nat} {x y : Option tRes} (ha : a < 2 ^ 31) (hb : b < 2 ^ 31) (h : b ≤ a) : tif (nI a < nI b) x y = y := tif_neg fun q => by have := (nI_ltI ha hb).mp q; omega
theorem teqP {a b : Nat} {x y : Option tRes} (h : a = b) : tif (nI a = nI b) x y = x := tif_pos (by rw [h])
theorem teqM {a b : Nat} {x y : Option tRes} (ha : a < 2 ^ 31) (hb : b < 2 ^ 31) (h : a ≠ b) : tif (nI a = nI b) x y = y := tif_neg fun q => h ((nI_eq ha hb).mp q)
theorem tz0P {a : Nat} {x y : Option tRes} (h : a = 0) : tif (nI a = 0) x y = x := tif_pos (by rw [h, nI_0])
theorem tz0M {a : Nat} {x y : Option tRes} (ha : a < 2 ^ 31) (h : a ≠ 0) : tif (nI a = 0) x y = y := tif_neg fun q => by rw [← nI_0] at q; exact h ((nI_eq ha (by omega)).mp q)
theorem tfrA {S : Nat → Nat → Prop} {G G1 : tH} {c o : Nat} {g : Nat → Int32} (h : tfr S G G1) (hc : S c o) : tfr S G (sA G1 c o g) := h.tr (tfr.sA hc)
theorem tfrB {S : Nat → Nat → Prop} {G G1 : tH} {c o : Nat} {g : Nat → Int64} (h : tfr S G G1) (hc : S c o) : tfr S G (sB G1 c o g) := h.tr (tfr.sB hc)
theorem tfrI {S : Nat → Nat → Prop} {G G1 : tH} {c o : Nat} {g : Int32} (h : tfr S G G1) (hc : S c o) : tfr S G (sI G1 c o g) := h.tr (tfr.sI hc)
theorem tfrL {S : Nat → Nat → Prop} {G G1 : tH} {c o : Nat} {g : Int64} (h : tfr S G G1) (hc : S c o) : tfr S G (sL G1 c o g) := h.tr (tfr.sL hc)
theorem tfrR {S : Nat → Nat → Prop} {G G1 : tH} {c o g : Nat} (h : tfr S G G1) (hc : S c o) : tfr S G (sR G1 c o g) := h.tr (tfr.sR hc)
