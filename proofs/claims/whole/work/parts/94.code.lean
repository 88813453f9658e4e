/-! PURE: a law as codes (operation, number): what it is worth, of the class and of the reference -/
abbrev mC : Type := Nat × Nat
theorem tif_pif {c : Prop} {x y : Int32} {G : tH} : tif c (some (some (vI x), G)) (some (some (vI y), G)) = some (some (vI (pif c x y)), G) := by
  by_cases h : c
  · rw [tif_pos h, pif_1 h]
  · rw [tif_neg h, pif_0 h]
/-- the class' step -/
def stp (c : mC) : Int32 := if c.1 = 1 then nI c.2 else if c.1 = 2 then -9 - nI c.2 else if c.1 = 3 then -8 else if c.1 = 4 then -5 else if c.1 = 5 then -6 else if c.1 = 6 then -7 else if c.1 = 7 then -3 else if c.1 = 8 then -4 else if c.1 = 9 then -1 else -2
def okc (c : mC) : Prop := (c.1 = 1 ∧ c.2 ≤ 9999) ∨ (c.1 = 2 ∧ c.2 < 3) ∨ c.1 = 3 ∨ (4 ≤ c.1 ∧ c.1 ≤ 10)
noncomputable def bo (o : Nat) (a b : Int32) : Int32 := if o = 4 then a + b else if o = 5 then a - b else if o = 6 then a * b else if o = 7 then pif (a < b) (nI 1) (nI 0) else if o = 8 then pif (a = b) (nI 1) (nI 0) else if o = 9 then pif (a = 0) (nI 0) (pif (b = 0) (nI 0) (nI 1)) else pif (a = 0) (pif (b = 0) (nI 0) (nI 1)) (nI 1)
theorem c_join {o : Nat} {a b : Int32} {G : tH} {x : Nat} (h : 4 ≤ o ∧ o ≤ 10) : V_X2_join (stp (o, x)) a b G = some (some (vI (bo o a b)), G) := by
  rcases (show o = 4 ∨ o = 5 ∨ o = 6 ∨ o = 7 ∨ o = 8 ∨ o = 9 ∨ o = 10 by omega) with e | e | e | e | e | e | e <;> subst e <;> rw [e_X2_join]
  · rw [show stp (4, x) = -5 from rfl, tif_neg (by decide +kernel), tif_pos rfl]; rfl
  · rw [show stp (5, x) = -6 from rfl, tif_pos rfl]; rfl
  · rw [show stp (6, x) = -7 from rfl, tif_neg (by decide +kernel), tif_neg (by decide +kernel), tif_neg (by decide +kernel), tif_neg (by decide +kernel), tif_neg (by decide +kernel), tif_neg (by decide +kernel)]; rfl
  · rw [show stp (7, x) = -3 from rfl, tif_neg (by decide +kernel), tif_neg (by decide +kernel), tif_neg (by decide +kernel), tif_pos rfl, tif_pif]; rfl
  · rw [show stp (8, x) = -4 from rfl, tif_neg (by decide +kernel), tif_neg (by decide +kernel), tif_pos rfl, tif_pif]; rfl
  · rw [show stp (9, x) = -1 from rfl, tif_neg (by decide +kernel), tif_neg (by decide +kernel), tif_neg (by decide +kernel), tif_neg (by decide +kernel), tif_neg (by decide +kernel), tif_pos rfl, tif_pif, tif_pif]; rfl
  · rw [show stp (10, x) = -2 from rfl, tif_neg (by decide +kernel), tif_neg (by decide +kernel), tif_neg (by decide +kernel), tif_neg (by decide +kernel), tif_pos rfl, tif_pif, tif_pif]; rfl
theorem r_both {o : Nat} {a b : Int32} {G : tH} (h : 4 ≤ o ∧ o ≤ 10) : V_X11_both (nI o) a b G = some (some (vI (bo o a b)), G) := by
  rw [e_X11_both]
  simp only [tif_pif]
  rcases (show o = 4 ∨ o = 5 ∨ o = 6 ∨ o = 7 ∨ o = 8 ∨ o = 9 ∨ o = 10 by omega) with e | e | e | e | e | e | e <;> subst e
  · rw [pif_1 rfl]; rfl
  · rw [pif_0 (by decide +kernel), pif_1 rfl]; rfl
  · rw [pif_0 (by decide +kernel), pif_0 (by decide +kernel), pif_1 rfl]; rfl
  · rw [pif_0 (by decide +kernel), pif_0 (by decide +kernel), pif_0 (by decide +kernel), pif_1 rfl]; rfl
  · rw [pif_0 (by decide +kernel), pif_0 (by decide +kernel), pif_0 (by decide +kernel), pif_0 (by decide +kernel), pif_1 rfl]; rfl
  · rw [pif_0 (by decide +kernel), pif_0 (by decide +kernel), pif_0 (by decide +kernel), pif_0 (by decide +kernel), pif_0 (by decide +kernel), pif_1 rfl]; rfl
  · rw [pif_0 (by decide +kernel), pif_0 (by decide +kernel), pif_0 (by decide +kernel), pif_0 (by decide +kernel), pif_0 (by decide +kernel), pif_0 (by decide +kernel)]; rfl
/-! heights -/
def hx (o h : Nat) : Option Nat := if o ≤ 2 then (if h < 28 then some (h + 1) else none) else if o = 3 then (if 1 ≤ h then some h else none) else (if 2 ≤ h then some (h - 1) else none)
def hs : List mC → Nat → Option Nat
  | [], h => some h
  | c :: cs, h => (hx c.1 h).bind (hs cs)
theorem hs_app : ∀ (a b : List mC) h, hs (a ++ b) h = (hs a h).bind (hs b)
  | [], _, _ => rfl
  | c :: a, b, h => by
    show (hx c.1 h).bind (hs (a ++ b)) = ((hx c.1 h).bind (hs a)).bind (hs b)
    cases hx c.1 h with
    | none => rfl
    | some h' => exact hs_app a b h'
def hM (e : List mC) (M : Nat) : Prop := ∀ h, h + M ≤ 28 → hs e h = some (h + 1)
theorem hM.mono {e : List mC} {M M' : Nat} (h : hM e M) (hle : M ≤ M') : hM e M' := fun x hx => h x (by omega)
theorem hM_push {o a : Nat} (h : o ≤ 2) : hM [(o, a)] 1 := fun x hq => by
  show (hx o x).bind (hs []) = some (x + 1)
  unfold hx
  rw [if_pos h, if_pos (by omega)]
  rfl
theorem hM_not {e : List mC} {M a : Nat} (h : hM e M) : hM (e ++ [(3, a)]) M := fun x hq => by
  rw [hs_app, h x hq]
  show (hx 3 (x + 1)).bind (hs []) = some (x + 1)
  unfold hx
  rw [if_neg (by omega), if_pos rfl, if_pos (by omega)]
  rfl
theorem hM_bin {e e' : List mC} {M o a : Nat} (h : hM e (M + 1)) (h' : hM e' M) (ho : 4 ≤ o) : hM (e ++ (e' ++ [(o, a)])) (M + 1) := fun x hq => by
  rw [hs_app, h x hq]
  show hs (e' ++ [(o, a)]) (x + 1) = some (x + 1)
  rw [hs_app, h' (x + 1) (by omega)]
  show (hx o (x + 1 + 1)).bind (hs []) = some (x + 1)
  unfold hx
  rw [if_neg (by omega), if_neg (by omega), if_pos (by omega)]
  rfl
/-! what it is worth -/
abbrev mE : Type := (Nat → Int32) × Nat
def fct (a : Nat) (w c d : Int32) : Int32 := if a = 0 then w else if a = 1 then c else d
noncomputable def ev1 (w c d : Int32) (e : mE) (x : mC) : mE := if x.1 = 1 then (upd e.1 e.2 (nI x.2), e.2 + 1) else if x.1 = 2 then (upd e.1 e.2 (fct x.2 w c d), e.2 + 1) else if x.1 = 3 then (upd e.1 (e.2 - 1) (pif (e.1 (e.2 - 1) = 0) (nI 1) (nI 0)), e.2) else (upd e.1 (e.2 - 2) (bo x.1 (e.1 (e.2 - 2)) (e.1 (e.2 - 1))), e.2 - 1)
noncomputable def ev (w c d : Int32) : List mC → mE → mE
  | [], e => e
  | x :: xs, e => ev w c d xs (ev1 w c d e x)
noncomputable def lval (cs : List mC) (w c d : Int32) : Int32 := (ev w c d cs (fun _ => 0, 0)).1 0
theorem tin_c {j n : Nat} {a b : Option tRes} {x : Int32} (hx : x = nI j) (hj : j < n) (hn : n < 2 ^ 31) : tif (tin x n) a b = a := by rw [hx]; exact ttin hj hn
theorem c_fact {a : Nat} {w c d : Int32} {G : tH} (h : a < 3) : V_X2_factOf (-9 - nI a) w c d G = some (some (vI (fct a w c d)), G) := by
  rw [e_X2_factOf]
  rcases (show a = 0 ∨ a = 1 ∨ a = 2 by omega) with e | e | e <;> subst e
  · rw [tif_neg (by decide +kernel), tif_pos (by decide +kernel)]; rfl
  · rw [tif_pos (by decide +kernel)]; rfl
  · rw [tif_neg (by decide +kernel), tif_neg (by decide +kernel)]; rfl
theorem neg_f : ∀ a, a < 3 → (-9 : Int32) - nI a < 0 ∧ ¬ (-9 : Int32) < -9 - nI a := by decide +kernel
theorem stp_b : ∀ o, o < 11 → 4 ≤ o → ∀ x, stp (o, x) = stp (o, 0) := fun o h1 h2 x => by
  simp only [stp, if_neg (show ¬ o = 1 by omega), if_neg (show ¬ o = 2 by omega)]
theorem stp_n : ∀ o, o < 11 → 4 ≤ o → stp (o, 0) < 0 ∧ (-9 : Int32) < stp (o, 0) ∧ stp (o, 0) ≠ -8 ∧ stp (o, 0) ≠ 0 := by decide +kernel
theorem m1_sub (h : Nat) : nI (h + 1) - nI 1 = nI h := by rw [nI_sub (by omega)]; rfl
/-- agree below a height -/
def agr (a b : Nat → Int32) (h : Nat) : Prop := ∀ j, j < h → a j = b j
theorem agr_u {a b : Nat → Int32} {h k : Nat} {x : Int32} (hab : agr a b k) (hk : k ≤ h) : agr (upd a k x) (upd b k x) (k + 1) := fun j hj => by
  by_cases e : j = k
  · rw [e, upd_eq, upd_eq]
  · rw [upd_ne e, upd_ne e]; exact hab j (by omega)
theorem agr_v {a b : Nat → Int32} {h k : Nat} {x : Int32} (hab : agr a b h) : agr (upd a k x) (upd b k x) h := fun j hj => by
  by_cases e : j = k
  · rw [e, upd_eq, upd_eq]
  · rw [upd_ne e, upd_ne e]; exact hab j hj
theorem c_val_l {q n : Nat} {w c d : Int32} (hn : n ≤ 1000) : ∀ (cs : List mC) (i : Nat) (e : mE) (G : tH), (∀ x, x ∈ cs → okc x) → hs cs e.2 = some 1 → e.2 ≤ 28 → i + cs.length = n → gI G 201 q = nI n → (∀ j, j < cs.length → gA G 200 q (i + j) = stp (cs.getD j (0, 0))) → agr (gA G 202 q) e.1 e.2 → ∃ G', V_X2_valueOf_6 q w c d (nI e.2) (nI i) G = some (some (vI ((ev w c d cs e).1 0)), G') ∧ tfr (fun f _ => f = 202) G G'
  | [], i, e, G, hok, hh, h28, hi, hl, hc, ha => by
    have e1 : e.2 = 1 := Option.some.inj hh
    have hi' : i = n := by rw [← hi]; rfl
    refine ⟨G, ?_, tfr.rf⟩
    rw [e_X2_valueOf_6, hl, tltM (by omega) (by omega) (by omega), e1, tl0P (by omega) (by omega), ttin (by omega) (by omega), nI_clamp (by omega), ha 0 (by omega)]
    rfl
  | x :: cs, i, e, G, hok, hh, h28, hi, hl, hc, ha => by
    have hi' : i + (cs.length + 1) = n := hi
    have hx0 : gA G 200 q i = stp x := hc 0 (by rw [List.length_cons]; omega)
    have hokx := hok x (List.mem_cons_self ..)
    have hh' : (hx x.1 e.2).bind (hs cs) = some 1 := hh
    have next : ∀ (G1 : tH) (k : Nat) (v : Int32), G1 = sA G 202 q (upd (gA G 202 q) k v) → hs cs (ev1 w c d e x).2 = some 1 → (ev1 w c d e x).2 ≤ 28 → agr (upd (gA G 202 q) k v) (ev1 w c d e x).1 (ev1 w c d e x).2 → ∃ G', V_X2_valueOf_6 q w c d (nI (ev1 w c d e x).2) (nI (i + 1)) G1 = some (some (vI ((ev w c d (x :: cs) e).1 0)), G') ∧ tfr (fun f _ => f = 202) G G' := by
      intro G1 k v hG1 b1 b2 b3
      have f1 : tfr (fun f _ => f = 202) G G1 := by rw [hG1]; exact tfr.sA rfl
      obtain ⟨G', e1, f2⟩ := c_val_l (w := w) (c := c) (d := d) hn cs (i + 1) (ev1 w c d e x) G1 (fun y hy => hok y (List.mem_cons_of_mem _ hy)) b1 b2 (by omega) (by rw [(f1 201 q (by omega)).1]; exact hl) (fun j hj => by
        rw [(f1 200 q (by omega)).2.2.2.1, show i + 1 + j = i + (j + 1) by omega]
        exact hc (j + 1) (by rw [List.length_cons]; omega)) (by rw [hG1, gA_eq]; exact b3)
      exact ⟨G', e1, f1.tr f2⟩
    rw [e_X2_valueOf_6, hl, tltP (by omega) (by omega) (by omega), ttin (by omega) (by omega), nI_clamp (by omega), hx0]
    obtain ⟨o, a⟩ := x
    rcases hokx with ⟨h1, h2⟩ | ⟨h1, h2⟩ | h1 | h1
    · have h1 : o = 1 := h1
      subst h1
      have hh2 : e.2 < 28 ∧ hs cs (e.2 + 1) = some 1 := by
        unfold hx at hh'
        rw [if_pos (show (1, a).1 ≤ 2 by show 1 ≤ 2; omega)] at hh'
        by_cases w1 : e.2 < 28
        · rw [if_pos w1] at hh'; exact ⟨w1, hh'⟩
        · rw [if_neg w1] at hh'; cases hh'
      have h2 : a ≤ 9999 := h2
      rw [show stp (1, a) = nI a from rfl, tlt0 (by omega), e_X2_valueOf_36, tltP (by omega) (by omega) hh2.1, tlt0 (by omega), ttin hh2.1 (by omega), nI_clamp (by omega)]
      dsimp only
      rw [nI_add, nI_add]
      exact next _ e.2 (nI a) rfl hh2.2 (by show e.2 + 1 ≤ 28; omega) (agr_u ha (Nat.le_refl _))
    · have h1 : o = 2 := h1
      subst h1
      have hh2 : e.2 < 28 ∧ hs cs (e.2 + 1) = some 1 := by
        unfold hx at hh'
        rw [if_pos (show (2, a).1 ≤ 2 by show 2 ≤ 2; omega)] at hh'
        by_cases w1 : e.2 < 28
        · rw [if_pos w1] at hh'; exact ⟨w1, hh'⟩
        · rw [if_neg w1] at hh'; cases hh'
      have h2 : a < 3 := h2
      obtain ⟨n1, n2⟩ := neg_f a h2
      rw [show stp (2, a) = -9 - nI a from rfl, tif_pos n1, tif_neg n2, e_X2_valueOf_36, tltP (by omega) (by omega) hh2.1, tif_pos n1, c_fact h2, tbI_v, ttin hh2.1 (by omega), nI_clamp (by omega)]
      dsimp only
      rw [nI_add, nI_add]
      exact next _ e.2 (fct a w c d) rfl hh2.2 (by show e.2 + 1 ≤ 28; omega) (agr_u ha (Nat.le_refl _))
    · have h1 : o = 3 := h1
      subst h1
      have hh2 : 1 ≤ e.2 ∧ hs cs e.2 = some 1 := by
        unfold hx at hh'
        rw [if_neg (show ¬ (3, a).1 ≤ 2 by show ¬ 3 ≤ 2; omega), if_pos rfl] at hh'
        by_cases w1 : 1 ≤ e.2
        · rw [if_pos w1] at hh'; exact ⟨w1, hh'⟩
        · rw [if_neg w1] at hh'; cases hh'
      have ea := ha (e.2 - 1) (by omega)
      rw [show stp (3, a) = -8 from rfl, tif_pos (by decide +kernel), tif_pos (by decide +kernel), tif_pos rfl, tltM (by omega) (by omega) hh2.1, nI_sub hh2.1, ttin (by omega) (by omega), nI_clamp (by omega), ea, ttin (by omega) (by omega)]
      dsimp only
      rw [nI_add]
      by_cases w1 : e.1 (e.2 - 1) = 0
      · rw [tif_pos w1]
        have := next _ (e.2 - 1) (pif (e.1 (e.2 - 1) = 0) (nI 1) (nI 0)) rfl hh2.2 h28 (agr_v ha)
        rw [pif_1 w1] at this
        exact this
      · rw [tif_neg w1, ttin (by omega) (by omega)]
        have := next _ (e.2 - 1) (pif (e.1 (e.2 - 1) = 0) (nI 1) (nI 0)) rfl hh2.2 h28 (agr_v ha)
        rw [pif_0 w1] at this
        exact this
    · have h1 : 4 ≤ o ∧ o ≤ 10 := h1
      have hh2 : 2 ≤ e.2 ∧ hs cs (e.2 - 1) = some 1 := by
        unfold hx at hh'
        rw [if_neg (show ¬ (o, a).1 ≤ 2 by show ¬ o ≤ 2; omega), if_neg (show ¬ (o, a).1 = 3 by show ¬ o = 3; omega)] at hh'
        by_cases w1 : 2 ≤ e.2
        · rw [if_pos w1] at hh'; exact ⟨w1, hh'⟩
        · rw [if_neg w1] at hh'; cases hh'
      obtain ⟨n1, n2, n3, n4⟩ := stp_n o (by omega) h1.1
      have eb := ha (e.2 - 1) (by omega)
      have ea := ha (e.2 - 2) (by omega)
      have em : nI e.2 + (-1 : Int32) = nI (e.2 - 1) := by rw [show e.2 = (e.2 - 1) + 1 by omega, pk_m1]; rfl
      rw [stp_b o (by omega) h1.1 a, tif_pos n1, tif_pos n2, tif_neg n3, tltM (by omega) (by omega) hh2.1, em, nI_sub (by omega), show e.2 - 1 - 1 = e.2 - 2 by omega, ttin (by omega) (by omega), ttin (by omega) (by omega), nI_clamp (by omega), nI_clamp (by omega), eb, ea, c_join h1, tbI_v, ttin (by omega) (by omega)]
      dsimp only
      rw [nI_add]
      have e1 : ev1 w c d e (o, a) = (upd e.1 (e.2 - 2) (bo o (e.1 (e.2 - 2)) (e.1 (e.2 - 1))), e.2 - 1) := by
        unfold ev1
        rw [if_neg (show ¬ (o, a).1 = 1 by show ¬ o = 1; omega), if_neg (show ¬ (o, a).1 = 2 by show ¬ o = 2; omega), if_neg (show ¬ (o, a).1 = 3 by show ¬ o = 3; omega)]
      have := next _ (e.2 - 2) (bo o (e.1 (e.2 - 2)) (e.1 (e.2 - 1))) rfl (by rw [e1]; exact hh2.2) (by rw [e1]; show e.2 - 1 ≤ 28; omega) (by rw [e1]; exact agr_v (fun j hj => ha j (by have : j < e.2 - 1 := hj; omega)))
      rw [e1] at this
      exact this
/-- a law of the class -/
def CL (G : tH) (q : Nat) (cs : List mC) : Prop := gI G 201 q = nI cs.length ∧ ∀ i, i < cs.length → gA G 200 q i = stp (cs.getD i (0, 0))
theorem c_val {G : tH} {q : Nat} {cs : List mC} (h : CL G q cs) (hl : cs.length ≤ 1000) (hok : ∀ x, x ∈ cs → okc x) (hh : hs cs 0 = some 1) : cL G q (lval cs) := by
  intro G' e1 e2 w c d
  obtain ⟨G'', e, f⟩ := c_val_l (q := q) (w := w) (c := c) (d := d) hl cs 0 (fun _ => 0, 0) G' hok hh (by show 0 ≤ 28; omega) (by omega) (by rw [e2]; exact h.1) (fun j hj => by rw [e1, Nat.zero_add]; exact h.2 j hj) (fun j hj => absurd hj (by show ¬ j < 0; omega))
  exact ⟨G'', by rw [e_X2_valueOf]; exact e, f⟩
/-! the reference -/
theorem r_val_l {w c d : Int32} : ∀ (cs : List mC) (i : Nat) (e : mE) (G : tH), (∀ x, x ∈ cs → okc x) → hs cs e.2 = some 1 → e.2 ≤ 28 → i + cs.length < 2200 → (∀ j, j < cs.length → gA G 1111 0 (i + j) = nI (cs.getD j (0, 0)).1 ∧ gA G 1112 0 (i + j) = nI (cs.getD j (0, 0)).2) → gA G 1111 0 (i + cs.length) = nI 0 → gA G 1122 0 0 = w → gA G 1122 0 1 = c → gA G 1122 0 2 = d → agr (gA G 1123 0) e.1 e.2 → ∃ G', V_X11_worthAt_4 (nI e.2) (nI i) G = some (some (vI ((ev w c d cs e).1 0)), G') ∧ tfr (fun f _ => f = 1123) G G'
  | [], i, e, G, hok, hh, h28, hi, hc, hE, g0, g1, g2, ha => by
    have e1 : e.2 = 1 := Option.some.inj hh
    have hi' : i < 2200 := hi
    have hE' : gA G 1111 0 i = nI 0 := hE
    refine ⟨G, ?_, tfr.rf⟩
    rw [e_X11_worthAt_4, ttin (by omega) (by omega), nI_clamp (by omega), hE', tn0, ttin (by omega) (by omega), nI_clamp (by omega), ha 0 (by omega)]
    rfl
  | x :: cs, i, e, G, hok, hh, h28, hi, hc, hE, g0, g1, g2, ha => by
    have hi' : i + (cs.length + 1) < 2200 := hi
    obtain ⟨hx0, hx1⟩ : gA G 1111 0 i = nI x.1 ∧ gA G 1112 0 i = nI x.2 := hc 0 (by rw [List.length_cons]; omega)
    have hokx := hok x (List.mem_cons_self ..)
    have hh' : (hx x.1 e.2).bind (hs cs) = some 1 := hh
    have next : ∀ (G1 : tH) (k : Nat) (v : Int32), G1 = sA G 1123 0 (upd (gA G 1123 0) k v) → hs cs (ev1 w c d e x).2 = some 1 → (ev1 w c d e x).2 ≤ 28 → agr (upd (gA G 1123 0) k v) (ev1 w c d e x).1 (ev1 w c d e x).2 → ∃ G', V_X11_worthAt_4 (nI (ev1 w c d e x).2) (nI (i + 1)) G1 = some (some (vI ((ev w c d (x :: cs) e).1 0)), G') ∧ tfr (fun f _ => f = 1123) G G' := by
      intro G1 k v hG1 b1 b2 b3
      have f1 : tfr (fun f _ => f = 1123) G G1 := by rw [hG1]; exact tfr.sA rfl
      have n1 := (f1 1111 0 (by omega)).2.2.2.1
      have n2 := (f1 1112 0 (by omega)).2.2.2.1
      have n3 := (f1 1122 0 (by omega)).2.2.2.1
      obtain ⟨G', e1, f2⟩ := r_val_l (w := w) (c := c) (d := d) cs (i + 1) (ev1 w c d e x) G1 (fun y hy => hok y (List.mem_cons_of_mem _ hy)) b1 b2 (by omega) (fun j hj => by
        rw [n1, n2, show i + 1 + j = i + (j + 1) by omega]
        exact hc (j + 1) (by rw [List.length_cons]; omega)) (by rw [n1, show i + 1 + cs.length = i + (cs.length + 1) by omega]; exact hE) (by rw [n3]; exact g0) (by rw [n3]; exact g1) (by rw [n3]; exact g2) (by rw [hG1, gA_eq]; exact b3)
      exact ⟨G', e1, f1.tr f2⟩
    rw [e_X11_worthAt_4, ttin (by omega) (by omega), nI_clamp (by omega), hx0]
    obtain ⟨o, a⟩ := x
    have ho1 : 1 ≤ o ∧ o ≤ 10 := by unfold okc at hokx; show 1 ≤ (o, a).1 ∧ (o, a).1 ≤ 10; omega
    rw [show (o, a).1 = o from rfl, tz0M (by omega) (by omega), ttin (by omega) (by omega)]
    rcases hokx with ⟨h1, h2⟩ | ⟨h1, h2⟩ | h1 | h1
    · have h1 : o = 1 := h1
      subst h1
      have hh2 : e.2 < 28 ∧ hs cs (e.2 + 1) = some 1 := by
        unfold hx at hh'
        rw [if_pos (show (1, a).1 ≤ 2 by show 1 ≤ 2; omega)] at hh'
        by_cases w1 : e.2 < 28
        · rw [if_pos w1] at hh'; exact ⟨w1, hh'⟩
        · rw [if_neg w1] at hh'; cases hh'
      rw [tif_pos rfl, e_X11_worthAt_33, tif_pos rfl, ttin (by omega) (by omega), ttin (by omega) (by omega), nI_clamp (by omega), nI_clamp (by omega), hx1]
      dsimp only
      rw [nI_add, nI_add]
      exact next _ e.2 (nI a) rfl hh2.2 (by show e.2 + 1 ≤ 28; omega) (agr_u ha (Nat.le_refl _))
    · have h1 : o = 2 := h1
      subst h1
      have hh2 : e.2 < 28 ∧ hs cs (e.2 + 1) = some 1 := by
        unfold hx at hh'
        rw [if_pos (show (2, a).1 ≤ 2 by show 2 ≤ 2; omega)] at hh'
        by_cases w1 : e.2 < 28
        · rw [if_pos w1] at hh'; exact ⟨w1, hh'⟩
        · rw [if_neg w1] at hh'; cases hh'
      have h2 : a < 3 := h2
      have hx1 : gA G 1112 0 i = nI a := hx1
      have hf : gA G 1122 0 a = fct a w c d := by
        rcases (show a = 0 ∨ a = 1 ∨ a = 2 by omega) with q | q | q <;> subst q
        · exact g0
        · exact g1
        · exact g2
      rw [tif_neg (by decide +kernel), tif_pos rfl, e_X11_worthAt_33, tif_neg (by decide +kernel), ttin (by omega) (by omega), nI_clamp (by omega), hx1, ttin h2 (by omega), ttin (by omega) (by omega), nI_clamp (by omega), nI_clamp (by omega), hf]
      dsimp only
      rw [nI_add, nI_add]
      exact next _ e.2 (fct a w c d) rfl hh2.2 (by show e.2 + 1 ≤ 28; omega) (agr_u ha (Nat.le_refl _))
    · have h1 : o = 3 := h1
      subst h1
      have hh2 : 1 ≤ e.2 ∧ hs cs e.2 = some 1 := by
        unfold hx at hh'
        rw [if_neg (show ¬ (3, a).1 ≤ 2 by show ¬ 3 ≤ 2; omega), if_pos rfl] at hh'
        by_cases w1 : 1 ≤ e.2
        · rw [if_pos w1] at hh'; exact ⟨w1, hh'⟩
        · rw [if_neg w1] at hh'; cases hh'
      have ea := ha (e.2 - 1) (by omega)
      rw [tif_neg (by decide +kernel), tif_neg (by decide +kernel), tif_pos rfl, nI_sub hh2.1, ttin (by omega) (by omega), nI_clamp (by omega), ea, ttin (by omega) (by omega)]
      dsimp only
      rw [nI_add]
      by_cases w1 : e.1 (e.2 - 1) = 0
      · rw [tif_pos w1]
        have := next _ (e.2 - 1) (pif (e.1 (e.2 - 1) = 0) (nI 1) (nI 0)) rfl hh2.2 h28 (agr_v ha)
        rw [pif_1 w1] at this
        exact this
      · rw [tif_neg w1, ttin (by omega) (by omega)]
        have := next _ (e.2 - 1) (pif (e.1 (e.2 - 1) = 0) (nI 1) (nI 0)) rfl hh2.2 h28 (agr_v ha)
        rw [pif_0 w1] at this
        exact this
    · have h1 : 4 ≤ o ∧ o ≤ 10 := h1
      have hh2 : 2 ≤ e.2 ∧ hs cs (e.2 - 1) = some 1 := by
        unfold hx at hh'
        rw [if_neg (show ¬ (o, a).1 ≤ 2 by show ¬ o ≤ 2; omega), if_neg (show ¬ (o, a).1 = 3 by show ¬ o = 3; omega)] at hh'
        by_cases w1 : 2 ≤ e.2
        · rw [if_pos w1] at hh'; exact ⟨w1, hh'⟩
        · rw [if_neg w1] at hh'; cases hh'
      have eb := ha (e.2 - 1) (by omega)
      have ea := ha (e.2 - 2) (by omega)
      have em : nI e.2 + (-1 : Int32) = nI (e.2 - 1) := by rw [show e.2 = (e.2 - 1) + 1 by omega, pk_m1]; rfl
      rw [teqM (by omega) (by omega) (by omega), teqM (by omega) (by omega) (by omega), teqM (by omega) (by omega) (by omega), em, nI_sub (by omega), show e.2 - 1 - 1 = e.2 - 2 by omega, ttin (by omega) (by omega), ttin (by omega) (by omega), nI_clamp (by omega), nI_clamp (by omega), eb, ea, r_both h1, tbI_v, ttin (by omega) (by omega)]
      dsimp only
      rw [nI_add]
      have e1 : ev1 w c d e (o, a) = (upd e.1 (e.2 - 2) (bo o (e.1 (e.2 - 2)) (e.1 (e.2 - 1))), e.2 - 1) := by
        unfold ev1
        rw [if_neg (show ¬ (o, a).1 = 1 by show ¬ o = 1; omega), if_neg (show ¬ (o, a).1 = 2 by show ¬ o = 2; omega), if_neg (show ¬ (o, a).1 = 3 by show ¬ o = 3; omega)]
      have := next _ (e.2 - 2) (bo o (e.1 (e.2 - 2)) (e.1 (e.2 - 1))) rfl (by rw [e1]; exact hh2.2) (by rw [e1]; show e.2 - 1 ≤ 28; omega) (by rw [e1]; exact agr_v (fun j hj => ha j (by have : j < e.2 - 1 := hj; omega)))
      rw [e1] at this
      exact this
/-- codes of the reference, from a place on -/
def RC (A B : Nat → Int32) (i : Nat) (cs : List mC) : Prop := (∀ j, j < cs.length → A (i + j) = nI (cs.getD j (0, 0)).1 ∧ B (i + j) = nI (cs.getD j (0, 0)).2) ∧ A (i + cs.length) = nI 0
theorem r_val {G : tH} {t i : Nat} {cs : List mC} (ht : gA G 1110 0 (6 + t) = nI i) (h : RC (gA G 1111 0) (gA G 1112 0) i cs) (hl : i + cs.length < 1100) (hok : ∀ x, x ∈ cs → okc x) (hh : hs cs 0 = some 1) : rL G t (lval cs) := by
  refine Or.inr ⟨by rw [ht]; exact nI_pos (by omega), fun G' e1 e2 => ?_⟩
  obtain ⟨G'', e, f⟩ := r_val_l (w := gA G' 1122 0 0) (c := gA G' 1122 0 1) (d := gA G' 1122 0 2) cs i (fun _ => 0, 0) G' hok hh (by show 0 ≤ 28; omega) (by omega) (fun j hj => by rw [e1 _ (by omega), e2 _ (by omega)]; exact h.1 j hj) (by rw [e1 _ (by omega)]; exact h.2) rfl rfl rfl (fun j hj => absurd hj (by show ¬ j < 0; omega))
  exact ⟨G'', by rw [ht, e_X11_worthAt]; exact e, f⟩
theorem lval_20 (w c d : Int32) : lval [(1, 20)] w c d = nI 20 := rfl
theorem lval_d (w c d : Int32) : lval [(2, 2)] w c d = d := rfl
