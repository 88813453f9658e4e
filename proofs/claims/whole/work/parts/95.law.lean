/-! PURE: a law is read by both alike: what is known of it while it is read -/
def zLc (q : Nat) : Nat → Nat → Prop := fun f o => (802 ≤ f ∧ f ≤ 808) ∨ ((f = 200 ∨ f = 201) ∧ o = q)
def zLr : Nat → Nat → Prop := fun f _ => f = 1107 ∨ f = 1108 ∨ f = 1111 ∨ f = 1112 ∨ f = 1113
def FRM (q b : Nat) (Gc Gr Gc' Gr' : tH) : Prop := tfr (zLc q) Gc Gc' ∧ tfr zLr Gr Gr' ∧ ∀ i, i < 1100 + b → gA Gr' 1111 0 i = gA Gr 1111 0 i ∧ gA Gr' 1112 0 i = gA Gr 1112 0 i
theorem FRM.rf {q b : Nat} {Gc Gr : tH} : FRM q b Gc Gr Gc Gr := ⟨tfr.rf, tfr.rf, fun _ _ => ⟨rfl, rfl⟩⟩
theorem FRM.tr {q b : Nat} {Gc Gr Gc1 Gr1 Gc2 Gr2 : tH} (h : FRM q b Gc Gr Gc1 Gr1) (h' : FRM q b Gc1 Gr1 Gc2 Gr2) : FRM q b Gc Gr Gc2 Gr2 := ⟨h.1.tr h'.1, h.2.1.tr h'.2.1, fun i hi => ⟨(h'.2.2 i hi).1.trans (h.2.2 i hi).1, (h'.2.2 i hi).2.trans (h.2.2 i hi).2⟩⟩
def LQ (z : mZ) (N q b : Nat) (Gc Gr : tH) (k : Nat) (cs : List mC) : Prop := CT Gc z k ∧ gI Gc 808 0 = nI 0 ∧ RT Gr z N k ∧ CL Gc q cs ∧ gI Gr 1113 0 = nI (b + cs.length) ∧ ∀ i, i < cs.length → gA Gr 1111 0 (1100 + b + i) = nI (cs.getD i (0, 0)).1 ∧ gA Gr 1112 0 (1100 + b + i) = nI (cs.getD i (0, 0)).2
def SUC (z : mZ) (N q b : Nat) (rc rr : Option tRes) (Gc Gr : tH) (k : Nat) (cs : List mC) (d M : Nat) : Prop := ∃ Gc' Gr' k' e, rc = some (some (vI (nI 1)), Gc') ∧ rr = some (none, Gr') ∧ LQ z N q b Gc' Gr' k' (cs ++ e) ∧ hM e M ∧ (∀ c, c ∈ e → okc c) ∧ k + e.length ≤ k' ∧ k < k' ∧ d ≤ 4 ∧ FRM q b Gc Gr Gc' Gr'
def FAI (N q b : Nat) (rc rr : Option tRes) (Gc Gr : tH) (k n : Nat) : Prop := ∃ Gc' Gr' v c' k' ln, rc = some (some (vI (nI 0)), Gc') ∧ gI Gc' 808 0 = nI v ∧ rr = some (none, Gr') ∧ RF Gr' v ∧ gI Gr' 1113 0 = nI c' ∧ gI Gr' 1107 0 = nI k' ∧ k' ≤ N ∧ c' + k ≤ k' + (b + n) ∧ b ≤ c' ∧ gI Gc' 201 q = nI ln ∧ ln ≤ 1000 ∧ FRM q b Gc Gr Gc' Gr'
def OUT (z : mZ) (N q b : Nat) (rc rr : Option tRes) (Gc Gr : tH) (k : Nat) (cs : List mC) (d M : Nat) : Prop := SUC z N q b rc rr Gc Gr k cs d M ∨ FAI N q b rc rr Gc Gr k cs.length
theorem gd_l {α : Type} {d : α} : ∀ (a b : List α) i, i < a.length → (a ++ b).getD i d = a.getD i d
  | [], _, i, h => absurd h (Nat.not_lt_zero i)
  | _ :: _, _, 0, _ => rfl
  | _ :: a, b, i + 1, h => gd_l a b i (Nat.lt_of_succ_lt_succ h)
theorem gd_r {α : Type} {d : α} : ∀ (a : List α) x, (a ++ [x]).getD a.length d = x
  | [], _ => rfl
  | _ :: a, x => gd_r a x
def addG (G : tH) (q n : Nat) (x : Int32) : tH := sI (sA G 200 q (upd (gA G 200 q) n x)) 201 q (nI (n + 1))
theorem c_add {G : tH} {q n : Nat} {x : Int32} (h : gI G 201 q = nI n) (hn : n < 1000) : V_X2_add q x G = some (none, addG G q n x) := by
  rw [e_X2_add, h, show (Int32.ofNat 1000 : Int32) = nI 1000 from rfl, tltP (by omega) (by omega) hn, ttin hn (by omega), nI_clamp (by omega)]
  dsimp only
  rw [gI_sA, h, nI_add]
  rfl
theorem c_addF {G : tH} {q n : Nat} {x : Int32} (h : gI G 201 q = nI n) (hn : n ≤ 1000) : ∃ G' n', V_X2_add q x G = some (none, G') ∧ gI G' 201 q = nI n' ∧ n' ≤ 1000 ∧ tfr (fun f o => (f = 200 ∨ f = 201) ∧ o = q) G G' := by
  by_cases e : n < 1000
  · exact ⟨_, n + 1, c_add h e, gI_eq, e, tfrI (tfr.sA ⟨Or.inl rfl, rfl⟩) ⟨Or.inr rfl, rfl⟩⟩
  · refine ⟨G, n, ?_, h, hn, tfr.rf⟩
    rw [e_X2_add, h, show (Int32.ofNat 1000 : Int32) = nI 1000 from rfl, tltM (by omega) (by omega) (by omega)]
def emG (G : tH) (c o a : Nat) : tH := sI (sA (sA G 1111 0 (upd (gA G 1111 0) (1100 + c) (nI o))) 1112 0 (upd (gA (sA G 1111 0 (upd (gA G 1111 0) (1100 + c) (nI o))) 1112 0) (1100 + c) (nI a))) 1113 0 (nI (c + 1))
theorem r_emit {G : tH} {c o a : Nat} (h : gI G 1113 0 = nI c) (hc : c < 1100) : V_X11_emit (nI o) (nI a) G = some (none, emG G c o a) := by
  rw [e_X11_emit, h, nI_add, ttin (by omega) (by omega), nI_clamp (by omega)]
  dsimp only
  rw [gI_sA, h, nI_add, ttin (by omega) (by omega), nI_clamp (by omega)]
  simp only [gI_sA, h, nI_add]
  rfl
theorem em_fr {G : tH} {c o a : Nat} : tfr zLr G (emG G c o a) := tfrI (tfrA (tfr.sA (by unfold zLr; omega)) (by unfold zLr; omega)) (by unfold zLr; omega)
theorem em_fr2 {G : tH} {c o a : Nat} : tfr (fun f _ => f = 1111 ∨ f = 1112 ∨ f = 1113) G (emG G c o a) := tfrI (tfrA (tfr.sA (by omega)) (by omega)) (by omega)
theorem em_at {G : tH} {c o a i : Nat} (hi : i ≠ 1100 + c) : gA (emG G c o a) 1111 0 i = gA G 1111 0 i ∧ gA (emG G c o a) 1112 0 i = gA G 1112 0 i := by
  unfold emG
  constructor
  · rw [gA_sI, gA_ne (by omega), gA_eq, upd_ne hi]
  · rw [gA_sI, gA_eq, upd_ne hi, gA_ne (by omega)]
theorem em_new {G : tH} {c o a : Nat} : gA (emG G c o a) 1111 0 (1100 + c) = nI o ∧ gA (emG G c o a) 1112 0 (1100 + c) = nI a := by
  unfold emG
  constructor
  · rw [gA_sI, gA_ne (by omega), gA_eq, upd_eq]
  · rw [gA_sI, gA_eq, upd_eq]
theorem em_n {G : tH} {c o a : Nat} : gI (emG G c o a) 1113 0 = nI (c + 1) := gI_eq
theorem add_fr {G : tH} {q n : Nat} {x : Int32} : tfr (fun f o => (f = 200 ∨ f = 201) ∧ o = q) G (addG G q n x) := tfrI (tfr.sA ⟨Or.inl rfl, rfl⟩) ⟨Or.inr rfl, rfl⟩
theorem LQ.push {z : mZ} {N q b k : Nat} {Gc Gr : tH} {cs : List mC} (h : LQ z N q b Gc Gr k cs) (x : mC) : LQ z N q b (addG Gc q cs.length (stp x)) (emG Gr (b + cs.length) x.1 x.2) k (cs ++ [x]) ∧ FRM q b Gc Gr (addG Gc q cs.length (stp x)) (emG Gr (b + cs.length) x.1 x.2) := by
  obtain ⟨h1, h2, h3, h4, h5, h6⟩ := h
  refine ⟨⟨h1.kept add_fr (fun f a b => by omega), ?_, h3.kept em_fr2 (fun f a b => by omega), ⟨?_, fun i hi => ?_⟩, ?_, fun i hi => ?_⟩, add_fr.mono fun f o w => by unfold zLc; omega, em_fr, fun i hi => em_at (by omega)⟩
  · rw [(add_fr 808 0 (by omega)).1]; exact h2
  · unfold addG; rw [gI_eq, List.length_append]; rfl
  · rw [List.length_append] at hi
    have hi : i < cs.length + 1 := hi
    unfold addG
    rw [gA_sI, gA_eq]
    by_cases e : i = cs.length
    · rw [e, upd_eq, gd_r]
    · rw [upd_ne e, gd_l _ _ _ (by omega)]; exact h4.2 i (by omega)
  · rw [em_n, List.length_append]; rfl
  · rw [List.length_append] at hi
    have hi : i < cs.length + 1 := hi
    by_cases e : i = cs.length
    · rw [e, gd_r, Nat.add_assoc]; exact em_new
    · rw [gd_l _ _ _ (by omega), (em_at (by omega)).1, (em_at (by omega)).2]; exact h6 i (by omega)
theorem LQ.go {z : mZ} {N q b k k' : Nat} {Gc Gc' Gr : tH} {cs : List mC} (h : LQ z N q b Gc Gr k cs) (hc : CT Gc' z k') (hf : tfr zTk Gc Gc') (hk : k' ≤ N) : LQ z N q b Gc' (sI Gr 1107 0 (nI k')) k' cs ∧ FRM q b Gc Gr Gc' (sI Gr 1107 0 (nI k')) := by
  obtain ⟨h1, h2, h3, h4, h5, h6⟩ := h
  refine ⟨⟨hc, ?_, h3.at hk, ?_, by rw [gI_ne (by omega)]; exact h5, h6⟩, hf.mono fun f o w => by unfold zTk at w; unfold zLc; omega, tfr.sI (by unfold zLr; omega), fun _ _ => ⟨rfl, rfl⟩⟩
  · rw [(hf 808 0 (by unfold zTk; omega)).1]; exact h2
  · unfold CL
    rw [(hf 201 q (by unfold zTk; omega)).1, (hf 200 q (by unfold zTk; omega)).2.2.2.1]
    exact h4
theorem CL.kept {G G' : tH} {q : Nat} {cs : List mC} {S : Nat → Nat → Prop} (h : CL G q cs) (hf : tfr S G G') (h0 : ¬ S 200 q) (h1 : ¬ S 201 q) : CL G' q cs := by
  unfold CL
  rw [(hf 201 q h1).1, (hf 200 q h0).2.2.2.1]
  exact h
/-- both find the same fault at a token -/
theorem LQ.bad {z : mZ} {N q b k k0 n0 w : Nat} {Gc Gr Gc0 Gr0 : tH} {cs : List mC} (hT : TK z N) (h : LQ z N q b Gc Gr k cs) (hw : 1 ≤ w) (hw2 : w ≤ 5) (hb : cs.length ≤ 1000) (hk : b + cs.length + k0 ≤ k + (b + n0)) (hf : FRM q b Gc0 Gr0 Gc Gr) : FAI N q b (some (some (vI (nI 0)), sI Gc 808 0 (nI (fv z k w)))) (some (none, sI Gr 1108 0 (nI (fv z k w)))) Gc0 Gr0 k0 n0 := by
  obtain ⟨h1, h2, h3, h4, h5, h6⟩ := h
  refine ⟨_, _, fv z k w, b + cs.length, k, cs.length, rfl, gI_eq, rfl, RT.bad hT hw hw2, ?_, ?_, h3.2.1, hk, by omega, ?_, hb, hf.tr ⟨tfr.sI (by unfold zLc; omega), tfr.sI (by unfold zLr; omega), fun _ _ => ⟨rfl, rfl⟩⟩⟩
  · rw [gI_ne (by omega)]; exact h5
  · rw [gI_ne (by omega)]; exact h3.2.2.1
  · rw [gI_ne (by omega)]; exact h4.1
/-! operations -/
def sg (z : mZ) (k c : Nat) : Prop := kd z k = 3 ∧ ch z k = c
noncomputable def opA (z : mZ) (k L : Nat) : Nat := if L = 0 then pif (wN z k = 33) 9 (pif (wN z k = 34) 10 0) else if L = 1 then pif (sg z k 60) 7 (pif (sg z k 61) 8 0) else if L = 2 then pif (sg z k 43) 4 (pif (sg z k 45) 5 0) else pif (sg z k 42) 6 0
theorem fi_14 : ∀ n, n ≤ 38 → fi (sW 14) 0 n = if n = 33 then some 0 else if n = 34 then some 1 else none := by decide +kernel
theorem pif_c {c : Prop} {x y a : Nat} (h : pif c x y = a) : (c ∧ x = a) ∨ (¬ c ∧ y = a) := by
  by_cases q : c
  · rw [pif_1 q] at h; exact Or.inl ⟨q, h⟩
  · rw [pif_0 q] at h; exact Or.inr ⟨q, h⟩
theorem opA_in {z : mZ} {k L : Nat} (hL : L ≤ 3) (h : opA z k L ≠ 0) : 4 ≤ opA z k L ∧ opA z k L ≤ 10 ∧ kd z k ≠ 0 := by
  obtain ⟨o, ho⟩ : ∃ o, opA z k L = o := ⟨_, rfl⟩
  rw [ho] at h ⊢
  unfold opA at ho
  rcases (show L = 0 ∨ L = 1 ∨ L = 2 ∨ L = 3 by omega) with e | e | e | e <;> subst e
  · rw [if_pos rfl] at ho
    rcases pif_c ho with ⟨a, b⟩ | ⟨_, ho⟩
    · have := wN_kd (z := z) (k := k) (by omega); omega
    · rcases pif_c ho with ⟨a, b⟩ | ⟨_, b⟩
      · have := wN_kd (z := z) (k := k) (by omega); omega
      · omega
  · rw [if_neg (by omega), if_pos rfl] at ho
    rcases pif_c ho with ⟨a, b⟩ | ⟨_, ho⟩
    · have := a.1; omega
    · rcases pif_c ho with ⟨a, b⟩ | ⟨_, b⟩
      · have := a.1; omega
      · omega
  · rw [if_neg (by omega), if_neg (by omega), if_pos rfl] at ho
    rcases pif_c ho with ⟨a, b⟩ | ⟨_, ho⟩
    · have := a.1; omega
    · rcases pif_c ho with ⟨a, b⟩ | ⟨_, b⟩
      · have := a.1; omega
      · omega
  · rw [if_neg (by omega), if_neg (by omega), if_neg (by omega)] at ho
    rcases pif_c ho with ⟨a, b⟩ | ⟨_, b⟩
    · have := a.1; omega
    · omega
theorem c_op {G : tH} {z : mZ} {N k L : Nat} (hT : TK z N) (h : CT G z k) (hL : L ≤ 3) : V_X2_operationAt (nI L) G = some (some (vI (pif (opA z k L = 0) (nI 0) (stp (opA z k L, 0)))), G) := by
  obtain ⟨o, ho⟩ : ∃ o, opA z k L = o := ⟨_, rfl⟩
  rw [ho]
  unfold opA at ho
  have sg2 : ∀ c, c < 127 → V_X8_isSign (nI c) G = some (some (vI (bN (sg z k c))), G) := by
    intro c hc
    by_cases q : sg z k c
    · rw [bN_1 q]; exact c_isSign1 h q
    · rw [bN_0 q]; exact c_isSign0 hT h q hc
  have tb : ∀ (c : Prop) (x y : Option tRes), tif (bN c = 0) x y = tif c y x := by
    intro c x y
    by_cases q : c
    · rw [bN_1 q, tn1, tif_pos q]
    · rw [bN_0 q, tn0, tif_neg q]
  rcases (show L = 0 ∨ L = 1 ∨ L = 2 ∨ L = 3 by omega) with e | e | e | e <;> subst e <;> rw [e_X2_operationAt]
  · rw [if_pos rfl] at ho
    rw [tif_pos rfl, c_among h (by omega) (by omega), tbI_v, fi_14 _ wN_le]
    rcases pif_c ho with ⟨a, b⟩ | ⟨a, ho⟩
    · rw [if_pos a, ← b, pif_0 (by omega)]
      exact (tif_neg (by decide +kernel)).trans rfl
    · rw [if_neg a]
      rcases pif_c ho with ⟨a, b⟩ | ⟨a, b⟩
      · rw [if_pos a, ← b, pif_0 (by omega)]
        refine (tif_neg (by decide +kernel)).trans ?_
        have : (-1 : Int32) - oI (some 1) = stp (10, 0) := by decide +kernel
        rw [this]
      · rw [if_neg a, ← b, pif_1 rfl]
        exact tif_pos rfl
  · rw [if_neg (by omega), if_pos rfl] at ho
    rw [tif_neg (by decide +kernel), tif_pos rfl, sg2 60 (by omega), tbI_v, tb]
    rcases pif_c ho with ⟨a, b⟩ | ⟨a, ho⟩
    · rw [tif_pos a, ← b, pif_0 (by omega)]; rfl
    · rw [tif_neg a, sg2 61 (by omega), tbI_v, tb]
      rcases pif_c ho with ⟨a, b⟩ | ⟨a, b⟩
      · rw [tif_pos a, ← b, pif_0 (by omega)]; rfl
      · rw [tif_neg a, ← b, pif_1 rfl]
  · rw [if_neg (by omega), if_neg (by omega), if_pos rfl] at ho
    rw [tif_neg (by decide +kernel), tif_neg (by decide +kernel), tif_pos rfl, sg2 43 (by omega), tbI_v, tb]
    rcases pif_c ho with ⟨a, b⟩ | ⟨a, ho⟩
    · rw [tif_pos a, ← b, pif_0 (by omega)]; rfl
    · rw [tif_neg a, sg2 45 (by omega), tbI_v, tb]
      rcases pif_c ho with ⟨a, b⟩ | ⟨a, b⟩
      · rw [tif_pos a, ← b, pif_0 (by omega)]; rfl
      · rw [tif_neg a, ← b, pif_1 rfl]
  · rw [if_neg (by omega), if_neg (by omega), if_neg (by omega)] at ho
    rw [tif_neg (by decide +kernel), tif_neg (by decide +kernel), tif_neg (by decide +kernel), tif_pos rfl, sg2 42 (by omega), tbI_v, tb]
    rcases pif_c ho with ⟨a, b⟩ | ⟨a, b⟩
    · rw [tif_pos a, ← b, pif_0 (by omega)]; rfl
    · rw [tif_neg a, ← b, pif_1 rfl]
theorem gok {a b : Nat} {x y : Option tRes} (h : a < b) : cond (Nat.blt a b && true) x y = x := by
  rw [show Nat.blt a b = true from Nat.ble_eq_true_of_le h]
  rfl
theorem t6 {d : Nat} (h : d ≤ 6) : (6 - (nI d).toInt).toNat = 6 - d := by rw [nI_toInt (by omega)]; omega
theorem t5 {d : Nat} (h : d ≤ 6) : (5 - (nI d).toInt).toNat = 5 - d := by rw [nI_toInt (by omega)]; omega
noncomputable def Kc (q L d : Nat) : tH → Option tRes := V_X2_readChain (10 * (6 - d) + (5 - L)) q (nI L) (nI d)
noncomputable def Kl (q L d i : Nat) : tH → Option tRes := V_X2_readChain_29 (10 * (6 - d) + (5 - L)) q (nI L) (nI d) (nI i)
theorem Kl_0 {z : mZ} {N q L d i k : Nat} {G : tH} (hT : TK z N) (h : CT G z k) (hL : L ≤ 3) (hi : i < 1000) (ho : opA z k L = 0) : Kl q L d i G = some (some (vI (nI 1)), G) := by
  unfold Kl
  rw [e_X2_readChain_29, tltP (by omega) (by omega) hi, c_op hT h hL, tbI_v, pif_1 ho, tn0, tz1]
theorem Kl_1 {z : mZ} {N q L d i k : Nat} {G G1 : tH} (hT : TK z N) (h : CT G z k) (hL : L ≤ 3) (hd : d ≤ 5) (hi : i < 1000) (ho : opA z k L ≠ 0) (ha : V_X8_advance G = some (none, G1)) : Kl q L d i G = tbI (Kc q (L + 1) d G1) (fun r G4 => tif (r = 0) (some (some (vI (nI 0)), G4)) (tbV (V_X2_add q (stp (opA z k L, 0)) G4) (fun G6 => tif (nI L = nI 1) (some (some (vI (nI 1)), G6)) (Kl q L d (i + 1) G6)))) := by
  obtain ⟨b1, b2, b3⟩ := opA_in hL ho
  have b4 := (stp_n (opA z k L) (by omega) b1).2.2.2
  unfold Kl Kc
  rw [e_X2_readChain_29, tltP (by omega) (by omega) hi, c_op hT h hL, tbI_v, pif_0 ho, tif_neg b4, ha, tbV_v, nI_add, nI_add, t6 (by omega), t5 (by omega), gok (by omega)]
  simp only [tz0, tz1]
/-- a step of a chain -/
theorem ch_step {z : mZ} {N q b L d M i k0 k : Nat} {cs e : List mC} {Gc0 Gr0 Gc Gr : tH} {Op Hd : tH → Option tRes} (hT : TK z N) (hL : L ≤ 3) (hd : d ≤ 5) (hop : ∀ Gc Gr k cs, LQ z N q b Gc Gr k cs → b + cs.length ≤ k → OUT z N q b (Kc q (L + 1) d Gc) (Op Gr) Gc Gr k cs d M) (hF : ∀ G v, RF G v → Hd G = some (none, G)) (hP : LQ z N q b Gc Gr k (cs ++ e)) (hbk : b + (cs ++ e).length ≤ k) (he : hM e (M + 1)) (hok : ∀ c, c ∈ e → okc c) (hk0 : k0 + e.length ≤ k) (hf : FRM q b Gc0 Gr0 Gc Gr) (hi : i < 1000) (ho : opA z k L ≠ 0) :
    (∃ Gc' Gr' k' e', Kl q L d i Gc = tif (nI L = nI 1) (some (some (vI (nI 1)), Gc')) (Kl q L d (i + 1) Gc') ∧ tbV (Op (sI Gr 1107 0 (nI (k + 1)))) (fun G1 => tbV (V_X11_emit (nI (opA z k L)) (nI 0) G1) Hd) = Hd Gr' ∧ LQ z N q b Gc' Gr' k' (cs ++ e') ∧ hM e' (M + 1) ∧ (∀ c, c ∈ e' → okc c) ∧ k0 + e'.length ≤ k' ∧ k < k' ∧ b + (cs ++ e').length ≤ k' ∧ FRM q b Gc0 Gr0 Gc' Gr') ∨ FAI N q b (Kl q L d i Gc) (tbV (Op (sI Gr 1107 0 (nI (k + 1)))) (fun G1 => tbV (V_X11_emit (nI (opA z k L)) (nI 0) G1) Hd)) Gc0 Gr0 k0 cs.length := by
  obtain ⟨b1, b2, b3⟩ := opA_in hL ho
  have hN := hT.le
  have hkN := hT.lt hP.2.2.1.2.1 b3
  obtain ⟨Gc1, ea, hc1, f1⟩ := c_adv hT.1 hP.1
  obtain ⟨hP1, fr1⟩ := hP.go hc1 f1 hkN
  have hl1 : (cs ++ e).length = cs.length + e.length := List.length_append
  rw [Kl_1 hT hP.1 hL hd hi ho ea]
  rcases hop _ _ _ _ hP1 (by omega) with ⟨Gc2, Gr2, k2, e2, a1, a2, a3, a4, a5, a6, a7, a8, a9⟩ | ⟨Gc2, Gr2, v, c2, k2, ln, a1, a2, a3, a4, a5, a6, a7, a8, a9, a10, a11, a12⟩
  · refine Or.inl ?_
    have hk2 := a3.2.2.1.2.1
    have hl2 : (cs ++ e ++ e2).length = cs.length + e.length + e2.length := by rw [List.length_append, hl1]
    obtain ⟨hP2, fr2⟩ := a3.push (opA z k L, 0)
    have ec : cs ++ e ++ e2 ++ [(opA z k L, 0)] = cs ++ (e ++ (e2 ++ [(opA z k L, 0)])) := by rw [List.append_assoc, List.append_assoc]
    rw [ec] at hP2
    have el : (e ++ (e2 ++ [(opA z k L, 0)])).length = e.length + (e2.length + 1) := by rw [List.length_append, List.length_append]; rfl
    refine ⟨_, _, k2, e ++ (e2 ++ [(opA z k L, 0)]), ?_, ?_, hP2, hM_bin he a4 b1, fun c hc => ?_, by omega, by omega, by rw [List.length_append]; omega, hf.tr ((fr1.tr a9).tr fr2)⟩
    · rw [a1, tbI_v, tn1, c_add a3.2.2.2.1.1 (by omega), tbV_v]
    · rw [a2, tbV_v, r_emit a3.2.2.2.2.1 (by omega), tbV_v]
    · rcases List.mem_append.mp hc with w | w
      · exact hok c w
      · rcases List.mem_append.mp w with w | w
        · exact a5 c w
        · rw [List.mem_singleton.mp w]; exact Or.inr (Or.inr (Or.inr ⟨b1, b2⟩))
  · refine Or.inr ⟨Gc2, emG Gr2 c2 (opA z k L) 0, v, c2 + 1, k2, ln, ?_, a2, ?_, a4.kept em_fr2 (by omega), em_n, ?_, a7, by omega, by omega, a10, a11, hf.tr ((fr1.tr a12).tr ⟨tfr.rf, em_fr, fun i hi => em_at (by omega)⟩)⟩
    · rw [a1, tbI_v, tn0]
    · rw [a3, tbV_v, r_emit a5 (by omega), tbV_v]
      exact hF _ v (a4.kept em_fr2 (by omega))
    · rw [(em_fr2 1107 0 (by omega)).1]; exact a6
/-- a chain: its loop -/
theorem ch_loop {z : mZ} {N q b L d M k0 : Nat} {cs : List mC} {Gc0 Gr0 : tH} {Op Hd : tH → Option tRes} (hT : TK z N) (hL : L ≤ 3) (hL1 : L ≠ 1) (hd : d ≤ 4) (hop : ∀ Gc Gr k cs, LQ z N q b Gc Gr k cs → b + cs.length ≤ k → OUT z N q b (Kc q (L + 1) d Gc) (Op Gr) Gc Gr k cs d M) (hF : ∀ G v, RF G v → Hd G = some (none, G)) (h0 : ∀ G k, RT G z N k → opA z k L = 0 → Hd G = some (none, G)) (h1 : ∀ G k, RT G z N k → opA z k L ≠ 0 → Hd G = tbV (Op (sI G 1107 0 (nI (k + 1)))) (fun G1 => tbV (V_X11_emit (nI (opA z k L)) (nI 0) G1) Hd)) :
    ∀ m i k e Gc Gr, N - k ≤ m → LQ z N q b Gc Gr k (cs ++ e) → b + (cs ++ e).length ≤ k → hM e (M + 1) → (∀ c, c ∈ e → okc c) → k0 + e.length ≤ k → k0 < k → FRM q b Gc0 Gr0 Gc Gr → i < k → OUT z N q b (Kl q L d i Gc) (Hd Gr) Gc0 Gr0 k0 cs d (M + 1) := by
  intro m
  induction m with
  | zero =>
    intro i k e Gc Gr hm hP hbk he hok hk0 hk1 hf hi
    have hN := hT.le
    have hkN := hP.2.2.1.2.1
    have ho : opA z k L = 0 := Classical.byContradiction fun w => by
      have := hT.lt hkN (opA_in hL w).2.2
      omega
    by_cases hi2 : i < 1000
    · exact Or.inl ⟨Gc, Gr, k, e, Kl_0 hT hP.1 hL hi2 ho, h0 _ k hP.2.2.1 ho, hP, he, hok, hk0, hk1, hd, hf⟩
    · omega
  | succ m ih =>
    intro i k e Gc Gr hm hP hbk he hok hk0 hk1 hf hi
    have hN := hT.le
    have hkN := hP.2.2.1.2.1
    have hi2 : i < 1000 := by omega
    by_cases ho : opA z k L = 0
    · exact Or.inl ⟨Gc, Gr, k, e, Kl_0 hT hP.1 hL hi2 ho, h0 _ k hP.2.2.1 ho, hP, he, hok, hk0, hk1, hd, hf⟩
    · rw [h1 _ k hP.2.2.1 ho]
      rcases ch_step hT hL (by omega) hop hF hP hbk he hok hk0 hf hi2 ho with ⟨Gc2, Gr2, k2, e2, a1, a2, a3, a4, a5, a6, a7, a8, a9⟩ | a
      · rw [a1, a2, teqM (by omega) (by omega) hL1]
        exact ih (i + 1) k2 e2 Gc2 Gr2 (by omega) a3 a8 a4 a5 a6 (by omega) a9 (by omega)
      · exact Or.inr a
/-- a chain of one operation at most -/
theorem ch_once {z : mZ} {N q b d M k0 i k : Nat} {cs e : List mC} {Gc0 Gr0 Gc Gr : tH} {Op Hd : tH → Option tRes} (hT : TK z N) (hd : d ≤ 4) (hop : ∀ Gc Gr k cs, LQ z N q b Gc Gr k cs → b + cs.length ≤ k → OUT z N q b (Kc q 2 d Gc) (Op Gr) Gc Gr k cs d M) (h0 : ∀ G k, RT G z N k → opA z k 1 = 0 → Hd G = some (none, G)) (h1 : ∀ G k, RT G z N k → opA z k 1 ≠ 0 → Hd G = tbV (Op (sI G 1107 0 (nI (k + 1)))) (fun G1 => tbV (V_X11_emit (nI (opA z k 1)) (nI 0) G1) (fun G2 => some (none, G2))))
    (hP : LQ z N q b Gc Gr k (cs ++ e)) (hbk : b + (cs ++ e).length ≤ k) (he : hM e (M + 1)) (hok : ∀ c, c ∈ e → okc c) (hk0 : k0 + e.length ≤ k) (hk1 : k0 < k) (hf : FRM q b Gc0 Gr0 Gc Gr) (hi2 : i < 1000) : OUT z N q b (Kl q 1 d i Gc) (Hd Gr) Gc0 Gr0 k0 cs d (M + 1) := by
  by_cases ho : opA z k 1 = 0
  · exact Or.inl ⟨Gc, Gr, k, e, Kl_0 hT hP.1 (by omega) hi2 ho, h0 _ k hP.2.2.1 ho, hP, he, hok, hk0, hk1, hd, hf⟩
  · rw [h1 _ k hP.2.2.1 ho]
    rcases ch_step hT (by omega) (by omega) hop (fun G v _ => rfl) hP hbk he hok hk0 hf hi2 ho with ⟨Gc2, Gr2, k2, e2, a1, a2, a3, a4, a5, a6, a7, a8, a9⟩ | a
    · rw [a1, a2, tif_pos rfl]
      exact Or.inl ⟨Gc2, Gr2, k2, e2, rfl, rfl, a3, a4, a5, a6, by omega, hd, a9⟩
    · exact Or.inr a
theorem Kc_1 {q L d : Nat} {G : tH} (hL : L ≤ 3) (hd : d ≤ 5) : Kc q L d G = tbI (Kc q (L + 1) d G) (fun r G1 => tif (r = 0) (some (some (vI (nI 0)), G1)) (Kl q L d 0 G1)) := by
  unfold Kc Kl
  rw [e_X2_readChain, tltP (by omega) (by omega) (by omega), nI_add, t6 (by omega), t5 (by omega), gok (by omega)]
  simp only [tz0]
