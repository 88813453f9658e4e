/-! CONSTRUCTORS: the class' world in the typed heap -/
def tlF (i : Nat) : Nat → Int32 := fun j => if j < i then -1 else 0
theorem tlF_up {i : Nat} : upd (tlF i) i (-1) = tlF (i + 1) := by
  funext j
  unfold upd tlF
  by_cases h : j = i
  · rw [if_pos h, if_pos (by omega)]
  · rw [if_neg h]
    by_cases h2 : j < i
    · rw [if_pos h2, if_pos (by omega)]
    · rw [if_neg h2, if_neg (by omega)]
def zwF : Nat → Int64 := fun j => ([1034460, 24619264, 8762515035, 6395136, 20630012061, 14052286, 765438, 19830538, 15769678, 30910767, 37966778, 2793, 2503055, 791486, 3075, 3041219, 1273225, 1014841, 615203, 153784, 36421547, 4672476, 26793, 6251562, 30596128, 924194, 30919646, 831669, 583580781, 36646821, 27001236, 305638, 19741, 1891, 573, 1604349645, 177172, 209551] : List Int64).getD j 0
def G00 : tH := (fun f _ => if f = 807 then 32 else if f = 106 then -1 else if f = 107 then -1 else if f = 710 then -1 else if f = 512 then 10 else if f = 201 then 1 else 0,
  fun _ _ => 0,
  fun f _ => if f = 1002 then 1 else if f = 1004 then 1 else 0,
  fun c o => if c = 200 then (if o % 2 = 0 then upd (fun _ => 0) 0 20 else upd (fun _ => 0) 0 (-11)) else if c = 1011 then tlF 5 else fun _ => 0,
  fun c _ => if c = 1109 then zwF else fun _ => 0)
def gad (h0 mk mt tl : Nat) (a8 : Nat → Nat) (a5 a4 a7 : Nat → Nat → Nat) (a9 a3 a1 a0 : Nat → Nat) : Nat → Nat → Nat := fun c o => match c with
  | 0 => a0 0
  | 1 => a1 0
  | 2 => a5 (o / 2) (30 + 4 * (o % 2))
  | 3 => a3 0
  | 4 => a4 o 0
  | 5 => a5 o 0
  | 6 => a5 (o / 4) (20 + 2 * (o % 4))
  | 7 => a7 o 0
  | 8 => a8 0
  | 9 => a9 0
  | 10 => h0
  | 104 => a1 5
  | 105 => a1 6
  | 200 => a5 (o / 2) (31 + 4 * (o % 2))
  | 202 => a5 (o / 2) (33 + 4 * (o % 2))
  | 300 => a3 1
  | 301 => a3 2
  | 302 => a3 3
  | 401 => a4 o 2
  | 402 => a4 o 3
  | 403 => a4 o 4
  | 504 => a5 o 5
  | 505 => a5 o 6
  | 506 => a5 o 7
  | 507 => a5 o 8
  | 508 => a5 o 9
  | 509 => a5 o 10
  | 510 => a5 o 11
  | 511 => a5 o 12
  | 600 => a5 (o / 4) (21 + 2 * (o % 4))
  | 701 => a7 o 2
  | 702 => a7 o 3
  | 703 => a7 o 4
  | 704 => a7 o 5
  | 705 => a7 o 6
  | 706 => a7 o 7
  | 707 => a7 o 8
  | 800 => a8 1
  | 900 => a9 1
  | 1008 => mk
  | 1009 => mt
  | 1011 => tl
  | _ => 0
def P7 (o : Nat) : List (Nat × Nat) := [(7, o), (701, o), (702, o), (703, o), (704, o), (705, o), (706, o), (707, o)]
def PS (b : Nat) : Nat → List (Nat × Nat)
  | 0 => []
  | n + 1 => PS b n ++ P7 (b + n)
def P8 : List (Nat × Nat) := [(8, 0), (800, 0)]
def P50 : List (Nat × Nat) := [(5, 0), (6, 0), (600, 0), (6, 1), (600, 1), (6, 2), (600, 2), (6, 3), (600, 3), (504, 0), (505, 0), (506, 0), (507, 0), (508, 0), (509, 0), (510, 0), (511, 0), (202, 0), (202, 1), (2, 0), (200, 0), (2, 1), (200, 1)]
def P51 : List (Nat × Nat) := [(5, 1), (6, 4), (600, 4), (6, 5), (600, 5), (6, 6), (600, 6), (6, 7), (600, 7), (504, 1), (505, 1), (506, 1), (507, 1), (508, 1), (509, 1), (510, 1), (511, 1), (202, 2), (202, 3), (2, 2), (200, 2), (2, 3), (200, 3)]
def P40 : List (Nat × Nat) := [(4, 0), (401, 0), (402, 0), (403, 0)]
def P41 : List (Nat × Nat) := [(4, 1), (401, 1), (402, 1), (403, 1)]
def P3 : List (Nat × Nat) := [(3, 0), (300, 0), (301, 0), (302, 0)]
def P1 : List (Nat × Nat) := [(1, 0), (104, 0), (105, 0)]
def PX0 : List (Nat × Nat) := [(0, 0)]
def L10 : List (Nat × Nat) := (10, 0) :: (1011, 0) :: (1008, 0) :: (1009, 0) :: ((((9, 0) :: (900, 0) :: PS 2 17) ++ (P8 ++ P50 ++ P51 ++ P40 ++ P41 ++ P7 0 ++ P7 1) ++ P3 ++ P1 ++ PX0) ++ PS 19 4)
section GAD
variable {E : tE} {h0 mk mt tl : Nat} {a8 : Nat → Nat} {a5 a4 a7 : Nat → Nat → Nat} {a9 a3 a1 a0 : Nat → Nat}
theorem tCo_cons {E : tE} {G : tH} {q : Nat × Nat} {L : List (Nat × Nat)} : tCo E G (q :: L) = (E.2.2 q.1 q.2, tcell E G q.1 q.2) :: tCo E G L := rfl
theorem g_P7 (o : Nat) : tCo (E.1, E.2.1, gad h0 mk mt tl a8 a5 a4 a7 a9 a3 a1 a0) G00 (P7 o) = nW7 E (a5 0 0) (a7 o) := by
  have e : 1 * o + 0 = o := by omega
  unfold P7 nW7
  simp only [tCo_cons]
  unfold tcell
  simp only [tlay, tfl, tfv, e]
  rfl
theorem g_PS (b : Nat) : ∀ n, tCo (E.1, E.2.1, gad h0 mk mt tl a8 a5 a4 a7 a9 a3 a1 a0) G00 (PS b n) = stL E (a5 0 0) (fun i => a7 (b + i)) n
  | 0 => rfl
  | n + 1 => by
    show tCo _ _ (PS b n ++ P7 (b + n)) = stL E (a5 0 0) (fun i => a7 (b + i)) n ++ nW7 E (a5 0 0) (a7 (b + n))
    rw [tCo_app, g_PS b n, g_P7]
theorem g_P8 : tCo (E.1, E.2.1, gad h0 mk mt tl a8 a5 a4 a7 a9 a3 a1 a0) G00 P8 = nW8 E a8 := rfl
theorem g_P50 : tCo (E.1, E.2.1, gad h0 mk mt tl a8 a5 a4 a7 a9 a3 a1 a0) G00 P50 = nW5 E (a5 0) := rfl
theorem g_P51 : tCo (E.1, E.2.1, gad h0 mk mt tl a8 a5 a4 a7 a9 a3 a1 a0) G00 P51 = nW5 E (a5 1) := rfl
theorem g_P40 : tCo (E.1, E.2.1, gad h0 mk mt tl a8 a5 a4 a7 a9 a3 a1 a0) G00 P40 = nW4 E (a4 0) := rfl
theorem g_P41 : tCo (E.1, E.2.1, gad h0 mk mt tl a8 a5 a4 a7 a9 a3 a1 a0) G00 P41 = nW4 E (a4 1) := rfl
theorem g_P3 : tCo (E.1, E.2.1, gad h0 mk mt tl a8 a5 a4 a7 a9 a3 a1 a0) G00 P3 = nW3 E a3 := rfl
theorem g_P1 : tCo (E.1, E.2.1, gad h0 mk mt tl a8 a5 a4 a7 a9 a3 a1 a0) G00 P1 = nW1 E (a5 0 0) a1 := rfl
theorem g_P0 : tCo (E.1, E.2.1, gad h0 mk mt tl a8 a5 a4 a7 a9 a3 a1 a0) G00 PX0 = nW0 E a0 := rfl
theorem g_L10 : tCo (E.1, E.2.1, gad h0 mk mt tl a8 a5 a4 a7 a9 a3 a1 a0) G00 L10 = (h0, .inr (10, [.ref (a8 0), .ref (a5 0 0), .ref (a5 1 0), .ref (a4 0 0), .ref (a4 1 0), .ref (a7 0 0), .ref (a7 1 0), .ref (a9 0), .ref mk, .ref mt, .int 0, .ref tl, .ref (a3 0), .ref (a1 0), .ref (a0 0)])) :: (tl, .inl (E.2.1 0, 5, .inl (tlF 5))) :: (mk, .inl (E.2.1 4, 4, .inr (.inr (.inr (.inr fun i => some (a7 (19 + i) 0)))))) :: (mt, .inl (E.2.1 0, 20, .inl fun _ => 0)) ::
    ((((a9 0, .inr (9, [.ref (a9 1), .int 0, .int 0])) :: (a9 1, .inl (E.2.1 4, 17, .inr (.inr (.inr (.inr fun i => some (a7 (2 + i) 0)))))) :: stL E (a5 0 0) (fun i => a7 (2 + i)) 17) ++ (nW8 E a8 ++ nW5 E (a5 0) ++ nW5 E (a5 1) ++ nW4 E (a4 0) ++ nW4 E (a4 1) ++ nW7 E (a5 0 0) (a7 0) ++ nW7 E (a5 0 0) (a7 1)) ++ nW3 E a3 ++ nW1 E (a5 0 0) a1 ++ nW0 E a0) ++ stL E (a5 0 0) (fun i => a7 (19 + i)) 4) := by
  unfold L10
  rw [tCo_cons, tCo_cons, tCo_cons, tCo_cons, tCo_app, tCo_app, tCo_app, tCo_app, tCo_app, tCo_app, tCo_app, tCo_app, tCo_app, tCo_app, tCo_app, tCo_cons, tCo_cons, g_PS, g_PS, g_P8, g_P50, g_P51, g_P40, g_P41, g_P7, g_P7, g_P3, g_P1, g_P0]
  rfl
end GAD
theorem nV.atn {E : tE} {A : Nat → Prop} {s : State} (w1 : va_W) {w2 : va_W} {a : Nat} {e e' : va_E} {H : Heap} {locs : List Loc} (h : nV E A s (w1 ++ (a, e) :: w2) H locs) (he : va_at E.1 vwCl (a, e) H → va_at E.1 vwCl (a, e') H) : nV E A s (w1 ++ (a, e') :: w2) H locs := by
  obtain ⟨hP, hD, hS⟩ := h
  obtain ⟨d1, d2⟩ := va_D.iff.mp hD
  refine ⟨va_P.iff.mpr fun q hq => ?_, va_D.iff.mpr ⟨?_, fun q hq => ?_⟩, hS⟩
  · rcases List.mem_append.mp hq with h | h
    · exact va_P.iff.mp hP q (List.mem_append_left _ h)
    · rcases List.mem_cons.mp h with h | h
      · rw [h]; exact he (va_P.iff.mp hP (a, e) (List.mem_append_right _ List.mem_cons_self))
      · exact va_P.iff.mp hP q (List.mem_append_right _ (List.mem_cons_of_mem _ h))
  · have h1 : ((w1 ++ (a, e) :: w2).map (·.1)).Pairwise (· ≠ ·) := List.pairwise_map.mpr d1
    refine List.pairwise_map.mp (show ((w1 ++ (a, e') :: w2).map (·.1)).Pairwise (· ≠ ·) from ?_)
    rw [List.map_append, List.map_cons] at h1 ⊢
    exact h1
  · rcases List.mem_append.mp hq with h | h
    · exact d2 q (List.mem_append_left _ h)
    · rcases List.mem_cons.mp h with h | h
      · rw [h]; exact d2 (a, e) (List.mem_append_right _ List.mem_cons_self)
      · exact d2 q (List.mem_append_right _ (List.mem_cons_of_mem _ h))
theorem prm3 {α : Type} {a b c : α} {l : List α} : (a :: b :: c :: l).Perm (c :: a :: b :: l) := ((List.Perm.swap c b l).cons a).trans (List.Perm.swap c a (b :: l))
