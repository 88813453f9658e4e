/-! fields, arrays, switches, calls, ends -/
def tCl (ci : Nat) (C : String) (T : u_T) (N : Nat) (ty : Nat → FieldType) : Prop := vwCl[ci]? = some (C, T, N) ∧ (∀ w ∈ u_ws C T N, w ∈ tW) ∧ ci ∈ tcomps ∧ ci < 100 ∧ (∀ k, k < N → parseFieldDescriptor (T k).2.2.1 = some (ty k)) ∧ (∀ a, a < N → ∀ b, b < N → a ≠ b → (T a).2.1 ≠ (T b).2.1) ∧ (∀ k, k < N → (T k).1 = C) ∧ (tlay ci).length = N
theorem tvd.comps {c o : Nat} (h : tvd c o) (h1 : c ≠ 20) (h2 : c ≠ 21) (h3 : c ≠ 22) : c ∈ tcomps := h.1.elim (fun q => absurd q h1) (fun q => q.elim (fun q => absurd q h2) (fun q => (List.mem_cons.mp q).elim (fun q => absurd q h3) id))
theorem ttak : ∀ c ∈ tcomps, 100 ≤ c → tak c = 4 → ∀ o, o < tcnt c → tabase c + talen c o ≤ tcnt 7 := by decide +kernel
theorem tcomps_7 : 7 ∈ tcomps := by decide +kernel
theorem tokG_sR {G : tH} {f o v c : Nat} (h : tokG G) (hf : (f, c) ∈ tmut) (hv : v < tcnt c) : tokG (sR G f o v) := by
  intro q hq o'
  rw [gR_sR]
  have hfun : ∀ q ∈ tmut, ∀ q' ∈ tmut, q.1 = q'.1 → q.2 = q'.2 := by decide +kernel
  split
  · rename_i e
    split
    · rw [hfun q hq (f, c) hf e]; exact hv
    · exact h q hq o'
  · exact h q hq o'
section TS2
variable {my : Nat → MethodName} {mc : Nat → ByteArray} {mL : Nat → Nat} {mr : Nat → Option FieldType} {own : String} {cc : ByteArray} {nL : Nat} {ret : Option FieldType} {pc nx : Nat}
variable {E : tE} {p : Program} {l : Launch} {e : Env} {R : Room} {s : State} {m : MethodId} {args : Array Value} {below : List Frame} {meth : Method} {c : Code} {H : Heap} {locs : List Loc} {lsA : Array Slot} {rest : List Value} {G : tH} {Q : State → Prop}
theorem tgetW {ci k o index N : Nat} {C : String} {T : u_T} {ty : Nat → FieldType} {d : tD} (hX : tX E p s m args meth c own cc nL ret) (hcl : tCl ci C T N ty) (hd : (tlay ci)[k]? = some d) (hlink : Cond.fieldLink own index C (T k).2.1 (T k).2.2.1 ∈ tW) (hdg : decode cc pc = .ok (.getfield index, 3)) (ho : o < tcnt ci) (hP : va_P E.1 vwCl (tWd E G) H)
    (kk : W p l e R s m args below meth c H locs 0 0 Q (F0 m (pc + 3) lsA (tfv E G (100 * ci + k) o d :: rest))) : W p l e R s m args below meth c H locs 0 0 Q (F0 m pc lsA (.ref (E.2.2 ci o) :: rest)) := by
  obtain ⟨hx, hb, hml, hrt, hlk, hown, hts, hKN, hHK, hI⟩ := hX
  obtain ⟨hc, hin, hcm, hci, hty, hnm, hT, hlen⟩ := hcl
  have hk : k < N := hlen ▸ (List.getElem?_eq_some_iff.mp hd).1
  obtain ⟨k0, hk0, hw0⟩ := tWd_get (E := E) (G := G) hcm ho
  refine va_get (C := C) (T := T) (N := N) hx hb hts hin hown hKN.1 hP k0 (by rw [hw0, tcell, if_pos hci]) hc k hk (hts _ hlink) (fun _ h => by rw [hT k hk] at h; exact h) (v := tfv E G (100 * ci + k) o d) (by rw [tfl_get, hd]; rfl) hdg kk
theorem tgetWN {ci k o index N : Nat} {C host : String} {T : u_T} {ty : Nat → FieldType} {d : tD} (hX : tX E p s m args meth c own cc nL ret) (hcl : tCl ci C T N ty) (hd : (tlay ci)[k]? = some d) (hlink : Cond.fieldLinkNest own index C (T k).2.1 (T k).2.2.1 host ∈ tNest) (hdg : decode cc pc = .ok (.getfield index, 3)) (ho : o < tcnt ci) (hP : va_P E.1 vwCl (tWd E G) H)
    (kk : W p l e R s m args below meth c H locs 0 0 Q (F0 m (pc + 3) lsA (tfv E G (100 * ci + k) o d :: rest))) : W p l e R s m args below meth c H locs 0 0 Q (F0 m pc lsA (.ref (E.2.2 ci o) :: rest)) := by
  obtain ⟨hx, hb, hml, hrt, hlk, hown, hts, hKN, hHK, hI⟩ := hX
  obtain ⟨hc, hin, hcm, hci, hty, hnm, hT, hlen⟩ := hcl
  have hk : k < N := hlen ▸ (List.getElem?_eq_some_iff.mp hd).1
  obtain ⟨k0, hk0, hw0⟩ := tWd_get (E := E) (G := G) hcm ho
  refine va_getN (C := C) (T := T) (N := N) (host := host) hx hb hts hin hown hKN.1 hP k0 (by rw [hw0, tcell, if_pos hci]) hc k hk (va_Nw.use rfl (hKN.2.1 _ hlink)) (fun _ h => by rw [hT k hk] at h; exact h) (v := tfv E G (100 * ci + k) o d) (by rw [tfl_get, hd]; rfl) hdg kk
theorem tputW {ci k o index N : Nat} {C : String} {T : u_T} {ty : Nat → FieldType} {d : tD} {G' : tH} {v : Value} {H0 : Heap} (hX : tX E p s m args meth c own cc nL ret) (hcl : tCl ci C T N ty) (hd : (tlay ci)[k]? = some d) (hlink : Cond.fieldLink own index C (T k).2.1 (T k).2.2.1 ∈ tW) (hdg : decode cc pc = .ok (.putfield index, 3)) (ho : o < tcnt ci) (hP : va_P E.1 vwCl (tWd E G) H) (hS : va_S (tAP E) H0 H locs)
    (hfin : (T k).2.2.2 = false) (hn : narrow (ty k) v = v) (hfit : fits (ty k) v = true) (hv : tfv E G' (100 * ci + k) o d = v) (hf : ∀ (fid o' : Nat) (d' : tD), (fid ≠ 100 * ci + k ∨ o' ≠ o) → tfv E G' fid o' d' = tfv E G fid o' d') (hA : G'.2.2.2 = G.2.2.2)
    (kk : ∀ (H1 : Heap) (locs1 : List Loc), va_P E.1 vwCl (tWd E G') H1 → va_S (tAP E) H0 H1 locs1 → W p l e R s m args below meth c H1 locs1 0 0 Q (F0 m (pc + 3) lsA rest)) : W p l e R s m args below meth c H locs 0 0 Q (F0 m pc lsA (v :: .ref (E.2.2 ci o) :: rest)) := by
  obtain ⟨hx, hb, hml, hrt, hlk, hown, hts, hKN, hHK, hI⟩ := hX
  obtain ⟨hc, hin, hcm, hci, hty, hnm, hT, hlen⟩ := hcl
  have hk0 : k < (tlay ci).length := (List.getElem?_eq_some_iff.mp hd).1
  have hk : k < N := hlen ▸ hk0
  obtain ⟨q0, hq0, hw0⟩ := tWd_get (E := E) (G := G) hcm ho
  obtain ⟨g1, g2⟩ := tcell_put (E := E) (G := G) (G' := G') hci hd hv hf hA
  refine va_put (C := C) (T := T) (N := N) hx hb hts hin ty hty hnm hown hKN.1 hP (tWd_D hI G) hS q0 (by rw [hw0, tcell, if_pos hci]) hc k hk (hts _ hlink) (fun _ h => by rw [hT k hk] at h; exact h) hfin (hty k hk) hn hfit (by rw [tfl_len]; exact hk0) hdg (fun H1 locs1 hP1 _ hS1 => kk H1 locs1 ?_ hS1)
  rw [tWd_set hI hq0 g1 g2] at hP1
  exact hP1
theorem tarrW {c0 o : Nat} (hcm : c0 ∈ tcomps) (ho : o < tcnt c0) (h100 : 100 ≤ c0) {k : Nat} (hk : tak c0 = k) (h1 : k ≠ 1) (h4 : k ≠ 4) : ∃ q0 : Nat, tpairs[q0]? = some (c0, o) ∧ (tWd E G)[q0]? = some (E.2.2 c0 o, .inl (E.2.1 k, talen c0 o, .inl (gA G c0 o))) := by
  obtain ⟨q0, hq0, hw0⟩ := tWd_get (E := E) (G := G) hcm ho
  refine ⟨q0, hq0, ?_⟩
  rw [hw0, tcell, if_neg (by omega), if_neg (by rw [hk]; exact h1), if_neg (by rw [hk]; exact h4), hk]
theorem tarrB {c0 o : Nat} (hcm : c0 ∈ tcomps) (ho : o < tcnt c0) (h100 : 100 ≤ c0) (hk : tak c0 = 1) : ∃ q0 : Nat, tpairs[q0]? = some (c0, o) ∧ (tWd E G)[q0]? = some (E.2.2 c0 o, .inl (E.2.1 1, talen c0 o, .inr (.inl (gB G c0 o)))) := by
  obtain ⟨q0, hq0, hw0⟩ := tWd_get (E := E) (G := G) hcm ho
  refine ⟨q0, hq0, ?_⟩
  rw [hw0, tcell, if_neg (by omega), if_pos hk]
theorem tarrQ {c0 o : Nat} (hcm : c0 ∈ tcomps) (ho : o < tcnt c0) (h100 : 100 ≤ c0) (hk : tak c0 = 4) : ∃ q0 : Nat, tpairs[q0]? = some (c0, o) ∧ (tWd E G)[q0]? = some (E.2.2 c0 o, .inl (E.2.1 4, talen c0 o, .inr (.inr (.inr (.inr fun i => some (E.2.2 7 (tabase c0 + i))))))) := by
  obtain ⟨q0, hq0, hw0⟩ := tWd_get (E := E) (G := G) hcm ho
  refine ⟨q0, hq0, ?_⟩
  rw [hw0, tcell, if_neg (by omega), if_neg (by omega), if_pos hk]
end TS2
section TSN
variable {my : Nat → MethodName} {mc : Nat → ByteArray} {mL : Nat → Nat} {mr : Nat → Option FieldType} {own : String} {cc : ByteArray} {nL : Nat} {ret : Option FieldType} {pc nx : Nat}
theorem snd_GI {ci k index N : Nat} {C : String} {T : u_T} {ty : Nat → FieldType} {z : Nat × Nat × Nat} (hcl : tCl ci C T N ty) (hd : (tlay ci)[k]? = some (0, z)) (hlink : Cond.fieldLink own index C (T k).2.1 (T k).2.2.1 ∈ tW) (hdg : decode cc pc = .ok (.getfield index, 3)) {f : Nat} (hf : 100 * ci + k = f) (hn : pc + 3 = nx) : tSnd my mc mL mr own cc nL ret pc (aGI ci f nx) := by
  subst hn
  subst hf
  intro E p l e s m args below meth c d hX rec hR K hK ls st G r hO hr
  unfold aGI at hr
  dsimp only at hr
  split at hr
  · rename_i q st'
    obtain ⟨c0, o⟩ := q
    replace hr := tcond_some.mp hr
    obtain ⟨hb0, hr⟩ := hr
    have hc0 : c0 = ci := Nat.eq_of_beq_eq_true hb0
    subst hc0
    obtain ⟨hv0, hst⟩ := tokS_c.mp hO.1
    have ho : o < tcnt c0 := hv0.2
    have h1 := hK (pc + 3, ls, vI (gI G (100 * c0 + k) o) :: st', G) ⟨tokS_c.mpr ⟨trivial, hst⟩, hO.2⟩ r hr
    exact fun H locs lsA hP hS hl => tgetW hX hcl hd hlink hdg ho hP (h1 H locs lsA hP hS hl)
  · cases hr
theorem snd_GL {ci k index N : Nat} {C : String} {T : u_T} {ty : Nat → FieldType} {z : Nat × Nat × Nat} (hcl : tCl ci C T N ty) (hd : (tlay ci)[k]? = some (1, z)) (hlink : Cond.fieldLink own index C (T k).2.1 (T k).2.2.1 ∈ tW) (hdg : decode cc pc = .ok (.getfield index, 3)) {f : Nat} (hf : 100 * ci + k = f) (hn : pc + 3 = nx) : tSnd my mc mL mr own cc nL ret pc (aGL ci f nx) := by
  subst hn
  subst hf
  intro E p l e s m args below meth c d hX rec hR K hK ls st G r hO hr
  unfold aGL at hr
  dsimp only at hr
  split at hr
  · rename_i q st'
    obtain ⟨c0, o⟩ := q
    replace hr := tcond_some.mp hr
    obtain ⟨hb0, hr⟩ := hr
    have hc0 : c0 = ci := Nat.eq_of_beq_eq_true hb0
    subst hc0
    obtain ⟨hv0, hst⟩ := tokS_c.mp hO.1
    have ho : o < tcnt c0 := hv0.2
    have h1 := hK (pc + 3, ls, vL (gL G (100 * c0 + k) o) :: st', G) ⟨tokS_c.mpr ⟨trivial, hst⟩, hO.2⟩ r hr
    exact fun H locs lsA hP hS hl => tgetW hX hcl hd hlink hdg ho hP (h1 H locs lsA hP hS hl)
  · cases hr
theorem snd_GR {ci k index N : Nat} {C : String} {T : u_T} {ty : Nat → FieldType} {c2 : Nat} {z : Nat × Nat} (hcl : tCl ci C T N ty) (hd : (tlay ci)[k]? = some (3, c2, z)) (hlink : Cond.fieldLink own index C (T k).2.1 (T k).2.2.1 ∈ tW) (hdg : decode cc pc = .ok (.getfield index, 3)) {f : Nat} (hf : 100 * ci + k = f) (hm : (f, c2) ∈ tmut) (hm2 : c2 ∈ tcomps) (hn : pc + 3 = nx) : tSnd my mc mL mr own cc nL ret pc (aGR ci f c2 nx) := by
  subst hn
  subst hf
  intro E p l e s m args below meth c d hX rec hR K hK ls st G r hO hr
  unfold aGR at hr
  dsimp only at hr
  split at hr
  · rename_i q st'
    obtain ⟨c0, o⟩ := q
    replace hr := tcond_some.mp hr
    obtain ⟨hb0, hr⟩ := hr
    have hc0 : c0 = ci := Nat.eq_of_beq_eq_true hb0
    subst hc0
    obtain ⟨hv0, hst⟩ := tokS_c.mp hO.1
    have ho : o < tcnt c0 := hv0.2
    have h1 := hK (pc + 3, ls, vR c2 (gR G (100 * c0 + k) o) :: st', G) ⟨tokS_c.mpr ⟨(⟨Or.inr (Or.inr (List.mem_cons_of_mem _ hm2)), hO.2.2 _ hm o⟩ : tvd c2 _), hst⟩, hO.2⟩ r hr
    exact fun H locs lsA hP hS hl => tgetW hX hcl hd hlink hdg ho hP (h1 H locs lsA hP hS hl)
  · cases hr
theorem snd_GRN {ci k index N : Nat} {C : String} {T : u_T} {ty : Nat → FieldType} {c2 : Nat} {z : Nat × Nat} (hcl : tCl ci C T N ty) (hd : (tlay ci)[k]? = some (3, c2, z)) {host : String} (hlink : Cond.fieldLinkNest own index C (T k).2.1 (T k).2.2.1 host ∈ tNest) (hdg : decode cc pc = .ok (.getfield index, 3)) {f : Nat} (hf : 100 * ci + k = f) (hm : (f, c2) ∈ tmut) (hm2 : c2 ∈ tcomps) (hn : pc + 3 = nx) : tSnd my mc mL mr own cc nL ret pc (aGR ci f c2 nx) := by
  subst hn
  subst hf
  intro E p l e s m args below meth c d hX rec hR K hK ls st G r hO hr
  unfold aGR at hr
  dsimp only at hr
  split at hr
  · rename_i q st'
    obtain ⟨c0, o⟩ := q
    replace hr := tcond_some.mp hr
    obtain ⟨hb0, hr⟩ := hr
    have hc0 : c0 = ci := Nat.eq_of_beq_eq_true hb0
    subst hc0
    obtain ⟨hv0, hst⟩ := tokS_c.mp hO.1
    have ho : o < tcnt c0 := hv0.2
    have h1 := hK (pc + 3, ls, vR c2 (gR G (100 * c0 + k) o) :: st', G) ⟨tokS_c.mpr ⟨(⟨Or.inr (Or.inr (List.mem_cons_of_mem _ hm2)), hO.2.2 _ hm o⟩ : tvd c2 _), hst⟩, hO.2⟩ r hr
    exact fun H locs lsA hP hS hl => tgetWN (host := host) hX hcl hd hlink hdg ho hP (h1 H locs lsA hP hS hl)
  · cases hr
theorem snd_GO {ci k index N : Nat} {C : String} {T : u_T} {ty : Nat → FieldType} {c2 : Nat} (hcl : tCl ci C T N ty) (hd : (tlay ci)[k]? = some (2, c2, 1, 0)) (hlink : Cond.fieldLink own index C (T k).2.1 (T k).2.2.1 ∈ tW) (hdg : decode cc pc = .ok (.getfield index, 3)) (hm2 : c2 ∈ tcomps) (hv : tcnt ci = tcnt c2) (hn : pc + 3 = nx) : tSnd my mc mL mr own cc nL ret pc (aGO ci c2 nx) := by
  subst hn
  intro E p l e s m args below meth c d hX rec hR K hK ls st G r hO hr
  unfold aGO at hr
  dsimp only at hr
  split at hr
  · rename_i q st'
    obtain ⟨c0, o⟩ := q
    replace hr := tcond_some.mp hr
    obtain ⟨hb0, hr⟩ := hr
    have hc0 : c0 = ci := Nat.eq_of_beq_eq_true hb0
    subst hc0
    obtain ⟨hv0, hst⟩ := tokS_c.mp hO.1
    have ho : o < tcnt c0 := hv0.2
    have h1 := hK (pc + 3, ls, vR c2 o :: st', G) ⟨tokS_c.mpr ⟨(⟨Or.inr (Or.inr (List.mem_cons_of_mem _ hm2)), hv ▸ ho⟩ : tvd c2 _), hst⟩, hO.2⟩ r hr
    refine fun H locs lsA hP hS hl => tgetW hX hcl hd hlink hdg ho hP ?_
    have h3 := h1 H locs lsA hP hS hl
    rw [show tfv E G (100 * c0 + k) o (2, c2, 1, 0) = tmv E (vR c2 o) by simp [tfv, tmv]]
    exact h3
  · cases hr
theorem snd_GC {ci k index N : Nat} {C : String} {T : u_T} {ty : Nat → FieldType} {c2 j : Nat} (hcl : tCl ci C T N ty) (hd : (tlay ci)[k]? = some (2, c2, 0, j)) (hlink : Cond.fieldLink own index C (T k).2.1 (T k).2.2.1 ∈ tW) (hdg : decode cc pc = .ok (.getfield index, 3)) (hm2 : c2 ∈ tcomps) (hv : j < tcnt c2) (hn : pc + 3 = nx) : tSnd my mc mL mr own cc nL ret pc (aGC ci c2 j nx) := by
  subst hn
  intro E p l e s m args below meth c d hX rec hR K hK ls st G r hO hr
  unfold aGC at hr
  dsimp only at hr
  split at hr
  · rename_i q st'
    obtain ⟨c0, o⟩ := q
    replace hr := tcond_some.mp hr
    obtain ⟨hb0, hr⟩ := hr
    have hc0 : c0 = ci := Nat.eq_of_beq_eq_true hb0
    subst hc0
    obtain ⟨hv0, hst⟩ := tokS_c.mp hO.1
    have ho : o < tcnt c0 := hv0.2
    have h1 := hK (pc + 3, ls, vR c2 j :: st', G) ⟨tokS_c.mpr ⟨(⟨Or.inr (Or.inr (List.mem_cons_of_mem _ hm2)), hv⟩ : tvd c2 _), hst⟩, hO.2⟩ r hr
    refine fun H locs lsA hP hS hl => tgetW hX hcl hd hlink hdg ho hP ?_
    have h3 := h1 H locs lsA hP hS hl
    rw [show tfv E G (100 * c0 + k) o (2, c2, 0, j) = tmv E (vR c2 j) by simp [tfv, tmv]]
    exact h3
  · cases hr
theorem snd_GM {ci k index N : Nat} {C : String} {T : u_T} {ty : Nat → FieldType} {c2 m2 b2 : Nat} (hcl : tCl ci C T N ty) (hd : (tlay ci)[k]? = some (2, c2, m2, b2)) (hlink : Cond.fieldLink own index C (T k).2.1 (T k).2.2.1 ∈ tW) (hdg : decode cc pc = .ok (.getfield index, 3)) (hm2 : c2 ∈ tcomps) (hv : ∀ o, o < tcnt ci → m2 * o + b2 < tcnt c2) (hn : pc + 3 = nx) : tSnd my mc mL mr own cc nL ret pc (aGM ci c2 m2 b2 nx) := by
  subst hn
  intro E p l e s m args below meth c d hX rec hR K hK ls st G r hO hr
  unfold aGM at hr
  dsimp only at hr
  split at hr
  · rename_i q st'
    obtain ⟨c0, o⟩ := q
    replace hr := tcond_some.mp hr
    obtain ⟨hb0, hr⟩ := hr
    have hc0 : c0 = ci := Nat.eq_of_beq_eq_true hb0
    subst hc0
    obtain ⟨hv0, hst⟩ := tokS_c.mp hO.1
    have ho : o < tcnt c0 := hv0.2
    have h1 := hK (pc + 3, ls, vR c2 (m2 * o + b2) :: st', G) ⟨tokS_c.mpr ⟨(⟨Or.inr (Or.inr (List.mem_cons_of_mem _ hm2)), hv o ho⟩ : tvd c2 _), hst⟩, hO.2⟩ r hr
    refine fun H locs lsA hP hS hl => tgetW hX hcl hd hlink hdg ho hP ?_
    have h3 := h1 H locs lsA hP hS hl
    rw [show tfv E G (100 * c0 + k) o (2, c2, m2, b2) = tmv E (vR c2 (m2 * o + b2)) by simp [tfv, tmv]]
    exact h3
  · cases hr
theorem snd_PI {ci k index N f : Nat} {C : String} {T : u_T} {ty : Nat → FieldType} {z : Nat × Nat × Nat} (hcl : tCl ci C T N ty) (hd : (tlay ci)[k]? = some (0, z)) (hlink : Cond.fieldLink own index C (T k).2.1 (T k).2.2.1 ∈ tW) (hdg : decode cc pc = .ok (.putfield index, 3)) (hfin : (T k).2.2.2 = false) (hty : ty k = .int) (hf : 100 * ci + k = f) (hn : pc + 3 = nx) : tSnd my mc mL mr own cc nL ret pc (aPI ci f nx) := by
  subst hn
  subst hf
  intro E p l e s m args below meth c d hX rec hR K hK ls st G r hO hr
  unfold aPI at hr
  dsimp only at hr
  split at hr
  · rename_i x q st'
    obtain ⟨c0, o⟩ := q
    replace hr := tcond_some.mp hr
    obtain ⟨hb0, hr⟩ := hr
    have hc0 : c0 = ci := Nat.eq_of_beq_eq_true hb0
    subst hc0
    obtain ⟨hx0, hst0⟩ := tokS_c.mp hO.1
    obtain ⟨hv0, hst⟩ := tokS_c.mp hst0
    have ho : o < tcnt c0 := hv0.2
    have h1 := hK (pc + 3, ls, st', sI G (100 * c0 + k) o x) ⟨hst, hO.2.1, hO.2.2⟩ r hr
    exact fun H locs lsA hP hS hl => tputW (v := .int x) (G' := sI G (100 * c0 + k) o x) hX hcl hd hlink hdg ho hP hS hfin (by rw [hty]; exact vp_nar_int x) (by rw [hty]; rfl) (by simp [tfv, gI_sI]) (fun fid o' d' h => tfv_sI h) rfl (fun H1 locs1 hP1 hS1 => h1 H1 locs1 lsA hP1 hS1 hl)
  · cases hr
theorem snd_PL {ci k index N f : Nat} {C : String} {T : u_T} {ty : Nat → FieldType} {z : Nat × Nat × Nat} (hcl : tCl ci C T N ty) (hd : (tlay ci)[k]? = some (1, z)) (hlink : Cond.fieldLink own index C (T k).2.1 (T k).2.2.1 ∈ tW) (hdg : decode cc pc = .ok (.putfield index, 3)) (hfin : (T k).2.2.2 = false) (hty : ty k = .long) (hf : 100 * ci + k = f) (hn : pc + 3 = nx) : tSnd my mc mL mr own cc nL ret pc (aPL ci f nx) := by
  subst hn
  subst hf
  intro E p l e s m args below meth c d hX rec hR K hK ls st G r hO hr
  unfold aPL at hr
  dsimp only at hr
  split at hr
  · rename_i x q st'
    obtain ⟨c0, o⟩ := q
    replace hr := tcond_some.mp hr
    obtain ⟨hb0, hr⟩ := hr
    have hc0 : c0 = ci := Nat.eq_of_beq_eq_true hb0
    subst hc0
    obtain ⟨hx0, hst0⟩ := tokS_c.mp hO.1
    obtain ⟨hv0, hst⟩ := tokS_c.mp hst0
    have ho : o < tcnt c0 := hv0.2
    have h1 := hK (pc + 3, ls, st', sL G (100 * c0 + k) o x) ⟨hst, hO.2.1, hO.2.2⟩ r hr
    exact fun H locs lsA hP hS hl => tputW (v := .long x) (G' := sL G (100 * c0 + k) o x) hX hcl hd hlink hdg ho hP hS hfin (by rw [hty]; rfl) (by rw [hty]; rfl) (by simp [tfv, gL_sL]) (fun fid o' d' h => tfv_sL h) rfl (fun H1 locs1 hP1 hS1 => h1 H1 locs1 lsA hP1 hS1 hl)
  · cases hr
theorem snd_PC {ci k index N f : Nat} {C : String} {T : u_T} {ty : Nat → FieldType} {z : Nat × Nat × Nat} (hcl : tCl ci C T N ty) (hd : (tlay ci)[k]? = some (0, z)) (hlink : Cond.fieldLink own index C (T k).2.1 (T k).2.2.1 ∈ tW) (hdg : decode cc pc = .ok (.putfield index, 3)) (hfin : (T k).2.2.2 = false) (hty : ty k = .char) (hf : 100 * ci + k = f) (hn : pc + 3 = nx) : tSnd my mc mL mr own cc nL ret pc (aPC ci f nx) := by
  subst hn
  subst hf
  intro E p l e s m args below meth c d hX rec hR K hK ls st G r hO hr
  unfold aPC at hr
  dsimp only at hr
  split at hr
  · rename_i x q st'
    obtain ⟨c0, o⟩ := q
    replace hr := tcond_some.mp hr
    obtain ⟨hb0, hr⟩ := hr
    have hc0 : c0 = ci := Nat.eq_of_beq_eq_true hb0
    subst hc0
    have h0 : vp_nar .char x = x := by
      by_cases h0 : vp_nar .char x = x
      · exact h0
      · rw [if_neg h0] at hr; cases hr
    rw [if_pos h0] at hr
    have hnn : narrow .char (.int x) = .int x := by
      unfold vp_nar at h0
      simp only [narrow] at h0 ⊢
      rw [h0]
    have hff : fits .char (.int x) = true := by
      rw [← hnn]
      simp only [narrow]
      exact pk_fc x
    obtain ⟨hx0, hst0⟩ := tokS_c.mp hO.1
    obtain ⟨hv0, hst⟩ := tokS_c.mp hst0
    have ho : o < tcnt c0 := hv0.2
    have h1 := hK (pc + 3, ls, st', sI G (100 * c0 + k) o x) ⟨hst, hO.2.1, hO.2.2⟩ r hr
    exact fun H locs lsA hP hS hl => tputW (v := .int x) (G' := sI G (100 * c0 + k) o x) hX hcl hd hlink hdg ho hP hS hfin (by rw [hty]; exact hnn) (by rw [hty]; exact hff) (by simp [tfv, gI_sI]) (fun fid o' d' h => tfv_sI h) rfl (fun H1 locs1 hP1 hS1 => h1 H1 locs1 lsA hP1 hS1 hl)
  · cases hr
theorem snd_PR {ci k index N f : Nat} {C : String} {T : u_T} {ty : Nat → FieldType} {c2 : Nat} {z : Nat × Nat} (hcl : tCl ci C T N ty) (hd : (tlay ci)[k]? = some (3, c2, z)) (hlink : Cond.fieldLink own index C (T k).2.1 (T k).2.2.1 ∈ tW) (hdg : decode cc pc = .ok (.putfield index, 3)) (hfin : (T k).2.2.2 = false) {tn : String} (hty : ty k = .object tn) (hm : (f, c2) ∈ tmut) (hf : 100 * ci + k = f) (hn : pc + 3 = nx) : tSnd my mc mL mr own cc nL ret pc (aPR ci f c2 nx) := by
  subst hn
  subst hf
  intro E p l e s m args below meth c d hX rec hR K hK ls st G r hO hr
  unfold aPR at hr
  dsimp only at hr
  split at hr
  · rename_i x q st'
    obtain ⟨c0, o⟩ := q
    replace hr := tcond_some.mp hr
    obtain ⟨hb0, hr⟩ := hr
    simp only [Bool.and_eq_true] at hb0
    have hc0 : c0 = ci := Nat.eq_of_beq_eq_true hb0.1
    have hc2 : x.1 = c2 := Nat.eq_of_beq_eq_true hb0.2
    subst hc0
    subst hc2
    obtain ⟨hx0, hst0⟩ := tokS_c.mp hO.1
    obtain ⟨hv0, hst⟩ := tokS_c.mp hst0
    have ho : o < tcnt c0 := hv0.2
    have h1 := hK (pc + 3, ls, st', sR G (100 * c0 + k) o x.2) ⟨hst, hO.2.1, tokG_sR hO.2.2 hm hx0.2⟩ r hr
    exact fun H locs lsA hP hS hl => tputW (v := .ref (E.2.2 x.1 x.2)) (G' := sR G (100 * c0 + k) o x.2) hX hcl hd hlink hdg ho hP hS hfin (by rw [hty]; rfl) (by rw [hty]; rfl) (by simp [tfv, gR_sR]) (fun fid o' d' h => tfv_sR h) rfl (fun H1 locs1 hP1 hS1 => h1 H1 locs1 lsA hP1 hS1 hl)
  · cases hr
theorem snd_iald (hdg : decode cc pc = .ok (.iaload, 1)) (hn : pc + 1 = nx) : tSnd my mc mL mr own cc nL ret pc (aAI 0 nx) := by
  subst hn
  intro E p l e s m args below meth c d hX rec hR K hK ls st G r hO hr
  unfold aAI at hr
  dsimp only at hr
  split at hr
  · rename_i i q st'
    obtain ⟨c0, o⟩ := q
    replace hr := tcond_some.mp hr
    obtain ⟨hb0, hr⟩ := hr
    simp only [Bool.and_eq_true] at hb0
    have h100 : 100 ≤ c0 := Nat.le_of_ble_eq_true hb0.1
    have hk : tak c0 = 0 := Nat.eq_of_beq_eq_true hb0.2
    by_cases h0 : tin i (talen c0 o)
    · rw [if_pos h0] at hr
      obtain ⟨hv0, hst⟩ := tokS_c.mp (tokS_c.mp hO.1).2
      have hcm : c0 ∈ tcomps := hv0.comps (by omega) (by omega) (by omega)
      have h1 := hK (pc + 1, ls, vI (gA G c0 o i.toNatClampNeg) :: st', G) ⟨tokS_c.mpr ⟨trivial, hst⟩, hO.2⟩ r hr
      refine fun H locs lsA hP hS hl => ?_
      obtain ⟨q0, -, hw⟩ := tarrW (E := E) (G := G) hcm hv0.2 h100 hk (by decide) (by decide)
      exact va_iald hX.1 hX.2.1 hX.2.2.2.2.2.2.2.1.1 hP q0 0 hw rfl (tin_vp h0) hdg (h1 H locs lsA hP hS hl)
    · rw [if_neg h0] at hr; cases hr
  · cases hr
theorem snd_cald (hdg : decode cc pc = .ok (.caload, 1)) (hn : pc + 1 = nx) : tSnd my mc mL mr own cc nL ret pc (aAI 2 nx) := by
  subst hn
  intro E p l e s m args below meth c d hX rec hR K hK ls st G r hO hr
  unfold aAI at hr
  dsimp only at hr
  split at hr
  · rename_i i q st'
    obtain ⟨c0, o⟩ := q
    replace hr := tcond_some.mp hr
    obtain ⟨hb0, hr⟩ := hr
    simp only [Bool.and_eq_true] at hb0
    have h100 : 100 ≤ c0 := Nat.le_of_ble_eq_true hb0.1
    have hk : tak c0 = 2 := Nat.eq_of_beq_eq_true hb0.2
    by_cases h0 : tin i (talen c0 o)
    · rw [if_pos h0] at hr
      obtain ⟨hv0, hst⟩ := tokS_c.mp (tokS_c.mp hO.1).2
      have hcm : c0 ∈ tcomps := hv0.comps (by omega) (by omega) (by omega)
      have h1 := hK (pc + 1, ls, vI (gA G c0 o i.toNatClampNeg) :: st', G) ⟨tokS_c.mpr ⟨trivial, hst⟩, hO.2⟩ r hr
      refine fun H locs lsA hP hS hl => ?_
      obtain ⟨q0, -, hw⟩ := tarrW (E := E) (G := G) hcm hv0.2 h100 hk (by decide) (by decide)
      exact va_cald hX.1 hX.2.1 hX.2.2.2.2.2.2.2.1.1 hP q0 2 hw rfl (tin_vp h0) hdg (h1 H locs lsA hP hS hl)
    · rw [if_neg h0] at hr; cases hr
  · cases hr
theorem snd_zald (hdg : decode cc pc = .ok (.baload, 1)) (hn : pc + 1 = nx) : tSnd my mc mL mr own cc nL ret pc (aAI 3 nx) := by
  subst hn
  intro E p l e s m args below meth c d hX rec hR K hK ls st G r hO hr
  unfold aAI at hr
  dsimp only at hr
  split at hr
  · rename_i i q st'
    obtain ⟨c0, o⟩ := q
    replace hr := tcond_some.mp hr
    obtain ⟨hb0, hr⟩ := hr
    simp only [Bool.and_eq_true] at hb0
    have h100 : 100 ≤ c0 := Nat.le_of_ble_eq_true hb0.1
    have hk : tak c0 = 3 := Nat.eq_of_beq_eq_true hb0.2
    by_cases h0 : tin i (talen c0 o)
    · rw [if_pos h0] at hr
      obtain ⟨hv0, hst⟩ := tokS_c.mp (tokS_c.mp hO.1).2
      have hcm : c0 ∈ tcomps := hv0.comps (by omega) (by omega) (by omega)
      have h1 := hK (pc + 1, ls, vI (gA G c0 o i.toNatClampNeg) :: st', G) ⟨tokS_c.mpr ⟨trivial, hst⟩, hO.2⟩ r hr
      refine fun H locs lsA hP hS hl => ?_
      obtain ⟨q0, -, hw⟩ := tarrW (E := E) (G := G) hcm hv0.2 h100 hk (by decide) (by decide)
      exact va_zald hX.1 hX.2.1 hX.2.2.2.2.2.2.2.1.1 hP q0 3 hw rfl (tin_vp h0) hdg (h1 H locs lsA hP hS hl)
    · rw [if_neg h0] at hr; cases hr
  · cases hr
theorem snd_lald (hdg : decode cc pc = .ok (.laload, 1)) (hn : pc + 1 = nx) : tSnd my mc mL mr own cc nL ret pc (aAL nx) := by
  subst hn
  intro E p l e s m args below meth c d hX rec hR K hK ls st G r hO hr
  unfold aAL at hr
  dsimp only at hr
  split at hr
  · rename_i i q st'
    obtain ⟨c0, o⟩ := q
    replace hr := tcond_some.mp hr
    obtain ⟨hb0, hr⟩ := hr
    simp only [Bool.and_eq_true] at hb0
    have h100 : 100 ≤ c0 := Nat.le_of_ble_eq_true hb0.1
    have hk : tak c0 = 1 := Nat.eq_of_beq_eq_true hb0.2
    by_cases h0 : tin i (talen c0 o)
    · rw [if_pos h0] at hr
      obtain ⟨hv0, hst⟩ := tokS_c.mp (tokS_c.mp hO.1).2
      have hcm : c0 ∈ tcomps := hv0.comps (by omega) (by omega) (by omega)
      have h1 := hK (pc + 1, ls, vL (gB G c0 o i.toNatClampNeg) :: st', G) ⟨tokS_c.mpr ⟨trivial, hst⟩, hO.2⟩ r hr
      refine fun H locs lsA hP hS hl => ?_
      obtain ⟨q0, -, hw⟩ := tarrB (E := E) (G := G) hcm hv0.2 h100 hk
      exact va_lald hX.1 hX.2.1 hX.2.2.2.2.2.2.2.1.1 hP q0 1 hw rfl (tin_vp h0) hdg (h1 H locs lsA hP hS hl)
    · rw [if_neg h0] at hr; cases hr
  · cases hr
theorem snd_aald (hdg : decode cc pc = .ok (.aaload, 1)) (hn : pc + 1 = nx) : tSnd my mc mL mr own cc nL ret pc (aAA nx) := by
  subst hn
  intro E p l e s m args below meth c d hX rec hR K hK ls st G r hO hr
  unfold aAA at hr
  dsimp only at hr
  split at hr
  · rename_i i q st'
    obtain ⟨c0, o⟩ := q
    replace hr := tcond_some.mp hr
    obtain ⟨hb0, hr⟩ := hr
    simp only [Bool.and_eq_true] at hb0
    have h100 : 100 ≤ c0 := Nat.le_of_ble_eq_true hb0.1
    have hk : tak c0 = 4 := Nat.eq_of_beq_eq_true hb0.2
    by_cases h0 : tin i (talen c0 o)
    · rw [if_pos h0] at hr
      obtain ⟨hv0, hst⟩ := tokS_c.mp (tokS_c.mp hO.1).2
      have hcm : c0 ∈ tcomps := hv0.comps (by omega) (by omega) (by omega)
      have hlt : i.toNatClampNeg < talen c0 o := Nat.not_le.mp fun q => (tin_vp h0) (Or.inr q)
      have hb7 := ttak c0 hcm h100 hk o hv0.2
      have h1 := hK (pc + 1, ls, vR 7 (tabase c0 + i.toNatClampNeg) :: st', G) ⟨tokS_c.mpr ⟨(⟨Or.inr (Or.inr (List.mem_cons_of_mem _ tcomps_7)), by omega⟩ : tvd 7 _), hst⟩, hO.2⟩ r hr
      refine fun H locs lsA hP hS hl => ?_
      obtain ⟨q0, -, hw⟩ := tarrQ (E := E) (G := G) hcm hv0.2 h100 hk
      exact va_aldq hX.1 hX.2.1 hX.2.2.2.2.2.2.2.1.1 hP q0 4 (C := "TaxFarm$State") hw rfl (tin_vp h0) hdg (h1 H locs lsA hP hS hl)
    · rw [if_neg h0] at hr; cases hr
  · cases hr
theorem snd_iast (hdg : decode cc pc = .ok (.iastore, 1)) (hn : pc + 1 = nx) : tSnd my mc mL mr own cc nL ret pc (aSI 0 nx) := by
  subst hn
  intro E p l e s m args below meth c d hX rec hR K hK ls st G r hO hr
  unfold aSI at hr
  dsimp only at hr
  split at hr
  · rename_i x i q st'
    obtain ⟨c0, o⟩ := q
    replace hr := tcond_some.mp hr
    obtain ⟨hb0, hr⟩ := hr
    simp only [Bool.and_eq_true] at hb0
    have h100 : 100 ≤ c0 := Nat.le_of_ble_eq_true hb0.1
    have hk : tak c0 = 0 := Nat.eq_of_beq_eq_true hb0.2
    by_cases h0 : tin i (talen c0 o)
    · rw [if_pos h0] at hr
      obtain ⟨hv0, hst⟩ := tokS_c.mp (tokS_c.mp (tokS_c.mp hO.1).2).2
      have hcm : c0 ∈ tcomps := hv0.comps (by omega) (by omega) (by omega)
      have h1 := hK (pc + 1, ls, st', sA G c0 o (upd (gA G c0 o) i.toNatClampNeg (tnar 0 x))) ⟨hst, hO.2.1, hO.2.2⟩ r hr
      refine fun H locs lsA hP hS hl => ?_
      obtain ⟨q0, hq0, hw⟩ := tarrW (E := E) (G := G) hcm hv0.2 h100 hk (by decide) (by decide)
      refine va_iast hX.1 hX.2.1 hX.2.2.2.2.2.2.2.1.1 hP (tWd_D hX.2.2.2.2.2.2.2.2.2 G) hS q0 0 hw rfl (tin_vp h0) hdg (fun H1 locs1 hP1 _ hS1 => h1 H1 locs1 lsA ?_ hS1 hl)
      obtain ⟨g1, g2⟩ := tcell_sA (E := E) (G := G) (c := c0) (o := o) (g := upd (gA G c0 o) i.toNatClampNeg (tnar 0 x)) (by omega) (by rw [hk]; decide)
      rw [← tWd_set hX.2.2.2.2.2.2.2.2.2 hq0 g1 g2, hk]
      exact hP1
    · rw [if_neg h0] at hr; cases hr
  · cases hr
theorem snd_cast (hdg : decode cc pc = .ok (.castore, 1)) (hn : pc + 1 = nx) : tSnd my mc mL mr own cc nL ret pc (aSI 2 nx) := by
  subst hn
  intro E p l e s m args below meth c d hX rec hR K hK ls st G r hO hr
  unfold aSI at hr
  dsimp only at hr
  split at hr
  · rename_i x i q st'
    obtain ⟨c0, o⟩ := q
    replace hr := tcond_some.mp hr
    obtain ⟨hb0, hr⟩ := hr
    simp only [Bool.and_eq_true] at hb0
    have h100 : 100 ≤ c0 := Nat.le_of_ble_eq_true hb0.1
    have hk : tak c0 = 2 := Nat.eq_of_beq_eq_true hb0.2
    by_cases h0 : tin i (talen c0 o)
    · rw [if_pos h0] at hr
      obtain ⟨hv0, hst⟩ := tokS_c.mp (tokS_c.mp (tokS_c.mp hO.1).2).2
      have hcm : c0 ∈ tcomps := hv0.comps (by omega) (by omega) (by omega)
      have h1 := hK (pc + 1, ls, st', sA G c0 o (upd (gA G c0 o) i.toNatClampNeg (tnar 2 x))) ⟨hst, hO.2.1, hO.2.2⟩ r hr
      refine fun H locs lsA hP hS hl => ?_
      obtain ⟨q0, hq0, hw⟩ := tarrW (E := E) (G := G) hcm hv0.2 h100 hk (by decide) (by decide)
      refine va_cast hX.1 hX.2.1 hX.2.2.2.2.2.2.2.1.1 hP (tWd_D hX.2.2.2.2.2.2.2.2.2 G) hS q0 2 hw rfl (tin_vp h0) hdg (fun H1 locs1 hP1 _ hS1 => h1 H1 locs1 lsA ?_ hS1 hl)
      obtain ⟨g1, g2⟩ := tcell_sA (E := E) (G := G) (c := c0) (o := o) (g := upd (gA G c0 o) i.toNatClampNeg (tnar 2 x)) (by omega) (by rw [hk]; decide)
      rw [← tWd_set hX.2.2.2.2.2.2.2.2.2 hq0 g1 g2, hk]
      exact hP1
    · rw [if_neg h0] at hr; cases hr
  · cases hr
theorem snd_zast (hdg : decode cc pc = .ok (.bastore, 1)) (hn : pc + 1 = nx) : tSnd my mc mL mr own cc nL ret pc (aSI 3 nx) := by
  subst hn
  intro E p l e s m args below meth c d hX rec hR K hK ls st G r hO hr
  unfold aSI at hr
  dsimp only at hr
  split at hr
  · rename_i x i q st'
    obtain ⟨c0, o⟩ := q
    replace hr := tcond_some.mp hr
    obtain ⟨hb0, hr⟩ := hr
    simp only [Bool.and_eq_true] at hb0
    have h100 : 100 ≤ c0 := Nat.le_of_ble_eq_true hb0.1
    have hk : tak c0 = 3 := Nat.eq_of_beq_eq_true hb0.2
    by_cases h0 : tin i (talen c0 o)
    · rw [if_pos h0] at hr
      obtain ⟨hv0, hst⟩ := tokS_c.mp (tokS_c.mp (tokS_c.mp hO.1).2).2
      have hcm : c0 ∈ tcomps := hv0.comps (by omega) (by omega) (by omega)
      have h1 := hK (pc + 1, ls, st', sA G c0 o (upd (gA G c0 o) i.toNatClampNeg (tnar 3 x))) ⟨hst, hO.2.1, hO.2.2⟩ r hr
      refine fun H locs lsA hP hS hl => ?_
      obtain ⟨q0, hq0, hw⟩ := tarrW (E := E) (G := G) hcm hv0.2 h100 hk (by decide) (by decide)
      refine va_zast hX.1 hX.2.1 hX.2.2.2.2.2.2.2.1.1 hP (tWd_D hX.2.2.2.2.2.2.2.2.2 G) hS q0 3 hw rfl (tin_vp h0) hdg (fun H1 locs1 hP1 _ hS1 => h1 H1 locs1 lsA ?_ hS1 hl)
      obtain ⟨g1, g2⟩ := tcell_sA (E := E) (G := G) (c := c0) (o := o) (g := upd (gA G c0 o) i.toNatClampNeg (tnar 3 x)) (by omega) (by rw [hk]; decide)
      rw [← tWd_set hX.2.2.2.2.2.2.2.2.2 hq0 g1 g2, hk]
      exact hP1
    · rw [if_neg h0] at hr; cases hr
  · cases hr
theorem snd_last (hdg : decode cc pc = .ok (.lastore, 1)) (hn : pc + 1 = nx) : tSnd my mc mL mr own cc nL ret pc (aSL nx) := by
  subst hn
  intro E p l e s m args below meth c d hX rec hR K hK ls st G r hO hr
  unfold aSL at hr
  dsimp only at hr
  split at hr
  · rename_i x i q st'
    obtain ⟨c0, o⟩ := q
    replace hr := tcond_some.mp hr
    obtain ⟨hb0, hr⟩ := hr
    simp only [Bool.and_eq_true] at hb0
    have h100 : 100 ≤ c0 := Nat.le_of_ble_eq_true hb0.1
    have hk : tak c0 = 1 := Nat.eq_of_beq_eq_true hb0.2
    by_cases h0 : tin i (talen c0 o)
    · rw [if_pos h0] at hr
      obtain ⟨hv0, hst⟩ := tokS_c.mp (tokS_c.mp (tokS_c.mp hO.1).2).2
      have hcm : c0 ∈ tcomps := hv0.comps (by omega) (by omega) (by omega)
      have h1 := hK (pc + 1, ls, st', sB G c0 o (vp_updL (gB G c0 o) i.toNatClampNeg x)) ⟨hst, hO.2.1, hO.2.2⟩ r hr
      refine fun H locs lsA hP hS hl => ?_
      obtain ⟨q0, hq0, hw⟩ := tarrB (E := E) (G := G) hcm hv0.2 h100 hk
      refine va_last hX.1 hX.2.1 hX.2.2.2.2.2.2.2.1.1 hP (tWd_D hX.2.2.2.2.2.2.2.2.2 G) hS q0 1 hw rfl (tin_vp h0) hdg (fun H1 locs1 hP1 _ hS1 => h1 H1 locs1 lsA ?_ hS1 hl)
      obtain ⟨g1, g2⟩ := tcell_sB (E := E) (G := G) (c := c0) (o := o) (g := vp_updL (gB G c0 o) i.toNatClampNeg x) (by omega) hk
      rw [← tWd_set hX.2.2.2.2.2.2.2.2.2 hq0 g1 g2]
      exact hP1
    · rw [if_neg h0] at hr; cases hr
  · cases hr
theorem snd_max {index : Nat} (hdg : decode cc pc = .ok (.invokestatic index, 3)) (hl1 : Cond.methodLink own index Lib.Math.max.name ∈ tW) (hl2 : Cond.static Lib.Math.max.name ∈ tW) (hl3 : Cond.initialized "java/lang/Math" ∈ tW) (hl4 : Cond.code Lib.Math.max.name Lib.Math.max.code 2 (some .int) ∈ tW) (hn : pc + 3 = nx) : tSnd my mc mL mr own cc nL ret pc (aMax nx) := by
  subst hn
  intro E p l e s m args below meth c d hX rec hR K hK ls st G r hO hr
  unfold aMax at hr
  dsimp only at hr
  split at hr
  · rename_i y x st'
    replace hr := tcond_some.mp hr
    obtain ⟨hb0, hr⟩ := hr
    simp only [Bool.and_eq_true] at hb0
    have hd0 : 0 < d := Nat.le_of_ble_eq_true hb0.1
    have h8 : tcats st' ≤ 16 := Nat.le_of_ble_eq_true hb0.2
    have h1 := hK (pc + 3, ls, vI (if x < y then y else x) :: st', G) ⟨tokS_c.mpr ⟨trivial, (tokS_c.mp (tokS_c.mp hO.1).2).2⟩, hO.2⟩ r hr
    refine fun H locs lsA hP hS hl => ?_
    exact va_mmax hX.1 hX.2.1 (by rw [hX.2.2.1, hl.1]) hX.2.2.2.2.2.1 (hX.2.2.2.2.2.2.1 _ hl1) (hX.2.2.2.2.2.2.1 _ hl2) (hX.2.2.2.2.2.2.1 _ hl3) (hX.2.2.2.2.2.2.1 _ hl4) (show 1 ≤ d from hd0) (by rw [tcats_sum]; show _ ≤ 64 * d; omega) (Nat.zero_le _) (Nat.zero_le _) hdg (h1 H locs lsA hP hS hl)
  · cases hr
theorem snd_min {index : Nat} (hdg : decode cc pc = .ok (.invokestatic index, 3)) (hl1 : Cond.methodLink own index Lib.Math.min.name ∈ tW) (hl2 : Cond.static Lib.Math.min.name ∈ tW) (hl3 : Cond.initialized "java/lang/Math" ∈ tW) (hl4 : Cond.code Lib.Math.min.name Lib.Math.min.code 2 (some .int) ∈ tW) (hn : pc + 3 = nx) : tSnd my mc mL mr own cc nL ret pc (aMin nx) := by
  subst hn
  intro E p l e s m args below meth c d hX rec hR K hK ls st G r hO hr
  unfold aMin at hr
  dsimp only at hr
  split at hr
  · rename_i y x st'
    replace hr := tcond_some.mp hr
    obtain ⟨hb0, hr⟩ := hr
    simp only [Bool.and_eq_true] at hb0
    have hd0 : 0 < d := Nat.le_of_ble_eq_true hb0.1
    have h8 : tcats st' ≤ 16 := Nat.le_of_ble_eq_true hb0.2
    have h1 := hK (pc + 3, ls, vI (if y < x then y else x) :: st', G) ⟨tokS_c.mpr ⟨trivial, (tokS_c.mp (tokS_c.mp hO.1).2).2⟩, hO.2⟩ r hr
    refine fun H locs lsA hP hS hl => ?_
    exact va_mmin hX.1 hX.2.1 (by rw [hX.2.2.1, hl.1]) hX.2.2.2.2.2.1 (hX.2.2.2.2.2.2.1 _ hl1) (hX.2.2.2.2.2.2.1 _ hl2) (hX.2.2.2.2.2.2.1 _ hl3) (hX.2.2.2.2.2.2.1 _ hl4) (show 1 ≤ d from hd0) (by rw [tcats_sum]; show _ ≤ 64 * d; omega) (Nat.zero_le _) (Nat.zero_le _) hdg (h1 H locs lsA hP hS hl)
  · cases hr
theorem snd_abs {index : Nat} (hdg : decode cc pc = .ok (.invokestatic index, 3)) (hl1 : Cond.methodLink own index Lib.Math.abs.name ∈ tW) (hl2 : Cond.static Lib.Math.abs.name ∈ tW) (hl3 : Cond.initialized "java/lang/Math" ∈ tW) (hl4 : Cond.code Lib.Math.abs.name Lib.Math.abs.code 1 (some .int) ∈ tW) (hn : pc + 3 = nx) : tSnd my mc mL mr own cc nL ret pc (aAbs nx) := by
  subst hn
  intro E p l e s m args below meth c d hX rec hR K hK ls st G r hO hr
  unfold aAbs at hr
  dsimp only at hr
  split at hr
  · rename_i x st'
    replace hr := tcond_some.mp hr
    obtain ⟨hb0, hr⟩ := hr
    simp only [Bool.and_eq_true] at hb0
    have hd0 : 0 < d := Nat.le_of_ble_eq_true hb0.1
    have h8 : tcats st' ≤ 16 := Nat.le_of_ble_eq_true hb0.2
    have h1 := hK (pc + 3, ls, vI (if 0 ≤ x then x else 0 - x) :: st', G) ⟨tokS_c.mpr ⟨trivial, (tokS_c.mp hO.1).2⟩, hO.2⟩ r hr
    refine fun H locs lsA hP hS hl => ?_
    exact va_mabs hX.1 hX.2.1 (by rw [hX.2.2.1, hl.1]) hX.2.2.2.2.2.1 (hX.2.2.2.2.2.2.1 _ hl1) (hX.2.2.2.2.2.2.1 _ hl2) (hX.2.2.2.2.2.2.1 _ hl3) (hX.2.2.2.2.2.2.1 _ hl4) (show 1 ≤ d from hd0) (by rw [tcats_sum]; show _ ≤ 64 * d; omega) (Nat.zero_le _) (Nat.zero_le _) hdg (h1 H locs lsA hP hS hl)
  · cases hr
theorem snd_cpy {index : Nat} (hdg : decode cc pc = .ok (.invokestatic index, 3)) (hl1 : Cond.methodLink own index arraycopyName ∈ tW) (hl2 : Cond.native arraycopyName ∈ tW) (hl3 : Cond.static arraycopyName ∈ tW) (hl4 : Cond.initialized "java/lang/System" ∈ tW) (hn : pc + 3 = nx) : tSnd my mc mL mr own cc nL ret pc (aCpy nx) := by
  subst hn
  intro E p l e s m args below meth c d hX rec hR K hK ls st G r hO hr
  unfold aCpy at hr
  dsimp only at hr
  split at hr
  · rename_i n dp q1 sp q0 st'
    obtain ⟨c1, o1⟩ := q1
    obtain ⟨c0, o0⟩ := q0
    replace hr := tcond_some.mp hr
    obtain ⟨hb0, hr⟩ := hr
    simp only [Bool.and_eq_true] at hb0
    obtain ⟨⟨e1, e2⟩, ⟨e3, e4⟩, e5, e6⟩ := hb0
    have hd0 : 0 < d := Nat.le_of_ble_eq_true e1
    have h8 : tcats st' ≤ 16 := Nat.le_of_ble_eq_true e2
    have g100 : 100 ≤ c1 := Nat.le_of_ble_eq_true e3
    have gk : tak c1 = 0 := Nat.eq_of_beq_eq_true e4
    have f100 : 100 ≤ c0 := Nat.le_of_ble_eq_true e5
    have fk : tak c0 = 0 := Nat.eq_of_beq_eq_true e6
    by_cases h0 : tcpok sp dp n (talen c0 o0) (talen c1 o1)
    · rw [if_pos h0] at hr
      obtain ⟨hv1, hst1⟩ := tokS_c.mp (tokS_c.mp (tokS_c.mp hO.1).2).2
      obtain ⟨hv0, hst⟩ := tokS_c.mp (tokS_c.mp hst1).2
      have hcm1 : c1 ∈ tcomps := hv1.comps (by omega) (by omega) (by omega)
      have hcm0 : c0 ∈ tcomps := hv0.comps (by omega) (by omega) (by omega)
      have h1 := hK (pc + 3, ls, st', sA G c1 o1 (va_cpy (gA G c0 o0) (gA G c1 o1) sp.toNatClampNeg dp.toNatClampNeg n.toNatClampNeg)) ⟨hst, hO.2.1, hO.2.2⟩ r hr
      refine fun H locs lsA hP hS hl => ?_
      obtain ⟨q1, hq1, hw1⟩ := tarrW (E := E) (G := G) (o := o1) hcm1 hv1.2 g100 gk (by decide) (by decide)
      obtain ⟨q0, hq0, hw0⟩ := tarrW (E := E) (G := G) (o := o0) hcm0 hv0.2 f100 fk (by decide) (by decide)
      have nn : ∀ z : Int32, 0 ≤ z.toInt → ¬ z < 0 := fun z hz h => by have := Int32.lt_iff_toInt_lt.mp h; simp at this; omega
      have nt : ∀ z : Int32, 0 ≤ z.toInt → (z.toNatClampNeg : Int) = z.toInt := fun z hz => by show ((z.toInt.toNat : Nat) : Int) = _; omega
      obtain ⟨a1, a2, a3, a4, a5⟩ := h0
      have b1 := nt sp a1
      have b2 := nt dp a2
      have b3 := nt n a3
      refine va_copyi hX.1 hX.2.1 (by rw [hX.2.2.1, hl.1]) hX.2.2.2.2.2.1 (hX.2.2.2.2.2.2.1 _ hl1) (hX.2.2.2.2.2.2.1 _ hl2) (hX.2.2.2.2.2.2.1 _ hl3) (hX.2.2.2.2.2.2.1 _ hl4) hX.2.2.2.2.2.2.2.1.1 hP (tWd_D hX.2.2.2.2.2.2.2.2.2 G) hS q0 q1 0 0 (ty := .int) hw0 hw1 rfl rfl rfl (nn sp a1) (nn dp a2) (nn n a3) (by omega) (by omega) (fun _ _ => rfl) (show 1 ≤ d from hd0) (by rw [tcats_sum]; show _ + (nativeFrameWords "java/lang/System" "arraycopy" 5 + 11) ≤ 64 * d; rw [show nativeFrameWords "java/lang/System" "arraycopy" 5 = 7 by decide]; omega) hdg (fun H1 locs1 hP1 _ hS1 => h1 H1 locs1 lsA ?_ hS1 hl)
      obtain ⟨g1, g2⟩ := tcell_sA (E := E) (G := G) (c := c1) (o := o1) (g := va_cpy (gA G c0 o0) (gA G c1 o1) sp.toNatClampNeg dp.toNatClampNeg n.toNatClampNeg) (by omega) (by rw [gk]; decide)
      rw [← tWd_set hX.2.2.2.2.2.2.2.2.2 hq1 g1 g2, gk]
      exact hP1
    · rw [if_neg h0] at hr; cases hr
  · cases hr
theorem snd_GV {index : Nat} (hdg : decode cc pc = .ok (.getfield index, 3)) (hl1 : Cond.fieldLink own index "java/lang/String" "value" "[B" ∈ tW) (hn : pc + 3 = nx) : tSnd my mc mL mr own cc nL ret pc (aGV nx) := by
  subst hn
  intro E p l e s m args below meth c d hX rec hR K hK ls st G r hO hr
  unfold aGV at hr
  dsimp only at hr
  split at hr
  · rename_i q st'
    obtain ⟨c0, o⟩ := q
    replace hr := tcond_some.mp hr
    obtain ⟨hb0, hr⟩ := hr
    have hc0 : c0 = 20 := Nat.eq_of_beq_eq_true hb0
    subst hc0
    obtain ⟨hv0, hst⟩ := tokS_c.mp hO.1
    have ho : o < 15 := hv0.2
    have h1 := hK (pc + 3, ls, vR 21 o :: st', G) ⟨tokS_c.mpr ⟨(⟨Or.inr (Or.inl rfl), ho⟩ : tvd 21 o), hst⟩, hO.2⟩ r hr
    exact fun H locs lsA hP hS hl => vk_getf hX.1 hX.2.1 (hX.2.2.2.2.2.2.2.2.1.1.1 o ho).2.2.1 hS hX.2.2.2.2.2.1 (hX.2.2.2.2.2.2.1 _ hl1) (fun _ h => h) hdg (h1 H locs lsA hP hS hl)
  · cases hr
theorem snd_GD {index : Nat} (hdg : decode cc pc = .ok (.getfield index, 3)) (hl1 : Cond.fieldLink own index "java/lang/String" "coder" "B" ∈ tW) (hn : pc + 3 = nx) : tSnd my mc mL mr own cc nL ret pc (aGD nx) := by
  subst hn
  intro E p l e s m args below meth c d hX rec hR K hK ls st G r hO hr
  unfold aGD at hr
  dsimp only at hr
  split at hr
  · rename_i q st'
    obtain ⟨c0, o⟩ := q
    replace hr := tcond_some.mp hr
    obtain ⟨hb0, hr⟩ := hr
    have hc0 : c0 = 20 := Nat.eq_of_beq_eq_true hb0
    subst hc0
    obtain ⟨hv0, hst⟩ := tokS_c.mp hO.1
    have ho : o < 15 := hv0.2
    have h1 := hK (pc + 3, ls, vI (nI 0) :: st', G) ⟨tokS_c.mpr ⟨trivial, hst⟩, hO.2⟩ r hr
    exact fun H locs lsA hP hS hl => vk_getf hX.1 hX.2.1 (hX.2.2.2.2.2.2.2.2.1.1.1 o ho).2.1 hS hX.2.2.2.2.2.1 (hX.2.2.2.2.2.2.1 _ hl1) (fun _ h => h) hdg (h1 H locs lsA hP hS hl)
  · cases hr
theorem snd_SB (hdg : decode cc pc = .ok (.baload, 1)) (hn : pc + 1 = nx) : tSnd my mc mL mr own cc nL ret pc (aSB nx) := by
  subst hn
  intro E p l e s m args below meth c d hX rec hR K hK ls st G r hO hr
  unfold aSB at hr
  dsimp only at hr
  split at hr
  · rename_i i q st'
    obtain ⟨c0, o⟩ := q
    replace hr := tcond_some.mp hr
    obtain ⟨hb0, hr⟩ := hr
    have hc0 : c0 = 21 := Nat.eq_of_beq_eq_true hb0
    subst hc0
    obtain ⟨hv0, hst⟩ := tokS_c.mp (tokS_c.mp hO.1).2
    have ho : o < 15 := hv0.2
    by_cases h0 : tin i (tslen.getD o 0)
    · rw [if_pos h0] at hr
      have h1 := hK (pc + 1, ls, vI ((tsbyt.getD o []).getD i.toNatClampNeg 0) :: st', G) ⟨tokS_c.mpr ⟨trivial, hst⟩, hO.2⟩ r hr
      exact fun H locs lsA hP hS hl => va_tb hX.1 hX.2.1 (hX.2.2.2.2.2.2.2.2.1.1.1 o ho).2.2.2 hS (tin_vp h0) rfl hdg (h1 H locs lsA hP hS hl)
    · rw [if_neg h0] at hr; cases hr
  · cases hr
theorem snd_SN (hdg : decode cc pc = .ok (.arraylength, 1)) (hn : pc + 1 = nx) : tSnd my mc mL mr own cc nL ret pc (aSN nx) := by
  subst hn
  intro E p l e s m args below meth c d hX rec hR K hK ls st G r hO hr
  unfold aSN at hr
  dsimp only at hr
  split at hr
  · rename_i q st'
    obtain ⟨c0, o⟩ := q
    replace hr := tcond_some.mp hr
    obtain ⟨hb0, hr⟩ := hr
    have hc0 : c0 = 21 := Nat.eq_of_beq_eq_true hb0
    subst hc0
    obtain ⟨hv0, hst⟩ := tokS_c.mp hO.1
    have ho : o < 15 := hv0.2
    have h1 := hK (pc + 1, ls, vI (Int32.ofNat (tslen.getD o 0)) :: st', G) ⟨tokS_c.mpr ⟨trivial, hst⟩, hO.2⟩ r hr
    exact fun H locs lsA hP hS hl => va_tlen hX.1 hX.2.1 (hX.2.2.2.2.2.2.2.2.1.1.1 o ho).2.2.2 hS rfl hdg (h1 H locs lsA hP hS hl)
  · cases hr
theorem snd_stat {index : Nat} (hdg : decode cc pc = .ok (.getstatic index, 3)) (hl1 : Cond.fieldLink own index "java/lang/String" "COMPACT_STRINGS" "Z" ∈ tW) (hn : pc + 3 = nx) : tSnd my mc mL mr own cc nL ret pc (aCn (nI 1) nx) := by
  subst hn
  intro E p l e s m args below meth c d hX rec hR K hK ls st G r hO hr
  have h1 := hK (pc + 3, ls, vI (nI 1) :: st, G) ⟨tokS_c.mpr ⟨trivial, hO.1⟩, hO.2⟩ r hr
  exact fun H locs lsA hP hS hl => va_gets hX.1 hX.2.1 hX.2.2.2.2.2.2.2.2.1.2.1 hS hX.2.2.2.2.2.1 (hX.2.2.2.2.2.2.1 _ hl1) (fun _ h => h) hdg (h1 H locs lsA hP hS hl)
theorem snd_alen (hdg : decode cc pc = .ok (.arraylength, 1)) (hn : pc + 1 = nx) : tSnd my mc mL mr own cc nL ret pc (aLen nx) := by
  subst hn
  intro E p l e s m args below meth c d hX rec hR K hK ls st G r hO hr
  unfold aLen at hr
  dsimp only at hr
  split at hr
  · rename_i q st'
    obtain ⟨c0, o⟩ := q
    replace hr := tcond_some.mp hr
    obtain ⟨hb0, hr⟩ := hr
    have h100 : 100 ≤ c0 := Nat.le_of_ble_eq_true hb0
    obtain ⟨hv0, hst⟩ := tokS_c.mp hO.1
    have hcm : c0 ∈ tcomps := hv0.comps (by omega) (by omega) (by omega)
    have ho : o < tcnt c0 := hv0.2
    have h1 := hK (pc + 1, ls, vI (Int32.ofNat (talen c0 o)) :: st', G) ⟨tokS_c.mpr ⟨trivial, hst⟩, hO.2⟩ r hr
    refine fun H locs lsA hP hS hl => ?_
    have hks : ∀ c ∈ tcomps, tak c = 0 ∨ tak c = 1 ∨ tak c = 2 ∨ tak c = 3 ∨ tak c = 4 := by decide +kernel
    have hKK := hX.2.2.2.2.2.2.2.1.1
    rcases hks c0 hcm with hk | hk | hk | hk | hk
    · obtain ⟨q0, -, hw⟩ := tarrW (E := E) (G := G) hcm ho h100 hk (by decide) (by decide)
      exact va_alen hX.1 hX.2.1 hKK hP q0 0 hw (ty := .int) rfl rfl hdg (h1 H locs lsA hP hS hl)
    · obtain ⟨q0, -, hw⟩ := tarrB (E := E) (G := G) hcm ho h100 hk
      exact va_alen hX.1 hX.2.1 hKK hP q0 1 hw (ty := .long) rfl rfl hdg (h1 H locs lsA hP hS hl)
    · obtain ⟨q0, -, hw⟩ := tarrW (E := E) (G := G) hcm ho h100 hk (by decide) (by decide)
      exact va_alen hX.1 hX.2.1 hKK hP q0 2 hw (ty := .char) rfl rfl hdg (h1 H locs lsA hP hS hl)
    · obtain ⟨q0, -, hw⟩ := tarrW (E := E) (G := G) hcm ho h100 hk (by decide) (by decide)
      exact va_alen hX.1 hX.2.1 hKK hP q0 3 hw (ty := .boolean) rfl rfl hdg (h1 H locs lsA hP hS hl)
    · obtain ⟨q0, -, hw⟩ := tarrQ (E := E) (G := G) hcm ho h100 hk
      exact va_alen hX.1 hX.2.1 hKK hP q0 4 hw (ty := .object "TaxFarm$State") rfl rfl hdg (h1 H locs lsA hP hS hl)
  · cases hr
/-! switches -/
def tfd (x : Int32) (df : Nat) : List (Int32 × Nat) → Nat
  | [] => df
  | c :: cs => if x = c.1 then c.2 else tfd x df cs
theorem tsw_fd (x : Int32) (K : Nat → Option tRes) (df : Nat) : ∀ cs : List (Int32 × Nat), tsw x K df cs = K (tfd x df cs)
  | [] => rfl
  | c :: cs => by
    by_cases h : x = c.1
    · simp only [tsw, tfd, if_pos h]
    · simp only [tsw, tfd, if_neg h]
      exact tsw_fd x K df cs
def tsok (pc : Nat) : Int → List (Int32 × Nat) → List Int → Bool
  | _, [], [] => true
  | lo, c :: cs, o :: os => decide (c.1.toInt = lo) && decide ((pc : Int) + o = (c.2 : Int)) && tsok pc (lo + 1) cs os
  | _, _, _ => false
theorem tsok_spec (pc df : Nat) (x : Int32) : ∀ (cs : List (Int32 × Nat)) (lo : Int) (os : List Int), tsok pc lo cs os = true → (x.toInt < lo → tfd x df cs = df) ∧ (lo + cs.length ≤ x.toInt → tfd x df cs = df) ∧ (lo ≤ x.toInt → x.toInt < lo + cs.length → ∃ off, os[(x.toInt - lo).toNat]? = some off ∧ (pc : Int) + off = (tfd x df cs : Int))
  | [], lo, os, h => ⟨fun _ => rfl, fun _ => rfl, fun h1 h2 => by simp at h2; omega⟩
  | c :: cs, lo, [], h => by simp [tsok] at h
  | c :: cs, lo, o :: os, h => by
    simp only [tsok, Bool.and_eq_true, decide_eq_true_eq] at h
    obtain ⟨⟨h1, h2⟩, h3⟩ := h
    obtain ⟨g1, g2, g3⟩ := tsok_spec pc df x cs (lo + 1) os h3
    have hne : x.toInt ≠ lo → ¬ x = c.1 := fun q q2 => q (by rw [q2, h1])
    refine ⟨fun q => ?_, fun q => ?_, fun q1 q2 => ?_⟩
    · rw [tfd, if_neg (hne (by omega))]; exact g1 (by omega)
    · simp only [List.length_cons] at q
      rw [tfd, if_neg (hne (by omega))]; exact g2 (by omega)
    · simp only [List.length_cons] at q2
      by_cases hx : x.toInt = lo
      · have hxe : x = c.1 := Int32.toInt_inj.mp (by rw [hx, h1])
        refine ⟨o, by rw [hx]; simp, ?_⟩
        rw [tfd, if_pos hxe, h2]
      · obtain ⟨off, k1, k2⟩ := g3 (by omega) (by omega)
        refine ⟨off, ?_, by rw [tfd, if_neg (hne hx)]; exact k2⟩
        rw [show (x.toInt - lo).toNat = (x.toInt - (lo + 1)).toNat + 1 by omega, List.getElem?_cons_succ]
        exact k1
theorem snd_table {cs : List (Int32 × Nat)} {df len : Nat} {dflt lo hi : Int} {offs : Array Int} (hdg : decode cc pc = .ok (.tableswitch dflt lo hi offs, len)) (hok : tsok pc lo cs offs.toList = true) (hhi : hi = lo + cs.length - 1) (hdf : (pc : Int) + dflt = (df : Int)) : tSnd my mc mL mr own cc nL ret pc (aSw cs df) := by
  intro E p l e s m args below meth c d hX rec hR K hK ls st G r hO hr
  unfold aSw at hr
  dsimp only at hr
  split at hr
  · rename_i x st'
    rw [tsw_fd] at hr
    have h1 := hK (tfd x df cs, ls, st', G) ⟨(tokS_c.mp hO.1).2, hO.2⟩ r hr
    refine fun H locs lsA hP hS hl => ?_
    obtain ⟨g1, g2, g3⟩ := tsok_spec pc df x cs lo offs.toList hok
    by_cases q : x.toInt < lo ∨ hi < x.toInt
    · have hfd : tfd x df cs = df := q.elim g1 (fun q => g2 (by omega))
      exact lv_tableOut hX.1 hX.2.1 hdg q (by rw [hdf, hfd]) (h1 H locs lsA hP hS hl)
    · have q1 : ¬ x.toInt < lo := fun z => q (Or.inl z)
      have q2 : ¬ hi < x.toInt := fun z => q (Or.inr z)
      obtain ⟨off, k1, k2⟩ := g3 (by omega) (by omega)
      exact lv_tableIn hX.1 hX.2.1 hdg q1 q2 (by rw [← Array.getElem?_toList]; exact k1) k2 (h1 H locs lsA hP hS hl)
  · cases hr
def tlok (pc : Nat) : List (Int32 × Nat) → List (Int × Int) → Bool
  | [], [] => true
  | c :: cs, o :: os => decide (c.1.toInt = o.1) && decide ((pc : Int) + o.2 = (c.2 : Int)) && tlok pc cs os
  | _, _ => false
theorem tlok_spec (pc df : Nat) (x : Int32) (dflt : Int) (hdf : (pc : Int) + dflt = (df : Int)) : ∀ (cs : List (Int32 × Nat)) (ps : List (Int × Int)), tlok pc cs ps = true → (pc : Int) + Op.lookupswitch.offset ps dflt x.toInt = (tfd x df cs : Int)
  | [], [], _ => hdf
  | [], p :: ps, h => by simp [tlok] at h
  | c :: cs, [], h => by simp [tlok] at h
  | c :: cs, (a, o) :: ps, h => by
    simp only [tlok, Bool.and_eq_true, decide_eq_true_eq] at h
    obtain ⟨⟨h1, h2⟩, h3⟩ := h
    rw [Op.lookupswitch.offset_cons, tfd]
    by_cases hx : x = c.1
    · rw [if_pos hx, if_pos (by rw [hx, h1]), h2]
    · rw [if_neg hx, if_neg (fun q => hx (Int32.toInt_inj.mp (by rw [h1, q]))), tlok_spec pc df x dflt hdf cs ps h3]
theorem snd_lookup {cs : List (Int32 × Nat)} {df len : Nat} {dflt : Int} {ps : Array (Int × Int)} (hdg : decode cc pc = .ok (.lookupswitch dflt ps, len)) (hp : (ps.toList.zip (ps.toList.drop 1)).all (fun (a, next) => a.1 < next.1) = true) (hok : tlok pc cs ps.toList = true) (hdf : (pc : Int) + dflt = (df : Int)) : tSnd my mc mL mr own cc nL ret pc (aSw cs df) := by
  intro E p l e s m args below meth c d hX rec hR K hK ls st G r hO hr
  unfold aSw at hr
  dsimp only at hr
  split at hr
  · rename_i x st'
    rw [tsw_fd] at hr
    have h1 := hK (tfd x df cs, ls, st', G) ⟨(tokS_c.mp hO.1).2, hO.2⟩ r hr
    exact fun H locs lsA hP hS hl => lv_lookup hX.1 hX.2.1 hdg hp rfl (tlok_spec pc df x dflt hdf cs ps.toList hok) (h1 H locs lsA hP hS hl)
  · cases hr
/-! calls -/
theorem tgood {w : Cond} (h : w ∈ tW) : w ∈ tW ∧ ((w.onTables && w.keeps) = true ∨ ∃ ty, w = .arrayClass ty) := ⟨h, good_of_word (List.mem_filter.mp h).2⟩
theorem tpop_spec : ∀ (n : Nat) (st as : List tV) (z : List tV × List tV), tpop n st as = some z → ∃ xs : List tV, st = xs ++ z.2 ∧ z.1 = xs.reverse ++ as ∧ xs.length = n
  | 0, st, as, z, h => by cases h; exact ⟨[], rfl, rfl, rfl⟩
  | n + 1, [], as, z, h => by cases h
  | n + 1, v :: st, as, z, h => by
    obtain ⟨xs, h1, h2, h3⟩ := tpop_spec n st (v :: as) z h
    exact ⟨v :: xs, by rw [h1]; rfl, by rw [h2]; simp, by simp [h3]⟩
theorem tKN.warm {E : tE} {s U : State} (hW : s.WarmedH U.vm) (h : tKN E s) : tKN E U := by
  refine ⟨va_K.moved hW.alike h.1, fun w hw => ?_, fun q hq => (h.2.2 q hq).warm hW⟩
  have h1 := h.2.1 w hw
  simp only [tNest, List.mem_cons, List.not_mem_nil, or_false] at hw
  rcases hw with rfl | rfl | rfl | rfl
  · exact h1.warmF hW
  · exact h1.warmF hW
  · exact h1.warmF hW
  · exact h1.warmM hW
theorem tHK.warm {E : tE} {s U : State} {H : Heap} (hvm : s.vm.Alike U.vm) (h : tHK E s H) : tHK E U H := ⟨h.1.moved hvm, h.2.1.moved hvm, h.2.2.moved hvm⟩
theorem tHK.kept {E : tE} {s : State} {H H1 : Heap} (h : tHK E s H) (hq : ∀ a : Nat, a < H.size → ¬ tAP E a → H1[a]? = H[a]?) : tHK E s H1 := ⟨h.1.kept hq, h.2.1.kept hq, h.2.2.kept hq⟩
theorem tPc_blind {E : tE} {as : List tV} {G : tH} : FrameBlind (tPc E as G) := fun a U g mk q => by
  obtain ⟨q0, q1, q2, q3⟩ := q
  refine ⟨q0, q1, ⟨va_K.moved (u := U) (U := U.calling g mk a) (Vm.Alike.refl U.vm) q2.1, fun w hw => ?_, fun z hz => (q2.2.2 z hz).same rfl⟩, tHK.warm (s := U) (U := U.calling g mk a) (Vm.Alike.refl U.vm) q3⟩
  have h1 := q2.2.1 w hw
  simp only [tNest, List.mem_cons, List.not_mem_nil, or_false] at hw
  rcases hw with rfl | rfl | rfl | rfl
  · exact h1.same rfl rfl
  · exact h1.same rfl rfl
  · exact h1.same rfl rfl
  · exact h1.same rfl rfl
theorem tPc_at {E : tE} {s : State} {as : List tV} {G : tH} {H : Heap} {locs : List Loc} (hKN : tKN E s) (hHK : tHK E s s.heap) (hS : va_S (tAP E) s.heap H locs) (hP : va_P E.1 vwCl (tWd E G) H) : ∀ U : State, U.heap = H → s.WarmedH U.vm → tPc E as G (as.map (tmv E)).toArray U := by
  intro U hU hW
  refine ⟨rfl, by rw [hU]; exact hP, hKN.warm hW, ?_⟩
  rw [hU]
  exact (hHK.kept hS.2.1).warm hW.alike
section TCL
variable {E : tE} {p : Program} {l : Launch} {e : Env} {R : Room} {s : State} {m : MethodId} {args : Array Value} {below : List Frame} {meth : Method} {c : Code} {H : Heap} {locs : List Loc} {lsA : Array Slot} {rest st0 : List Value} {a : Array Value} {r : tRes} {Q : State → Prop}
theorem tcallW (hr : va_Run p l e R s m args below meth c H locs 0 0 0 0 (F0 m pc lsA st0) rest (tQ E r a) (tAP E)) (hS : va_S (tAP E) s.heap H locs)
    (kk : ∀ (H1 : Heap) (locs1 : List Loc), tokR r → va_P E.1 vwCl (tWd E r.2) H1 → va_S (tAP E) s.heap H1 locs1 → W p l e R s m args below meth c H1 locs1 0 0 Q (F0 m (pc + 3) lsA ((r.1.map (tmv E)).toList ++ rest))) : W p l e R s m args below meth c H locs 0 0 Q (F0 m pc lsA st0) := by
  intro T hT X
  obtain ⟨v, st₀, t, T', L, h0, X', hL, e1, e2, ⟨hv, hrr, hb, hz, hk⟩, st⟩ := hr T hT X
  cases hv
  rw [h0] at hz hk
  obtain ⟨t2, a1, b1⟩ := kk T'.heap (locs ++ L) hrr (by rw [e1]; exact hb)
    ⟨Nat.le_trans hS.1 (by rw [e1]; exact hz), fun q h1 h2 => by rw [e1, hk q (Nat.lt_of_lt_of_le h1 hS.1) h2]; exact hS.2.1 q h1 h2, fun q hq => by
      rcases List.mem_append.mp hq with h | h
      · exact hS.2.2 q h
      · exact hL q h⟩ T' rfl X'
  exact ⟨t2, st t2 a1, b1⟩
end TCL
theorem tcall_room16 {d d' maxL : Nat} (hd : d' < d) (hm : maxL ≤ 37) : 16 + (maxL + 11) + (tRm d').locals ≤ (tRm d).locals := by
  show 16 + (maxL + 11) + 64 * d' ≤ 64 * d
  omega
section TRUN
variable {p : Program} {l : Launch} {e : Env} {R : Room} {s : State} {m : MethodId} {args : Array Value} {below : List Frame} {meth : Method} {c : Code} {H : Heap} {locs : List Loc} {cells slots : Nat}
variable {y : MethodName} {bytes cc : ByteArray} {maxL nL mc ms n index : Nat} {ret : Option FieldType} {ws : List Cond} {rm : Room} {Pc : Array Value → State → Prop} {Qc : Array Value → State → Outcome → State → Prop} {free : Addr → Prop} {Ts : List Cond} {own C host : String} {b : Addr} {As rest : List Value} {g : JFrame}
theorem tini {y : MethodName} {s : State} {args : Array Value} (hini : (Cond.initialized y.cls).before args s = true) : ∀ (a' : Array Value) (U : State), s.WarmedH U.vm → (Cond.initialized y.cls).before a' U = true := fun a' U hW => word_at hW (Or.inl (by first | rfl | simp [Cond.onTables, Cond.keeps, Cond.steady])) hini
/-- calls with more on the stack -/
theorem trunV (S : CallFix p m c cc nL s args Ts own) (hM : Met l y ws rm Pc Qc mc ms free) (cw : CallW R s args own C index y bytes maxL ret ws rm mc ms n) (hlo : 16 + (maxL + 11) + rm.locals ≤ R.locals) (hp : PreV s H C b Pc As)
    (hg : g.method = m) (hn : As.length = n) (hsize : g.locals.size = nL) (hstack : g.stack = As.reverse ++ .ref b :: rest) (hW : 2 * g.monitorRoom + (rest.map fun v => v.category).sum ≤ 16) (hdg : decode cc g.pc = .ok (.invokevirtual index, 3)) (hf : cells + mc ≤ R.cells ∧ slots + ms ≤ R.slots) :
    va_Run p l e R s m args below meth c H locs cells slots mc ms g rest (Qc (Value.ref b :: As).toArray) (free) := by
  obtain ⟨⟨hrc, hrs, hfr, -, hws, hcw, hcode, hini, hy, hlen, hl⟩, hin, hse⟩ := cw
  have hK : Back l R p e below s args y 3 16 (PreOf R mc ms Pc) (PostOf Qc mc ms free) := back_of (bytes := bytes) (maxL := maxL) (ret := ret) hM hp.1 hrc hrs hfr hlo hws hcw (tini hini)
  obtain ⟨hx, hb, hml, ho, -⟩ := S
  obtain ⟨-, ⟨cellB, hcB, hoB, hclB⟩, hPc⟩ := hp
  intro T hT X
  obtain ⟨v, vm₁, ⟨U', l2, c2, s2⟩, hW₁, X', ⟨g', mk, t, L, e1, e2, hq, h1, hL, h2, h3⟩, st⟩ := callV X hx (C := C) (bytes := bytes) (maxL := maxL) (ret := ret) ho hl hin hse hcode hy hK (by rw [hT]; exact hcB) hoB hclB hg (hsize.trans hml.symm) (argsL := As) (rest := rest) (fun sig h => hn.trans (hlen sig h)) hstack hW (by rw [hb]; exact hdg)
    (fun vm₁ hW₁ => ⟨hf.1, hf.2, hPc (T.setVm vm₁) hT hW₁⟩)
  dsimp only [Pt.U, Pt.locs, Pt.cells, Pt.slots] at X' e1 e2 h1 h2 h3 st
  subst h1; subst h2; subst h3
  exact ⟨v, (T.setVm vm₁).calling g' mk (Value.ref b :: As).toArray, t, U', L, hT, X', hL, e1, e2, hq, st⟩
theorem trunS (S : CallFix p m c cc nL s args Ts own) (hM : Met l y ws rm Pc Qc mc ms free) (cw : CallB R s args own index y bytes maxL ret ws rm mc ms n ∧ (Cond.static y).before args s = true) (hlo : 16 + (maxL + 11) + rm.locals ≤ R.locals) (hp : PreS s H Pc As)
    (hg : g.method = m) (hn : As.length = n) (hsize : g.locals.size = nL) (hstack : g.stack = As.reverse ++ rest) (hW : 2 * g.monitorRoom + (rest.map fun v => v.category).sum ≤ 16) (hdg : decode cc g.pc = .ok (.invokestatic index, 3)) (hf : cells + mc ≤ R.cells ∧ slots + ms ≤ R.slots) :
    va_Run p l e R s m args below meth c H locs cells slots mc ms g rest (Qc As.toArray) (free) := by
  obtain ⟨⟨hrc, hrs, hfr, -, hws, hcw, hcode, hini, hy, hlen, hl⟩, hstt⟩ := cw
  have hK : Back l R p e below s args y 3 16 (PreOf R mc ms Pc) (PostOf Qc mc ms free) := back_of (bytes := bytes) (maxL := maxL) (ret := ret) hM hp.1 hrc hrs hfr hlo hws hcw (tini hini)
  obtain ⟨hx, hb, hml, ho, -⟩ := S
  intro T hT X
  obtain ⟨v, vm₁, ⟨U', l2, c2, s2⟩, hW₁, X', ⟨g', mk, t, L, e1, e2, hq, h1, hL, h2, h3⟩, st⟩ := callS X hx (bytes := bytes) (maxL := maxL) (ret := ret) ho hl hstt hini hcode hy hK hg (hsize.trans hml.symm) (argsL := As) (rest := rest) (fun sig h => hn.trans (hlen sig h)) hstack hW (by rw [hb]; exact hdg)
    (fun vm₁ hW₁ => ⟨hf.1, hf.2, hp.2 (T.setVm vm₁) hT hW₁⟩)
  dsimp only [Pt.U, Pt.locs, Pt.cells, Pt.slots] at X' e1 e2 h1 h2 h3 st
  subst h1; subst h2; subst h3
  exact ⟨v, (T.setVm vm₁).calling g' mk As.toArray, t, U', L, hT, X', hL, e1, e2, hq, st⟩
theorem trunSN (S : CallFix p m c cc nL s args Ts own) (hM : Met l y ws rm Pc Qc mc ms free) (cw : va_CN R s args own index y host bytes maxL ret ws rm mc ms n ∧ (Cond.static y).before args s = true ∧ True) (hlo : 16 + (maxL + 11) + rm.locals ≤ R.locals) (hp : PreS s H Pc As)
    (hg : g.method = m) (hn : As.length = n) (hsize : g.locals.size = nL) (hstack : g.stack = As.reverse ++ rest) (hW : 2 * g.monitorRoom + (rest.map fun v => v.category).sum ≤ 16) (hdg : decode cc g.pc = .ok (.invokestatic index, 3)) (hf : cells + mc ≤ R.cells ∧ slots + ms ≤ R.slots) :
    va_Run p l e R s m args below meth c H locs cells slots mc ms g rest (Qc As.toArray) (free) := by
  obtain ⟨⟨⟨hrc, hrs, hfr, -, hws, hcw⟩, hcode, hini, hy, hlen, hl⟩, hx1, hx2⟩ := cw
  have hK : Back l R p e below s args y 3 16 (PreOf R mc ms Pc) (PostOf Qc mc ms free) := back_of (bytes := bytes) (maxL := maxL) (ret := ret) hM hp.1 hrc hrs hfr hlo hws hcw (tini hini)
  obtain ⟨hx, hb, hml, ho, -⟩ := S
  have hPc := hp.2
  intro T hT X
  obtain ⟨v, vm₁, ⟨U', l2, c2, s2⟩, hW₁, X', ⟨g', mk, t, L, e1, e2, hq, h1, hL, h2, h3⟩, st⟩ := va_callSN X hx (bytes := bytes) (maxL := maxL) (ret := ret) ho hl hx1 hini hcode hy hK hg (hsize.trans hml.symm) (argsL := As) (rest := rest) (fun sig h => hn.trans (hlen sig h)) hstack hW (by rw [hb]; exact hdg)
    (fun vm₁ hW₁ => ⟨hf.1, hf.2, hPc (T.setVm vm₁) hT hW₁⟩)
  dsimp only [Pt.U, Pt.locs, Pt.cells, Pt.slots] at X' e1 e2 h1 h2 h3 st
  subst h1; subst h2; subst h3
  exact ⟨v, (T.setVm vm₁).calling g' mk As.toArray, t, U', L, hT, X', hL, e1, e2, hq, st⟩
end TRUN
theorem tcall_room {d d' maxL : Nat} (hd : d' < d) (hm : maxL ≤ 37) : (tRm d').frames + 1 ≤ (tRm d).frames ∧ 8 + (maxL + 11) + (tRm d').locals ≤ (tRm d).locals := by
  refine ⟨hd, ?_⟩
  show 8 + (maxL + 11) + 64 * d' ≤ 64 * d
  omega
theorem snd_VI {mid n index maxL : Nat} {y : MethodName} {bytes : ByteArray} {rt : Option FieldType} (hy : my mid = y) (hbc : mc mid = bytes) (hmL : mL mid = maxL) (hmr : mr mid = rt) (hm45 : maxL ≤ 37) {ci : Nat} {C : String} {T : u_T} {N : Nat} {ty : Nat → FieldType} (hcl : tCl ci C T N ty) (w1 : Cond.methodLink own index y ∈ tW) (w5 : Cond.code y bytes maxL rt ∈ tW) (w2 : Cond.instanceMethod y ∈ tW) (w3 : Cond.selects C y y ∈ tW) (w4 : Cond.initialized C ∈ tW) (hyc : y.cls = C) (hds : y.cls ≠ "java/lang/invoke/MethodHandle" ∧ y.cls ≠ "java/lang/invoke/VarHandle" ∧ (parseMethodDescriptor y.desc).map (fun d => d.parameters.length) = some n) (hdg : decode cc pc = .ok (.invokevirtual index, 3)) (hn : pc + 3 = nx) : tSnd my mc mL mr own cc nL ret pc (aVI mid ci (n + 1) nx) := by
  subst hn
  subst hy
  subst hbc
  subst hmL
  subst hmr
  intro E p l e s m args below meth c d hX rec hR K hK ls st G r hO hr
  unfold aVI at hr
  dsimp only at hr
  split at hr
  · rename_i q as st' hpop
    obtain ⟨c0, o⟩ := q
    replace hr := tcond_some.mp hr
    obtain ⟨hb0, hr⟩ := hr
    simp only [Bool.and_eq_true] at hb0
    have hc0 : c0 = ci := Nat.eq_of_beq_eq_true hb0.1
    subst hc0
    have h8 : tcats st' ≤ 16 := Nat.le_of_ble_eq_true hb0.2
    obtain ⟨x, G', e1, e2⟩ := tbI_some.mp hr
    obtain ⟨xs, hst, has, hln⟩ := tpop_spec _ _ _ _ hpop
    dsimp only at hst has
    rw [List.append_nil] at has
    have hxs : xs = as.reverse ++ [.inr (.inr (c0, o))] := by rw [← List.reverse_reverse xs, ← has]; simp
    subst hst
    have hok : tokS (xs ++ st') := hO.1
    have hoks : tokS (.inr (.inr (c0, o)) :: as) := fun v hv => hok v (List.mem_append_left _ (by rw [hxs]; simp only [List.mem_append, List.mem_reverse, List.mem_cons, List.not_mem_nil, or_false] at hv ⊢; exact hv.symm))
    have hokr : tokS st' := fun v hv => hok v (List.mem_append_right _ hv)
    obtain ⟨d', hd', hM⟩ := hR mid _ G _ hoks hO.2.2 e1
    have h1 := fun (hRr : tokR (some (.inl x), G')) => hK (pc + 3, ls, vI x :: st', G') ⟨tokS_c.mpr ⟨trivial, hokr⟩, hO.2.1, hRr.1⟩ r e2
    refine fun H locs lsA hP hS hl => ?_
    have hlen : as.length = n := by
      have := congrArg List.length hxs
      simp only [List.length_append, List.length_reverse, List.length_cons, List.length_nil] at this
      omega
    have ho : o < tcnt c0 := (hoks _ List.mem_cons_self).2
    have hstk : (xs ++ st').map (tmv E) = (as.map (tmv E)).reverse ++ .ref (E.2.2 c0 o) :: st'.map (tmv E) := by
      rw [hxs, List.map_append, List.map_append, List.map_reverse, List.append_assoc]
      rfl
    obtain ⟨k0, hk0, hw0⟩ := tWd_get (E := E) (G := G) hcl.2.2.1 ho
    have hrecv : ∃ cellB : Cell, H[E.2.2 c0 o]? = some cellB ∧ cellB.vm.isStatics = false ∧ s.vm.findClass C = some cellB.cls := va_recv (q := (C, T, N)) (ci := c0) (q0 := k0) hX.2.2.2.2.2.2.2.1.1 hP hcl.1 (by rw [hw0, tcell, if_pos hcl.2.2.2.1])
    have hrun := trunV (p := p) (l := l) (e := e) (R := tRm d) (below := below) (meth := meth) (locs := locs) (cells := 0) (slots := 0) (As := as.map (tmv E)) (rest := st'.map (tmv E)) (g := F0 m pc lsA ((xs ++ st').map (tmv E))) (b := E.2.2 c0 o) (C := C) (index := index) (H := H) ⟨hX.1, hX.2.1, hX.2.2.1, hX.2.2.2.2.2.1, hX.2.2.2.2.2.2.1⟩ hM (cwV n hX.2.2.2.2.2.2.1 (fun w hw => by
        simp only [wsV, tmw, List.mem_append, List.mem_cons, List.not_mem_nil, or_false] at hw
        rcases hw with (rfl | rfl | rfl | rfl) | rfl | hw
        · exact tgood w1
        · exact tgood w2
        · exact tgood w3
        · exact tgood w4
        · exact tgood w5
        · exact tgood hw) rfl rfl rfl ⟨hyc, hds⟩ (tcall_room hd' hm45)) (tcall_room16 hd' hm45) ⟨tPc_blind, hrecv, tPc_at (as := .inr (.inr (c0, o)) :: as) hX.2.2.2.2.2.2.2.1 hX.2.2.2.2.2.2.2.2.1 hS hP⟩ rfl (by rw [List.length_map]; exact hlen) hl.1 hstk (by rw [tcats_sum]; show 2 * 0 + _ ≤ 16; omega) hdg ⟨Nat.zero_le _, Nat.zero_le _⟩
    exact tcallW hrun hS (fun H1 locs1 hRr hP1 hS1 => h1 hRr H1 locs1 lsA hP1 hS1 hl)
  · cases hr
theorem snd_VV {mid n index maxL : Nat} {y : MethodName} {bytes : ByteArray} {rt : Option FieldType} (hy : my mid = y) (hbc : mc mid = bytes) (hmL : mL mid = maxL) (hmr : mr mid = rt) (hm45 : maxL ≤ 37) {ci : Nat} {C : String} {T : u_T} {N : Nat} {ty : Nat → FieldType} (hcl : tCl ci C T N ty) (w1 : Cond.methodLink own index y ∈ tW) (w5 : Cond.code y bytes maxL rt ∈ tW) (w2 : Cond.instanceMethod y ∈ tW) (w3 : Cond.selects C y y ∈ tW) (w4 : Cond.initialized C ∈ tW) (hyc : y.cls = C) (hds : y.cls ≠ "java/lang/invoke/MethodHandle" ∧ y.cls ≠ "java/lang/invoke/VarHandle" ∧ (parseMethodDescriptor y.desc).map (fun d => d.parameters.length) = some n) (hdg : decode cc pc = .ok (.invokevirtual index, 3)) (hn : pc + 3 = nx) : tSnd my mc mL mr own cc nL ret pc (aVV mid ci (n + 1) nx) := by
  subst hn
  subst hy
  subst hbc
  subst hmL
  subst hmr
  intro E p l e s m args below meth c d hX rec hR K hK ls st G r hO hr
  unfold aVV at hr
  dsimp only at hr
  split at hr
  · rename_i q as st' hpop
    obtain ⟨c0, o⟩ := q
    replace hr := tcond_some.mp hr
    obtain ⟨hb0, hr⟩ := hr
    simp only [Bool.and_eq_true] at hb0
    have hc0 : c0 = ci := Nat.eq_of_beq_eq_true hb0.1
    subst hc0
    have h8 : tcats st' ≤ 16 := Nat.le_of_ble_eq_true hb0.2
    obtain ⟨G', e1, e2⟩ := tbV_some.mp hr
    obtain ⟨xs, hst, has, hln⟩ := tpop_spec _ _ _ _ hpop
    dsimp only at hst has
    rw [List.append_nil] at has
    have hxs : xs = as.reverse ++ [.inr (.inr (c0, o))] := by rw [← List.reverse_reverse xs, ← has]; simp
    subst hst
    have hok : tokS (xs ++ st') := hO.1
    have hoks : tokS (.inr (.inr (c0, o)) :: as) := fun v hv => hok v (List.mem_append_left _ (by rw [hxs]; simp only [List.mem_append, List.mem_reverse, List.mem_cons, List.not_mem_nil, or_false] at hv ⊢; exact hv.symm))
    have hokr : tokS st' := fun v hv => hok v (List.mem_append_right _ hv)
    obtain ⟨d', hd', hM⟩ := hR mid _ G _ hoks hO.2.2 e1
    have h1 := fun (hRr : tokR (none, G')) => hK (pc + 3, ls, st', G') ⟨hokr, hO.2.1, hRr.1⟩ r e2
    refine fun H locs lsA hP hS hl => ?_
    have hlen : as.length = n := by
      have := congrArg List.length hxs
      simp only [List.length_append, List.length_reverse, List.length_cons, List.length_nil] at this
      omega
    have ho : o < tcnt c0 := (hoks _ List.mem_cons_self).2
    have hstk : (xs ++ st').map (tmv E) = (as.map (tmv E)).reverse ++ .ref (E.2.2 c0 o) :: st'.map (tmv E) := by
      rw [hxs, List.map_append, List.map_append, List.map_reverse, List.append_assoc]
      rfl
    obtain ⟨k0, hk0, hw0⟩ := tWd_get (E := E) (G := G) hcl.2.2.1 ho
    have hrecv : ∃ cellB : Cell, H[E.2.2 c0 o]? = some cellB ∧ cellB.vm.isStatics = false ∧ s.vm.findClass C = some cellB.cls := va_recv (q := (C, T, N)) (ci := c0) (q0 := k0) hX.2.2.2.2.2.2.2.1.1 hP hcl.1 (by rw [hw0, tcell, if_pos hcl.2.2.2.1])
    have hrun := trunV (p := p) (l := l) (e := e) (R := tRm d) (below := below) (meth := meth) (locs := locs) (cells := 0) (slots := 0) (As := as.map (tmv E)) (rest := st'.map (tmv E)) (g := F0 m pc lsA ((xs ++ st').map (tmv E))) (b := E.2.2 c0 o) (C := C) (index := index) (H := H) ⟨hX.1, hX.2.1, hX.2.2.1, hX.2.2.2.2.2.1, hX.2.2.2.2.2.2.1⟩ hM (cwV n hX.2.2.2.2.2.2.1 (fun w hw => by
        simp only [wsV, tmw, List.mem_append, List.mem_cons, List.not_mem_nil, or_false] at hw
        rcases hw with (rfl | rfl | rfl | rfl) | rfl | hw
        · exact tgood w1
        · exact tgood w2
        · exact tgood w3
        · exact tgood w4
        · exact tgood w5
        · exact tgood hw) rfl rfl rfl ⟨hyc, hds⟩ (tcall_room hd' hm45)) (tcall_room16 hd' hm45) ⟨tPc_blind, hrecv, tPc_at (as := .inr (.inr (c0, o)) :: as) hX.2.2.2.2.2.2.2.1 hX.2.2.2.2.2.2.2.2.1 hS hP⟩ rfl (by rw [List.length_map]; exact hlen) hl.1 hstk (by rw [tcats_sum]; show 2 * 0 + _ ≤ 16; omega) hdg ⟨Nat.zero_le _, Nat.zero_le _⟩
    exact tcallW hrun hS (fun H1 locs1 hRr hP1 hS1 => h1 hRr H1 locs1 lsA hP1 hS1 hl)
  · cases hr
theorem snd_SVI {mid n index maxL : Nat} {y : MethodName} {bytes : ByteArray} {rt : Option FieldType} (hy : my mid = y) (hbc : mc mid = bytes) (hmL : mL mid = maxL) (hmr : mr mid = rt) (hm45 : maxL ≤ 37) {ci : Nat} (hci : ci = 20) (w1 : Cond.methodLink own index y ∈ tW) (w5 : Cond.code y bytes maxL rt ∈ tW) (w2 : Cond.instanceMethod y ∈ tW) (w3 : Cond.selects "java/lang/String" y y ∈ tW) (w4 : Cond.initialized "java/lang/String" ∈ tW) (hyc : y.cls = "java/lang/String") (hds : y.cls ≠ "java/lang/invoke/MethodHandle" ∧ y.cls ≠ "java/lang/invoke/VarHandle" ∧ (parseMethodDescriptor y.desc).map (fun d => d.parameters.length) = some n) (hdg : decode cc pc = .ok (.invokevirtual index, 3)) (hn : pc + 3 = nx) : tSnd my mc mL mr own cc nL ret pc (aVI mid ci (n + 1) nx) := by
  subst hn
  subst hy
  subst hbc
  subst hmL
  subst hmr
  subst hci
  intro E p l e s m args below meth c d hX rec hR K hK ls st G r hO hr
  unfold aVI at hr
  dsimp only at hr
  split at hr
  · rename_i q as st' hpop
    obtain ⟨c0, o⟩ := q
    replace hr := tcond_some.mp hr
    obtain ⟨hb0, hr⟩ := hr
    simp only [Bool.and_eq_true] at hb0
    have hc0 : c0 = 20 := Nat.eq_of_beq_eq_true hb0.1
    subst hc0
    have h8 : tcats st' ≤ 16 := Nat.le_of_ble_eq_true hb0.2
    obtain ⟨x, G', e1, e2⟩ := tbI_some.mp hr
    obtain ⟨xs, hst, has, hln⟩ := tpop_spec _ _ _ _ hpop
    dsimp only at hst has
    rw [List.append_nil] at has
    have hxs : xs = as.reverse ++ [.inr (.inr (20, o))] := by rw [← List.reverse_reverse xs, ← has]; simp
    subst hst
    have hok : tokS (xs ++ st') := hO.1
    have hoks : tokS (.inr (.inr (20, o)) :: as) := fun v hv => hok v (List.mem_append_left _ (by rw [hxs]; simp only [List.mem_append, List.mem_reverse, List.mem_cons, List.not_mem_nil, or_false] at hv ⊢; exact hv.symm))
    have hokr : tokS st' := fun v hv => hok v (List.mem_append_right _ hv)
    obtain ⟨d', hd', hM⟩ := hR mid _ G _ hoks hO.2.2 e1
    have h1 := fun (hRr : tokR (some (.inl x), G')) => hK (pc + 3, ls, vI x :: st', G') ⟨tokS_c.mpr ⟨trivial, hokr⟩, hO.2.1, hRr.1⟩ r e2
    refine fun H locs lsA hP hS hl => ?_
    have hlen : as.length = n := by
      have := congrArg List.length hxs
      simp only [List.length_append, List.length_reverse, List.length_cons, List.length_nil] at this
      omega
    have ho : o < tcnt 20 := (hoks _ List.mem_cons_self).2
    have hstk : (xs ++ st').map (tmv E) = (as.map (tmv E)).reverse ++ .ref (E.2.2 20 o) :: st'.map (tmv E) := by
      rw [hxs, List.map_append, List.map_append, List.map_reverse, List.append_assoc]
      rfl
    have hrecv : ∃ cellB : Cell, H[E.2.2 20 o]? = some cellB ∧ cellB.vm.isStatics = false ∧ s.vm.findClass "java/lang/String" = some cellB.cls := vk_recv hX.2.2.2.2.2.2.2.2.1.1 ho hS
    have hrun := trunV (p := p) (l := l) (e := e) (R := tRm d) (below := below) (meth := meth) (locs := locs) (cells := 0) (slots := 0) (As := as.map (tmv E)) (rest := st'.map (tmv E)) (g := F0 m pc lsA ((xs ++ st').map (tmv E))) (b := E.2.2 20 o) (C := "java/lang/String") (index := index) (H := H) ⟨hX.1, hX.2.1, hX.2.2.1, hX.2.2.2.2.2.1, hX.2.2.2.2.2.2.1⟩ hM (cwV n hX.2.2.2.2.2.2.1 (fun w hw => by
        simp only [wsV, tmw, List.mem_append, List.mem_cons, List.not_mem_nil, or_false] at hw
        rcases hw with (rfl | rfl | rfl | rfl) | rfl | hw
        · exact tgood w1
        · exact tgood w2
        · exact tgood w3
        · exact tgood w4
        · exact tgood w5
        · exact tgood hw) rfl rfl rfl ⟨hyc, hds⟩ (tcall_room hd' hm45)) (tcall_room16 hd' hm45) ⟨tPc_blind, hrecv, tPc_at (as := .inr (.inr (20, o)) :: as) hX.2.2.2.2.2.2.2.1 hX.2.2.2.2.2.2.2.2.1 hS hP⟩ rfl (by rw [List.length_map]; exact hlen) hl.1 hstk (by rw [tcats_sum]; show 2 * 0 + _ ≤ 16; omega) hdg ⟨Nat.zero_le _, Nat.zero_le _⟩
    exact tcallW hrun hS (fun H1 locs1 hRr hP1 hS1 => h1 hRr H1 locs1 lsA hP1 hS1 hl)
  · cases hr
theorem snd_CI {mid n index maxL : Nat} {y : MethodName} {bytes : ByteArray} {rt : Option FieldType} (hy : my mid = y) (hbc : mc mid = bytes) (hmL : mL mid = maxL) (hmr : mr mid = rt) (hm45 : maxL ≤ 37) (w1 : Cond.methodLink own index y ∈ tW) (w5 : Cond.code y bytes maxL rt ∈ tW) (w2 : Cond.static y ∈ tW) (w4 : Cond.initialized y.cls ∈ tW) (hds : y.cls ≠ "java/lang/invoke/MethodHandle" ∧ y.cls ≠ "java/lang/invoke/VarHandle" ∧ (parseMethodDescriptor y.desc).map (fun d => d.parameters.length) = some n) (hdg : decode cc pc = .ok (.invokestatic index, 3)) (hn : pc + 3 = nx) : tSnd my mc mL mr own cc nL ret pc (aCI mid n nx) := by
  subst hn
  subst hy
  subst hbc
  subst hmL
  subst hmr
  intro E p l e s m args below meth c d hX rec hR K hK ls st G r hO hr
  unfold aCI at hr
  dsimp only at hr
  split at hr
  · rename_i q hpop
    obtain ⟨as, st'⟩ := q
    replace hr := tcond_some.mp hr
    obtain ⟨hb0, hr⟩ := hr
    have h8 : tcats st' ≤ 16 := Nat.le_of_ble_eq_true hb0
    obtain ⟨x, G', e1, e2⟩ := tbI_some.mp hr
    obtain ⟨xs, hst, has, hln⟩ := tpop_spec _ _ _ _ hpop
    dsimp only at hst has
    rw [List.append_nil] at has
    have hxs : xs = as.reverse := by rw [has]; simp
    subst hst
    have hok : tokS (xs ++ st') := hO.1
    have hoks : tokS as := fun v hv => hok v (List.mem_append_left _ (by rw [hxs]; exact List.mem_reverse.mpr hv))
    have hokr : tokS st' := fun v hv => hok v (List.mem_append_right _ hv)
    obtain ⟨d', hd', hM⟩ := hR mid _ G _ hoks hO.2.2 e1
    have h1 := fun (hRr : tokR (some (.inl x), G')) => hK (pc + 3, ls, vI x :: st', G') ⟨tokS_c.mpr ⟨trivial, hokr⟩, hO.2.1, hRr.1⟩ r e2
    refine fun H locs lsA hP hS hl => ?_
    have hlen : as.length = n := by rw [has, List.length_reverse]; exact hln
    have hstk : (xs ++ st').map (tmv E) = (as.map (tmv E)).reverse ++ st'.map (tmv E) := by
      rw [hxs, List.map_append, List.map_reverse]
    have hrun := trunS (p := p) (l := l) (e := e) (R := tRm d) (below := below) (meth := meth) (locs := locs) (cells := 0) (slots := 0) (As := as.map (tmv E)) (rest := st'.map (tmv E)) (g := F0 m pc lsA ((xs ++ st').map (tmv E))) (index := index) (H := H) ⟨hX.1, hX.2.1, hX.2.2.1, hX.2.2.2.2.2.1, hX.2.2.2.2.2.2.1⟩ hM (va_cwS n hX.2.2.2.2.2.2.1 (fun w hw => by
        simp only [va_wsS, tmw, List.mem_append, List.mem_cons, List.not_mem_nil, or_false] at hw
        rcases hw with (rfl | rfl | rfl) | rfl | hw
        · exact tgood w1
        · exact tgood w2
        · exact tgood w4
        · exact tgood w5
        · exact tgood hw) rfl rfl rfl hds (tcall_room hd' hm45)) (tcall_room16 hd' hm45) ⟨tPc_blind, tPc_at (as := as) hX.2.2.2.2.2.2.2.1 hX.2.2.2.2.2.2.2.2.1 hS hP⟩ rfl (by rw [List.length_map]; exact hlen) hl.1 hstk (by rw [tcats_sum]; show 2 * 0 + _ ≤ 16; omega) hdg ⟨Nat.zero_le _, Nat.zero_le _⟩
    exact tcallW hrun hS (fun H1 locs1 hRr hP1 hS1 => h1 hRr H1 locs1 lsA hP1 hS1 hl)
  · cases hr
theorem snd_CV {mid n index maxL : Nat} {y : MethodName} {bytes : ByteArray} {rt : Option FieldType} (hy : my mid = y) (hbc : mc mid = bytes) (hmL : mL mid = maxL) (hmr : mr mid = rt) (hm45 : maxL ≤ 37) (w1 : Cond.methodLink own index y ∈ tW) (w5 : Cond.code y bytes maxL rt ∈ tW) (w2 : Cond.static y ∈ tW) (w4 : Cond.initialized y.cls ∈ tW) (hds : y.cls ≠ "java/lang/invoke/MethodHandle" ∧ y.cls ≠ "java/lang/invoke/VarHandle" ∧ (parseMethodDescriptor y.desc).map (fun d => d.parameters.length) = some n) (hdg : decode cc pc = .ok (.invokestatic index, 3)) (hn : pc + 3 = nx) : tSnd my mc mL mr own cc nL ret pc (aCV mid n nx) := by
  subst hn
  subst hy
  subst hbc
  subst hmL
  subst hmr
  intro E p l e s m args below meth c d hX rec hR K hK ls st G r hO hr
  unfold aCV at hr
  dsimp only at hr
  split at hr
  · rename_i q hpop
    obtain ⟨as, st'⟩ := q
    replace hr := tcond_some.mp hr
    obtain ⟨hb0, hr⟩ := hr
    have h8 : tcats st' ≤ 16 := Nat.le_of_ble_eq_true hb0
    obtain ⟨G', e1, e2⟩ := tbV_some.mp hr
    obtain ⟨xs, hst, has, hln⟩ := tpop_spec _ _ _ _ hpop
    dsimp only at hst has
    rw [List.append_nil] at has
    have hxs : xs = as.reverse := by rw [has]; simp
    subst hst
    have hok : tokS (xs ++ st') := hO.1
    have hoks : tokS as := fun v hv => hok v (List.mem_append_left _ (by rw [hxs]; exact List.mem_reverse.mpr hv))
    have hokr : tokS st' := fun v hv => hok v (List.mem_append_right _ hv)
    obtain ⟨d', hd', hM⟩ := hR mid _ G _ hoks hO.2.2 e1
    have h1 := fun (hRr : tokR (none, G')) => hK (pc + 3, ls, st', G') ⟨hokr, hO.2.1, hRr.1⟩ r e2
    refine fun H locs lsA hP hS hl => ?_
    have hlen : as.length = n := by rw [has, List.length_reverse]; exact hln
    have hstk : (xs ++ st').map (tmv E) = (as.map (tmv E)).reverse ++ st'.map (tmv E) := by
      rw [hxs, List.map_append, List.map_reverse]
    have hrun := trunS (p := p) (l := l) (e := e) (R := tRm d) (below := below) (meth := meth) (locs := locs) (cells := 0) (slots := 0) (As := as.map (tmv E)) (rest := st'.map (tmv E)) (g := F0 m pc lsA ((xs ++ st').map (tmv E))) (index := index) (H := H) ⟨hX.1, hX.2.1, hX.2.2.1, hX.2.2.2.2.2.1, hX.2.2.2.2.2.2.1⟩ hM (va_cwS n hX.2.2.2.2.2.2.1 (fun w hw => by
        simp only [va_wsS, tmw, List.mem_append, List.mem_cons, List.not_mem_nil, or_false] at hw
        rcases hw with (rfl | rfl | rfl) | rfl | hw
        · exact tgood w1
        · exact tgood w2
        · exact tgood w4
        · exact tgood w5
        · exact tgood hw) rfl rfl rfl hds (tcall_room hd' hm45)) (tcall_room16 hd' hm45) ⟨tPc_blind, tPc_at (as := as) hX.2.2.2.2.2.2.2.1 hX.2.2.2.2.2.2.2.2.1 hS hP⟩ rfl (by rw [List.length_map]; exact hlen) hl.1 hstk (by rw [tcats_sum]; show 2 * 0 + _ ≤ 16; omega) hdg ⟨Nat.zero_le _, Nat.zero_le _⟩
    exact tcallW hrun hS (fun H1 locs1 hRr hP1 hS1 => h1 hRr H1 locs1 lsA hP1 hS1 hl)
  · cases hr
theorem snd_nestCI {mid n index maxL : Nat} {y : MethodName} {bytes : ByteArray} {rt : Option FieldType} (hy : my mid = y) (hbc : mc mid = bytes) (hmL : mL mid = maxL) (hmr : mr mid = rt) (hm45 : maxL ≤ 37) {host : String} (w1 : Cond.methodLinkNest own index y host ∈ tNest) (w5 : Cond.code y bytes maxL rt ∈ tW) (w2 : Cond.static y ∈ tW) (w4 : Cond.initialized y.cls ∈ tW) (hds : y.cls ≠ "java/lang/invoke/MethodHandle" ∧ y.cls ≠ "java/lang/invoke/VarHandle" ∧ (parseMethodDescriptor y.desc).map (fun d => d.parameters.length) = some n) (hdg : decode cc pc = .ok (.invokestatic index, 3)) (hn : pc + 3 = nx) : tSnd my mc mL mr own cc nL ret pc (aCI mid n nx) := by
  subst hn
  subst hy
  subst hbc
  subst hmL
  subst hmr
  intro E p l e s m args below meth c d hX rec hR K hK ls st G r hO hr
  unfold aCI at hr
  dsimp only at hr
  split at hr
  · rename_i q hpop
    obtain ⟨as, st'⟩ := q
    replace hr := tcond_some.mp hr
    obtain ⟨hb0, hr⟩ := hr
    have h8 : tcats st' ≤ 16 := Nat.le_of_ble_eq_true hb0
    obtain ⟨x, G', e1, e2⟩ := tbI_some.mp hr
    obtain ⟨xs, hst, has, hln⟩ := tpop_spec _ _ _ _ hpop
    dsimp only at hst has
    rw [List.append_nil] at has
    have hxs : xs = as.reverse := by rw [has]; simp
    subst hst
    have hok : tokS (xs ++ st') := hO.1
    have hoks : tokS as := fun v hv => hok v (List.mem_append_left _ (by rw [hxs]; exact List.mem_reverse.mpr hv))
    have hokr : tokS st' := fun v hv => hok v (List.mem_append_right _ hv)
    obtain ⟨d', hd', hM⟩ := hR mid _ G _ hoks hO.2.2 e1
    have h1 := fun (hRr : tokR (some (.inl x), G')) => hK (pc + 3, ls, vI x :: st', G') ⟨tokS_c.mpr ⟨trivial, hokr⟩, hO.2.1, hRr.1⟩ r e2
    refine fun H locs lsA hP hS hl => ?_
    have hlen : as.length = n := by rw [has, List.length_reverse]; exact hln
    have hstk : (xs ++ st').map (tmv E) = (as.map (tmv E)).reverse ++ st'.map (tmv E) := by
      rw [hxs, List.map_append, List.map_reverse]
    have hrun := trunSN (p := p) (l := l) (e := e) (R := tRm d) (below := below) (meth := meth) (locs := locs) (cells := 0) (slots := 0) (As := as.map (tmv E)) (rest := st'.map (tmv E)) (g := F0 m pc lsA ((xs ++ st').map (tmv E))) (index := index) (H := H) (host := host) ⟨hX.1, hX.2.1, hX.2.2.1, hX.2.2.2.2.2.1, hX.2.2.2.2.2.2.1⟩ hM ⟨va_cnB n hX.2.2.2.2.2.2.1 (fun w hw => by
        simp only [tmw, List.mem_cons] at hw
        rcases hw with rfl | hw
        · exact tgood w5
        · exact tgood hw) rfl rfl rfl (hX.2.2.2.2.2.2.2.1.2.1 _ w1) (hX.2.2.2.2.2.2.1 _ w4) hds (tcall_room hd' hm45), hX.2.2.2.2.2.2.1 _ w2, trivial⟩ (tcall_room16 hd' hm45) ⟨tPc_blind, tPc_at (as := as) hX.2.2.2.2.2.2.2.1 hX.2.2.2.2.2.2.2.2.1 hS hP⟩ rfl (by rw [List.length_map]; exact hlen) hl.1 hstk (by rw [tcats_sum]; show 2 * 0 + _ ≤ 16; omega) hdg ⟨Nat.zero_le _, Nat.zero_le _⟩
    exact tcallW hrun hS (fun H1 locs1 hRr hP1 hS1 => h1 hRr H1 locs1 lsA hP1 hS1 hl)
  · cases hr
/-! ends -/
theorem snd_iret (hdg : decode cc pc = .ok (.ireturn, 1)) (hret : ret = some .int) : tSnd my mc mL mr own cc nL ret pc aRI := by
  intro E p l e s m args below meth c d hX rec hR K hK ls st G r hO hr
  unfold aRI at hr
  dsimp only at hr
  split at hr
  · rename_i x
    cases hr
    refine fun H locs lsA hP hS hl => ?_
    exact W.iret (v := x) hX.1 hX.2.1 (by rw [hX.2.2.2.1, hret]) (fun t ht hW => ⟨rfl, ⟨hO.2.2, fun v hv => by cases hv <;> trivial⟩, by rw [ht]; exact hP, hS.F ht⟩) hS.2.2 hdg hX.2.2.2.2.1
  · cases hr
theorem snd_zret {ty : FieldType} (hdg : decode cc pc = .ok (.ireturn, 1)) (hret : ret = some ty) (hty : ty = .boolean ∨ ty = .char ∨ ty = .byte) : tSnd my mc mL mr own cc nL ret pc (aRZ ty) := by
  intro E p l e s m args below meth c d hX rec hR K hK ls st G r hO hr
  unfold aRZ at hr
  dsimp only at hr
  split at hr
  · rename_i x
    by_cases h0 : vp_nar ty x = x
    · rw [if_pos h0] at hr
      cases hr
      have hn : narrow ty (.int x) = .int x := by
        unfold vp_nar at h0
        rcases hty with rfl | rfl | rfl <;> (simp only [narrow] at h0 ⊢; rw [h0])
      refine fun H locs lsA hP hS hl => ?_
      exact W.zret (v := x) (ty := ty) hX.1 hX.2.1 (by rw [hX.2.2.2.1, hret]) hn (fun t ht hW => ⟨rfl, ⟨hO.2.2, fun v hv => by cases hv <;> trivial⟩, by rw [ht]; exact hP, hS.F ht⟩) hS.2.2 hdg hX.2.2.2.2.1
    · rw [if_neg h0] at hr; cases hr
  · cases hr
theorem snd_vret (hdg : decode cc pc = .ok (.return_, 1)) (hret : ret = none) : tSnd my mc mL mr own cc nL ret pc aRV := by
  intro E p l e s m args below meth c d hX rec hR K hK ls st G r hO hr
  unfold aRV at hr
  dsimp only at hr
  split at hr
  · cases hr
    refine fun H locs lsA hP hS hl => ?_
    exact W.vret hX.1 hX.2.1 (by rw [hX.2.2.2.1, hret]) (fun t ht hW => ⟨rfl, ⟨hO.2.2, fun v hv => by cases hv <;> trivial⟩, by rw [ht]; exact hP, hS.F ht⟩) hS.2.2 hdg hX.2.2.2.2.1
  · cases hr
/-- the JDK's own check of an index, whatever makes its messages -/
theorem pcx_met (l : Launch) (i n : Int32) {v : Value} (hv : v = .null ∨ ∃ t : Nat, v = .ref t) (h1 : ¬ i < 0) (h2 : i < n) : Met l yJ3_checkIndex_8e157 (.code yJ3_checkIndex_8e157 cJ3_checkIndex_8e157 3 (some .int) :: tW) (tRm 0) (va_Pc [.int i, .int n, v] fun _ => True) (fun _ st oc t => oc = .returned (some (.int i)) ∧ t.heap = st.heap) 0 0 (fun _ => False) := by
  refine Met.ofW (cc := cJ3_checkIndex_8e157) (maxL := 3) (ret := some .int) (by decide +kernel) rfl ?_
  intro p e s m args below meth c s₁ B hml hv0
  obtain ⟨rfl, -⟩ := hv0
  have hx := B.exec
  have hb := B.bytes
  have hl := lv_entry [.int i, .int n, v] (n := 3) (by rcases hv with rfl | ⟨t, rfl⟩ <;> exact Nat.le_of_ble_eq_true rfl)
  rw [lg_entry_eq]
  refine (?_ : ∀ ls : Array Slot, lv_has ls 3 [(0, .int i), (1, .int n), (2, v)] → W p l e (tRm 0) s m [.int i, .int n, v].toArray below meth c s.heap [] 0 0 (MQ below (fun _ st oc t => oc = .returned (some (.int i)) ∧ t.heap = st.heap) [.int i, .int n, v].toArray s 0 0 (fun _ => False)) (F0 m 0 ls [])) _ hl
  intro ls hl
  refine lv_iload_n hx hb (by decide +kernel : decode cJ3_checkIndex_8e157 0 = .ok (.iload_n 0, 1)) rfl (lv_at hl 0 rfl) ?_
  refine lv_if_lt (tgt := 9) hx hb (by decide +kernel : decode cJ3_checkIndex_8e157 1 = .ok (.ifCond .lt 8, 3)) (by decide) (fun h => absurd h h1) (fun _ => ?_)
  refine lv_iload_n hx hb (by decide +kernel : decode cJ3_checkIndex_8e157 4 = .ok (.iload_n 0, 1)) rfl (lv_at hl 0 rfl) ?_
  refine lv_iload_n hx hb (by decide +kernel : decode cJ3_checkIndex_8e157 5 = .ok (.iload_n 1, 1)) rfl (lv_at hl 1 rfl) ?_
  refine lv_icmp_lt (tgt := 16) hx hb (by decide +kernel : decode cJ3_checkIndex_8e157 6 = .ok (.if_icmp .lt 10, 3)) (by decide) (fun _ => ?_) (fun h => absurd h2 h)
  refine lv_iload_n hx hb (by decide +kernel : decode cJ3_checkIndex_8e157 16 = .ok (.iload_n 0, 1)) rfl (lv_at hl 0 rfl) ?_
  exact W.iret hx hb B.returns (fun t ht hW => ⟨rfl, ht⟩) (fun q hq => by cases hq) (by decide +kernel : decode cJ3_checkIndex_8e157 17 = .ok (.ireturn, 1))
theorem snd_fmt {index index2 : Nat} (hdg : decode cc pc = .ok (.getstatic index, 3)) (hl1 : Cond.fieldLink own index "jdk/internal/util/Preconditions" "SIOOBE_FORMATTER" "Ljava/util/function/BiFunction;" ∈ tW) (hdg2 : decode cc (pc + 3) = .ok (.invokestatic index2, 3)) (w1 : Cond.methodLink own index2 yJ3_checkIndex_8e157 ∈ tW) (w5 : Cond.code yJ3_checkIndex_8e157 cJ3_checkIndex_8e157 3 (some .int) ∈ tW) (w2 : Cond.static yJ3_checkIndex_8e157 ∈ tW) (w4 : Cond.initialized yJ3_checkIndex_8e157.cls ∈ tW) (hn : pc + 3 = nx) : tSnd my mc mL mr own cc nL ret pc (aGF nx) := by
  subst hn
  intro E p l e s m args below meth c d hX rec hR K hK ls st G r hO hr
  unfold aGF at hr
  dsimp only at hr
  split at hr
  · rename_i n i st'
    replace hr := tcond_some.mp hr
    obtain ⟨hb0, hr⟩ := hr
    simp only [Bool.and_eq_true] at hb0
    have hd : 0 < d := Nat.le_of_ble_eq_true hb0.1
    have h8 : tcats st' ≤ 16 := Nat.le_of_ble_eq_true hb0.2
    by_cases h1 : i < 0
    · rw [if_pos h1] at hr; cases hr
    rw [if_neg h1] at hr
    by_cases h2 : i < n
    · rw [if_pos h2] at hr
      have h9 := hK (pc + 3 + 3, ls, vI i :: st', G) ⟨tokS_c.mpr ⟨trivial, (tokS_c.mp (tokS_c.mp hO.1).2).2⟩, hO.2⟩ r hr
      refine fun H locs lsA hP hS hl => ?_
      have key : ∀ v : Value, (v = .null ∨ ∃ t : Nat, v = .ref t) → va_Z "jdk/internal/util/Preconditions" "SIOOBE_FORMATTER" "Ljava/util/function/BiFunction;" v (tAP E) s s.heap → W p l e (tRm d) s m args below meth c H locs 0 0 (MQ below (tQ E r) args s 0 0 (tAP E)) (F0 m pc lsA (.int n :: .int i :: st'.map (tmv E))) := by
        intro v hv hZ
        refine va_gets hX.1 hX.2.1 hZ hS hX.2.2.2.2.2.1 (hX.2.2.2.2.2.2.1 _ hl1) (fun _ h => h) hdg ?_
        have hrun := trunS (p := p) (l := l) (e := e) (R := tRm d) (below := below) (meth := meth) (locs := locs) (cells := 0) (slots := 0) (As := [.int i, .int n, v]) (rest := st'.map (tmv E)) (g := F0 m (pc + 3) lsA (v :: .int n :: .int i :: st'.map (tmv E))) (index := index2) (H := H) ⟨hX.1, hX.2.1, hX.2.2.1, hX.2.2.2.2.2.1, hX.2.2.2.2.2.2.1⟩ (pcx_met l i n hv h1 h2) (va_cwS 3 hX.2.2.2.2.2.2.1 (fun w hw => by
            simp only [va_wsS, List.mem_append, List.mem_cons, List.not_mem_nil, or_false] at hw
            rcases hw with (rfl | rfl | rfl) | rfl | hw
            · exact tgood w1
            · exact tgood w2
            · exact tgood w4
            · exact tgood w5
            · exact tgood hw) rfl rfl rfl ⟨by decide, by decide, by decide +kernel⟩ (tcall_room hd (by decide))) (tcall_room16 hd (by decide)) ⟨fun a U g mk q => q, fun U _ _ => ⟨rfl, trivial⟩⟩ rfl rfl hl.1 rfl (by rw [tcats_sum]; show 2 * 0 + _ ≤ 16; omega) hdg2 ⟨Nat.zero_le _, Nat.zero_le _⟩
        intro T hT X
        obtain ⟨w, st₀, t, T', L, h0, X', hL, e1, e2, ⟨hw, hh⟩, stp⟩ := hrun T hT X
        cases hw
        have hH : T'.heap = H := by rw [e1, hh, h0]
        obtain ⟨t2, a1, b1⟩ := h9 T'.heap (locs ++ L) lsA (by rw [hH]; exact hP) ⟨by rw [hH]; exact hS.1, by rw [hH]; exact hS.2.1, fun q hq => (List.mem_append.mp hq).elim (hS.2.2 q) (fun h => (hL q h).elim)⟩ hl T' rfl X'
        exact ⟨t2, stp t2 a1, b1⟩
      rcases hX.2.2.2.2.2.2.2.2.1.2.2 with hZ | ⟨t, hZ⟩
      · exact key _ (Or.inl rfl) hZ
      · exact key _ (Or.inr ⟨t, rfl⟩) hZ
    · rw [if_neg h2] at hr; cases hr
  · cases hr
end TSN
