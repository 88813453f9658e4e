/-! The pure machine over the typed heap: actions, runs, values -/
abbrev tL : Type := List (Option tV)
abbrev tC : Type := Nat × tL × List tV × tH
abbrev tRes : Type := Option tV × tH
abbrev tRec : Type := Nat → List tV → tH → Option tRes
abbrev tK : Type := tC → Option tRes
abbrev tAct : Type := Nat → tRec → tC → tK → Option tRes
def lget : tL → Nat → Option tV
  | [], _ => none
  | x :: _, 0 => x
  | _ :: l, i + 1 => lget l i
def lkill (x : Option tV) : Option tV := match x with
  | some (.inr (.inl _)) => none
  | y => y
/-- a word stored -/
def lset1 : tL → Nat → tV → tL
  | [], _, _ => []
  | _ :: l, 0, v => some v :: l
  | x :: l, 1, v => lkill x :: lset1 l 0 v
  | x :: l, i + 2, v => x :: lset1 l (i + 1) v
/-- the place behind a long is nobody's -/
def lnone : tL → tL
  | [] => []
  | _ :: l => none :: l
def lset2 : tL → Nat → tV → tL
  | [], _, _ => []
  | _ :: l, 0, v => some v :: lnone l
  | x :: l, 1, v => lkill x :: lset2 l 0 v
  | x :: l, i + 2, v => x :: lset2 l (i + 1) v
def lmask : List Bool → tL → tL
  | b :: bs, x :: l => (cond b x none) :: lmask bs l
  | _, _ => []
def targs : List tV → tL
  | [] => []
  | .inr (.inl x) :: l => some (vL x) :: none :: targs l
  | .inl x :: l => some (vI x) :: targs l
  | .inr (.inr q) :: l => some (.inr (.inr q)) :: targs l
def tpad : Nat → tL → tL
  | 0, _ => []
  | n + 1, [] => none :: tpad n []
  | n + 1, x :: l => x :: tpad n l
def tcat (v : tV) : Nat := match v with
  | .inr (.inl _) => 2
  | _ => 1
def tcats : List tV → Nat
  | [] => 0
  | v :: l => tcat v + tcats l
def tpop : Nat → List tV → List tV → Option (List tV × List tV)
  | 0, st, as => some (as, st)
  | n + 1, v :: st, as => tpop n st (v :: as)
  | _ + 1, [], _ => none
def tbI (r : Option tRes) (k : Int32 → tH → Option tRes) : Option tRes := match r with
  | some (some (.inl x), G) => k x G
  | _ => none
def tbV (r : Option tRes) (k : tH → Option tRes) : Option tRes := match r with
  | some (none, G) => k G
  | _ => none
abbrev tin (i : Int32) (n : Nat) : Prop := 0 ≤ i.toInt ∧ i.toInt < (n : Int)
/-! actions -/
noncomputable def aMk (bs : List Bool) (a : tAct) : tAct := fun d rec q K => a d rec (q.1, lmask bs q.2.1, q.2.2) K
noncomputable def aCn (x : Int32) (nx : Nat) : tAct := fun _ _ q K => K (nx, q.2.1, vI x :: q.2.2.1, q.2.2.2)
noncomputable def aLc (x : Int64) (nx : Nat) : tAct := fun _ _ q K => K (nx, q.2.1, vL x :: q.2.2.1, q.2.2.2)
noncomputable def aSt (j : Nat) (nx : Nat) : tAct := fun _ _ q K => cond (Nat.blt j (tcnt 20)) (K (nx, q.2.1, vR 20 j :: q.2.2.1, q.2.2.2)) none
noncomputable def aIld (i nx : Nat) : tAct := fun _ _ q K => match lget q.2.1 i with
  | some (.inl x) => K (nx, q.2.1, vI x :: q.2.2.1, q.2.2.2)
  | _ => none
noncomputable def aLld (i nx : Nat) : tAct := fun _ _ q K => match lget q.2.1 i with
  | some (.inr (.inl x)) => K (nx, q.2.1, vL x :: q.2.2.1, q.2.2.2)
  | _ => none
noncomputable def aAld (i nx : Nat) : tAct := fun _ _ q K => match lget q.2.1 i with
  | some (.inr (.inr r)) => K (nx, q.2.1, .inr (.inr r) :: q.2.2.1, q.2.2.2)
  | _ => none
noncomputable def aIst (i nx : Nat) : tAct := fun _ _ q K => match q.2.2.1 with
  | .inl x :: st => cond (Nat.blt i q.2.1.length) (K (nx, lset1 q.2.1 i (vI x), st, q.2.2.2)) none
  | _ => none
noncomputable def aLst (i nx : Nat) : tAct := fun _ _ q K => match q.2.2.1 with
  | .inr (.inl x) :: st => cond (Nat.blt (i + 1) q.2.1.length) (K (nx, lset2 q.2.1 i (vL x), st, q.2.2.2)) none
  | _ => none
noncomputable def aAst (i nx : Nat) : tAct := fun _ _ q K => match q.2.2.1 with
  | .inr (.inr r) :: st => cond (Nat.blt i q.2.1.length) (K (nx, lset1 q.2.1 i (.inr (.inr r)), st, q.2.2.2)) none
  | _ => none
noncomputable def aInc (i : Nat) (n : Int32) (nx : Nat) : tAct := fun _ _ q K => match lget q.2.1 i with
  | some (.inl x) => cond (Nat.blt i q.2.1.length) (K (nx, lset1 q.2.1 i (vI (x + n)), q.2.2.1, q.2.2.2)) none
  | _ => none
noncomputable def aBin (f : Int32 → Int32 → Int32) (nx : Nat) : tAct := fun _ _ q K => match q.2.2.1 with
  | .inl y :: .inl x :: st => K (nx, q.2.1, vI (f x y) :: st, q.2.2.2)
  | _ => none
noncomputable def aDiv (f : Int32 → Int32 → Int32) (nx : Nat) : tAct := fun _ _ q K => match q.2.2.1 with
  | .inl y :: .inl x :: st => @ite (Option tRes) (y = 0) (Classical.propDecidable _) (none) (K (nx, q.2.1, vI (f x y) :: st, q.2.2.2))
  | _ => none
noncomputable def aUn (f : Int32 → Int32) (nx : Nat) : tAct := fun _ _ q K => match q.2.2.1 with
  | .inl x :: st => K (nx, q.2.1, vI (f x) :: st, q.2.2.2)
  | _ => none
noncomputable def aIl (nx : Nat) : tAct := fun _ _ q K => match q.2.2.1 with
  | .inl x :: st => K (nx, q.2.1, vL x.toInt64 :: st, q.2.2.2)
  | _ => none
noncomputable def aLi (nx : Nat) : tAct := fun _ _ q K => match q.2.2.1 with
  | .inr (.inl x) :: st => K (nx, q.2.1, vI x.toInt32 :: st, q.2.2.2)
  | _ => none
noncomputable def aLb (f : Int64 → Int64 → Int64) (nx : Nat) : tAct := fun _ _ q K => match q.2.2.1 with
  | .inr (.inl y) :: .inr (.inl x) :: st => K (nx, q.2.1, vL (f x y) :: st, q.2.2.2)
  | _ => none
noncomputable def aLd (f : Int64 → Int64 → Int64) (nx : Nat) : tAct := fun _ _ q K => match q.2.2.1 with
  | .inr (.inl y) :: .inr (.inl x) :: st => @ite (Option tRes) (y = 0) (Classical.propDecidable _) (none) (K (nx, q.2.1, vL (f x y) :: st, q.2.2.2))
  | _ => none
noncomputable def aLs (f : Int64 → Int32 → Int64) (nx : Nat) : tAct := fun _ _ q K => match q.2.2.1 with
  | .inl y :: .inr (.inl x) :: st => K (nx, q.2.1, vL (f x y) :: st, q.2.2.2)
  | _ => none
noncomputable def aCmp (nx : Nat) : tAct := fun _ _ q K => match q.2.2.1 with
  | .inr (.inl y) :: .inr (.inl x) :: st => K (nx, q.2.1, vI (lg_cmp x y) :: st, q.2.2.2)
  | _ => none
noncomputable def aDup (nx : Nat) : tAct := fun _ _ q K => match q.2.2.1 with
  | .inl x :: st => K (nx, q.2.1, vI x :: vI x :: st, q.2.2.2)
  | .inr (.inr r) :: st => K (nx, q.2.1, .inr (.inr r) :: .inr (.inr r) :: st, q.2.2.2)
  | _ => none
noncomputable def aPop (nx : Nat) : tAct := fun _ _ q K => match q.2.2.1 with
  | .inl _ :: st => K (nx, q.2.1, st, q.2.2.2)
  | .inr (.inr _) :: st => K (nx, q.2.1, st, q.2.2.2)
  | _ => none
noncomputable def aDp2 (nx : Nat) : tAct := fun _ _ q K => match q.2.2.1 with
  | .inl x :: .inr (.inr r) :: st => K (nx, q.2.1, vI x :: .inr (.inr r) :: vI x :: .inr (.inr r) :: st, q.2.2.2)
  | _ => none
noncomputable def aEq0 (t nx : Nat) : tAct := fun _ _ q K => match q.2.2.1 with
  | .inl x :: st => @ite (Option tRes) (x = 0) (Classical.propDecidable _) (K (t, q.2.1, st, q.2.2.2)) (K (nx, q.2.1, st, q.2.2.2))
  | _ => none
noncomputable def aLt0 (t nx : Nat) : tAct := fun _ _ q K => match q.2.2.1 with
  | .inl x :: st => @ite (Option tRes) (x < 0) (Classical.propDecidable _) (K (t, q.2.1, st, q.2.2.2)) (K (nx, q.2.1, st, q.2.2.2))
  | _ => none
noncomputable def aGt0 (t nx : Nat) : tAct := fun _ _ q K => match q.2.2.1 with
  | .inl x :: st => @ite (Option tRes) (0 < x) (Classical.propDecidable _) (K (t, q.2.1, st, q.2.2.2)) (K (nx, q.2.1, st, q.2.2.2))
  | _ => none
noncomputable def aEq (t nx : Nat) : tAct := fun _ _ q K => match q.2.2.1 with
  | .inl y :: .inl x :: st => @ite (Option tRes) (x = y) (Classical.propDecidable _) (K (t, q.2.1, st, q.2.2.2)) (K (nx, q.2.1, st, q.2.2.2))
  | _ => none
noncomputable def aLt (t nx : Nat) : tAct := fun _ _ q K => match q.2.2.1 with
  | .inl y :: .inl x :: st => @ite (Option tRes) (x < y) (Classical.propDecidable _) (K (t, q.2.1, st, q.2.2.2)) (K (nx, q.2.1, st, q.2.2.2))
  | _ => none
noncomputable def aGt (t nx : Nat) : tAct := fun _ _ q K => match q.2.2.1 with
  | .inl y :: .inl x :: st => @ite (Option tRes) (y < x) (Classical.propDecidable _) (K (t, q.2.1, st, q.2.2.2)) (K (nx, q.2.1, st, q.2.2.2))
  | _ => none
noncomputable def aGo (t : Nat) : tAct := fun _ _ q K => K (t, q.2.1, q.2.2.1, q.2.2.2)
noncomputable def tsw (x : Int32) (K : Nat → Option tRes) (df : Nat) : List (Int32 × Nat) → Option tRes
  | [] => K df
  | c :: cs => @ite (Option tRes) (x = c.1) (Classical.propDecidable _) (K c.2) (tsw x K df cs)
noncomputable def aSw (cs : List (Int32 × Nat)) (df : Nat) : tAct := fun _ _ q K => match q.2.2.1 with
  | .inl x :: st => tsw x (fun t => K (t, q.2.1, st, q.2.2.2)) df cs
  | _ => none
/-! fields -/
noncomputable def aGI (ci f nx : Nat) : tAct := fun _ _ q K => match q.2.2.1 with
  | .inr (.inr r) :: st => cond (Nat.beq r.1 ci) (K (nx, q.2.1, vI (gI q.2.2.2 f r.2) :: st, q.2.2.2)) none
  | _ => none
noncomputable def aGL (ci f nx : Nat) : tAct := fun _ _ q K => match q.2.2.1 with
  | .inr (.inr r) :: st => cond (Nat.beq r.1 ci) (K (nx, q.2.1, vL (gL q.2.2.2 f r.2) :: st, q.2.2.2)) none
  | _ => none
noncomputable def aGR (ci f c nx : Nat) : tAct := fun _ _ q K => match q.2.2.1 with
  | .inr (.inr r) :: st => cond (Nat.beq r.1 ci) (K (nx, q.2.1, vR c (gR q.2.2.2 f r.2) :: st, q.2.2.2)) none
  | _ => none
/-- a reference that stays: to the owner itself, to one, to one of the owner's -/
noncomputable def aGO (ci c nx : Nat) : tAct := fun _ _ q K => match q.2.2.1 with
  | .inr (.inr r) :: st => cond (Nat.beq r.1 ci) (K (nx, q.2.1, vR c r.2 :: st, q.2.2.2)) none
  | _ => none
noncomputable def aGC (ci c k nx : Nat) : tAct := fun _ _ q K => match q.2.2.1 with
  | .inr (.inr r) :: st => cond (Nat.beq r.1 ci) (K (nx, q.2.1, vR c k :: st, q.2.2.2)) none
  | _ => none
noncomputable def aGM (ci c m b nx : Nat) : tAct := fun _ _ q K => match q.2.2.1 with
  | .inr (.inr r) :: st => cond (Nat.beq r.1 ci) (K (nx, q.2.1, vR c (m * r.2 + b) :: st, q.2.2.2)) none
  | _ => none
noncomputable def aPI (ci f nx : Nat) : tAct := fun _ _ q K => match q.2.2.1 with
  | .inl x :: .inr (.inr r) :: st => cond (Nat.beq r.1 ci) (K (nx, q.2.1, st, sI q.2.2.2 f r.2 x)) none
  | _ => none
noncomputable def aPC (ci f nx : Nat) : tAct := fun _ _ q K => match q.2.2.1 with
  | .inl x :: .inr (.inr r) :: st => cond (Nat.beq r.1 ci) (@ite (Option tRes) (vp_nar .char x = x) (Classical.propDecidable _) (K (nx, q.2.1, st, sI q.2.2.2 f r.2 x)) none) none
  | _ => none
noncomputable def aPL (ci f nx : Nat) : tAct := fun _ _ q K => match q.2.2.1 with
  | .inr (.inl x) :: .inr (.inr r) :: st => cond (Nat.beq r.1 ci) (K (nx, q.2.1, st, sL q.2.2.2 f r.2 x)) none
  | _ => none
noncomputable def aPR (ci f c nx : Nat) : tAct := fun _ _ q K => match q.2.2.1 with
  | .inr (.inr z) :: .inr (.inr r) :: st => cond (Nat.beq r.1 ci && Nat.beq z.1 c) (K (nx, q.2.1, st, sR q.2.2.2 f r.2 z.2)) none
  | _ => none
/-! arrays -/
noncomputable def aAI (k nx : Nat) : tAct := fun _ _ q K => match q.2.2.1 with
  | .inl i :: .inr (.inr r) :: st => cond (Nat.ble 100 r.1 && Nat.beq (tak r.1) k) (@ite (Option tRes) (tin i (talen r.1 r.2)) (Classical.propDecidable _) (K (nx, q.2.1, vI (gA q.2.2.2 r.1 r.2 i.toNatClampNeg) :: st, q.2.2.2)) none) none
  | _ => none
noncomputable def aAL (nx : Nat) : tAct := fun _ _ q K => match q.2.2.1 with
  | .inl i :: .inr (.inr r) :: st => cond (Nat.ble 100 r.1 && Nat.beq (tak r.1) 1) (@ite (Option tRes) (tin i (talen r.1 r.2)) (Classical.propDecidable _) (K (nx, q.2.1, vL (gB q.2.2.2 r.1 r.2 i.toNatClampNeg) :: st, q.2.2.2)) none) none
  | _ => none
noncomputable def aAA (nx : Nat) : tAct := fun _ _ q K => match q.2.2.1 with
  | .inl i :: .inr (.inr r) :: st => cond (Nat.ble 100 r.1 && Nat.beq (tak r.1) 4) (@ite (Option tRes) (tin i (talen r.1 r.2)) (Classical.propDecidable _) (K (nx, q.2.1, vR 7 (tabase r.1 + i.toNatClampNeg) :: st, q.2.2.2)) none) none
  | _ => none
def tnar (k : Nat) (x : Int32) : Int32 := match k with
  | 0 => x
  | 2 => vp_nar .char x
  | _ => vp_nar .boolean x
noncomputable def aSI (k nx : Nat) : tAct := fun _ _ q K => match q.2.2.1 with
  | .inl x :: .inl i :: .inr (.inr r) :: st => cond (Nat.ble 100 r.1 && Nat.beq (tak r.1) k) (@ite (Option tRes) (tin i (talen r.1 r.2)) (Classical.propDecidable _) (K (nx, q.2.1, st, sA q.2.2.2 r.1 r.2 (upd (gA q.2.2.2 r.1 r.2) i.toNatClampNeg (tnar k x)))) none) none
  | _ => none
noncomputable def aSL (nx : Nat) : tAct := fun _ _ q K => match q.2.2.1 with
  | .inr (.inl x) :: .inl i :: .inr (.inr r) :: st => cond (Nat.ble 100 r.1 && Nat.beq (tak r.1) 1) (@ite (Option tRes) (tin i (talen r.1 r.2)) (Classical.propDecidable _) (K (nx, q.2.1, st, sB q.2.2.2 r.1 r.2 (vp_updL (gB q.2.2.2 r.1 r.2) i.toNatClampNeg x))) none) none
  | _ => none
noncomputable def aLen (nx : Nat) : tAct := fun _ _ q K => match q.2.2.1 with
  | .inr (.inr r) :: st => cond (Nat.ble 100 r.1) (K (nx, q.2.1, vI (Int32.ofNat (talen r.1 r.2)) :: st, q.2.2.2)) none
  | _ => none
abbrev tcpok (sp dp n : Int32) (n0 n1 : Nat) : Prop := 0 ≤ sp.toInt ∧ 0 ≤ dp.toInt ∧ 0 ≤ n.toInt ∧ sp.toInt + n.toInt ≤ (n0 : Int) ∧ dp.toInt + n.toInt ≤ (n1 : Int)
noncomputable def aCpy (nx : Nat) : tAct := fun d _ q K => match q.2.2.1 with
  | .inl n :: .inl dp :: .inr (.inr r) :: .inl sp :: .inr (.inr z) :: st => cond ((Nat.blt 0 d && Nat.ble (tcats st) 16) && ((Nat.ble 100 r.1 && Nat.beq (tak r.1) 0) && (Nat.ble 100 z.1 && Nat.beq (tak z.1) 0))) (@ite (Option tRes) (tcpok sp dp n (talen z.1 z.2) (talen r.1 r.2)) (Classical.propDecidable _) (K (nx, q.2.1, st, sA q.2.2.2 r.1 r.2 (va_cpy (gA q.2.2.2 z.1 z.2) (gA q.2.2.2 r.1 r.2) sp.toNatClampNeg dp.toNatClampNeg n.toNatClampNeg))) none) none
  | _ => none
/-! Math, calls, ends -/
noncomputable def aMax (nx : Nat) : tAct := fun d _ q K => match q.2.2.1 with
  | .inl y :: .inl x :: st => cond (Nat.blt 0 d && Nat.ble (tcats st) 16) (K (nx, q.2.1, vI (if x < y then y else x) :: st, q.2.2.2)) none
  | _ => none
noncomputable def aMin (nx : Nat) : tAct := fun d _ q K => match q.2.2.1 with
  | .inl y :: .inl x :: st => cond (Nat.blt 0 d && Nat.ble (tcats st) 16) (K (nx, q.2.1, vI (if y < x then y else x) :: st, q.2.2.2)) none
  | _ => none
noncomputable def aAbs (nx : Nat) : tAct := fun d _ q K => match q.2.2.1 with
  | .inl x :: st => cond (Nat.blt 0 d && Nat.ble (tcats st) 16) (K (nx, q.2.1, vI (if 0 ≤ x then x else 0 - x) :: st, q.2.2.2)) none
  | _ => none
noncomputable def aCI (mid n nx : Nat) : tAct := fun _ rec q K => match tpop n q.2.2.1 [] with
  | some z => cond (Nat.ble (tcats z.2) 16) (tbI (rec mid z.1 q.2.2.2) (fun x G => K (nx, q.2.1, vI x :: z.2, G))) none
  | none => none
noncomputable def aCV (mid n nx : Nat) : tAct := fun _ rec q K => match tpop n q.2.2.1 [] with
  | some z => cond (Nat.ble (tcats z.2) 16) (tbV (rec mid z.1 q.2.2.2) (fun G => K (nx, q.2.1, z.2, G))) none
  | none => none
noncomputable def aVI (mid ci n nx : Nat) : tAct := fun _ rec q K => match tpop n q.2.2.1 [] with
  | some (.inr (.inr r) :: as, st) => cond (Nat.beq r.1 ci && Nat.ble (tcats st) 16) (tbI (rec mid (.inr (.inr r) :: as) q.2.2.2) (fun x G => K (nx, q.2.1, vI x :: st, G))) none
  | _ => none
noncomputable def aVV (mid ci n nx : Nat) : tAct := fun _ rec q K => match tpop n q.2.2.1 [] with
  | some (.inr (.inr r) :: as, st) => cond (Nat.beq r.1 ci && Nat.ble (tcats st) 16) (tbV (rec mid (.inr (.inr r) :: as) q.2.2.2) (fun G => K (nx, q.2.1, st, G))) none
  | _ => none
noncomputable def aRI : tAct := fun _ _ q _ => match q.2.2.1 with
  | [.inl x] => some (some (vI x), q.2.2.2)
  | _ => none
noncomputable def aRZ (ty : FieldType) : tAct := fun _ _ q _ => match q.2.2.1 with
  | [.inl x] => @ite (Option tRes) (vp_nar ty x = x) (Classical.propDecidable _) (some (some (vI x), q.2.2.2)) (none)
  | _ => none
noncomputable def aRV : tAct := fun _ _ q _ => match q.2.2.1 with
  | [] => some (none, q.2.2.2)
  | _ => none
/-! strings: their fields and bytes -/
noncomputable def aGF (nx : Nat) : tAct := fun d _ q K => match q.2.2.1 with
  | .inl n :: .inl i :: st => cond (Nat.blt 0 d && Nat.ble (tcats st) 16) (@ite (Option tRes) (i < 0) (Classical.propDecidable _) none (@ite (Option tRes) (i < n) (Classical.propDecidable _) (K (nx + 3, q.2.1, vI i :: st, q.2.2.2)) none)) none
  | _ => none
noncomputable def aGV (nx : Nat) : tAct := fun _ _ q K => match q.2.2.1 with
  | .inr (.inr r) :: st => cond (Nat.beq r.1 20) (K (nx, q.2.1, vR 21 r.2 :: st, q.2.2.2)) none
  | _ => none
noncomputable def aGD (nx : Nat) : tAct := fun _ _ q K => match q.2.2.1 with
  | .inr (.inr r) :: st => cond (Nat.beq r.1 20) (K (nx, q.2.1, vI (nI 0) :: st, q.2.2.2)) none
  | _ => none
def tslen : List Nat := [8, 47, 51, 21, 23, 45, 5, 5, 5, 4, 5, 5, 16, 3, 6]
def tsbyt : List (List Int32) := [[40, 41, 60, 61, 43, 45, 42, 59], [116, 111, 119, 110, 32, 99, 111, 109, 112, 97, 110, 121, 32, 104, 97, 114, 118, 101, 115, 116, 32, 106, 117, 114, 111, 114, 32, 116, 105, 116, 104, 101, 32, 98, 97, 114, 32, 97, 108, 111, 110, 101, 32, 111, 119, 101, 115], [98, 105, 100, 32, 97, 119, 97, 114, 100, 32, 121, 101, 97, 114, 32, 116, 97, 107, 101, 32, 108, 101, 110, 100, 32, 99, 97, 108, 108, 32, 115, 112, 97, 114, 101, 32, 98, 114, 105, 98, 101, 32, 115, 117, 101, 32, 99, 108, 111, 115, 101], [112, 108, 97, 105, 110, 32, 114, 105, 99, 104, 32, 112, 114, 111, 117, 100, 32, 112, 111, 114, 116], [104, 111, 110, 101, 115, 116, 32, 115, 116, 114, 97, 119, 32, 110, 111, 98, 108, 101, 32, 102, 97, 105, 114], [109, 101, 97, 110, 115, 32, 99, 111, 105, 110, 115, 32, 103, 114, 111, 119, 115, 32, 111, 100, 100, 115, 32, 104, 111, 108, 100, 115, 32, 112, 114, 105, 99, 101, 32, 110, 111, 116, 32, 97, 110, 100, 32, 111, 114], [109, 101, 97, 110, 115], [99, 111, 105, 110, 115], [103, 114, 111, 119, 115], [111, 100, 100, 115], [104, 111, 108, 100, 115], [112, 114, 105, 99, 101], [119, 101, 97, 108, 116, 104, 32, 99, 114, 111, 112, 32, 100, 101, 98, 116], [110, 111, 116], [97, 110, 100, 32, 111, 114]]
noncomputable def aSB (nx : Nat) : tAct := fun _ _ q K => match q.2.2.1 with
  | .inl i :: .inr (.inr r) :: st => cond (Nat.beq r.1 21) (@ite (Option tRes) (tin i (tslen.getD r.2 0)) (Classical.propDecidable _) (K (nx, q.2.1, vI ((tsbyt.getD r.2 []).getD i.toNatClampNeg 0) :: st, q.2.2.2)) none) none
  | _ => none
noncomputable def aSN (nx : Nat) : tAct := fun _ _ q K => match q.2.2.1 with
  | .inr (.inr r) :: st => cond (Nat.beq r.1 21) (K (nx, q.2.1, vI (Int32.ofNat (tslen.getD r.2 0)) :: st, q.2.2.2)) none
  | _ => none
/-- what a step can be: none, one further, an end, a call -/
def tSh (a : tAct) : Prop := ∀ (d : Nat) (q : tC), (∀ rec K, a d rec q K = none) ∨ (∃ q', ∀ rec K, a d rec q K = K q') ∨ (∃ r, ∀ rec K, a d rec q K = some r) ∨
  (∃ (mid : Nat) (as : List tV) (G : tH) (k : Int32 → tH → tC), ∀ rec K, a d rec q K = tbI (rec mid as G) (fun x G' => K (k x G'))) ∨
  (∃ (mid : Nat) (as : List tV) (G : tH) (k : tH → tC), ∀ rec K, a d rec q K = tbV (rec mid as G) (fun G' => K (k G')))
theorem tSh.n {a : tAct} {d : Nat} {q : tC} (h : ∀ rec K, a d rec q K = none) : (∀ rec K, a d rec q K = none) ∨ (∃ q', ∀ rec K, a d rec q K = K q') ∨ (∃ r, ∀ rec K, a d rec q K = some r) ∨
  (∃ (mid : Nat) (as : List tV) (G : tH) (k : Int32 → tH → tC), ∀ rec K, a d rec q K = tbI (rec mid as G) (fun x G' => K (k x G'))) ∨
  (∃ (mid : Nat) (as : List tV) (G : tH) (k : tH → tC), ∀ rec K, a d rec q K = tbV (rec mid as G) (fun G' => K (k G'))) := Or.inl h
theorem tSh.k {a : tAct} {d : Nat} {q : tC} (q' : tC) (h : ∀ rec K, a d rec q K = K q') : (∀ rec K, a d rec q K = none) ∨ (∃ q', ∀ rec K, a d rec q K = K q') ∨ (∃ r, ∀ rec K, a d rec q K = some r) ∨
  (∃ (mid : Nat) (as : List tV) (G : tH) (k : Int32 → tH → tC), ∀ rec K, a d rec q K = tbI (rec mid as G) (fun x G' => K (k x G'))) ∨
  (∃ (mid : Nat) (as : List tV) (G : tH) (k : tH → tC), ∀ rec K, a d rec q K = tbV (rec mid as G) (fun G' => K (k G'))) := Or.inr (Or.inl ⟨q', h⟩)
theorem tSh.r {a : tAct} {d : Nat} {q : tC} (r : tRes) (h : ∀ rec K, a d rec q K = some r) : (∀ rec K, a d rec q K = none) ∨ (∃ q', ∀ rec K, a d rec q K = K q') ∨ (∃ r, ∀ rec K, a d rec q K = some r) ∨
  (∃ (mid : Nat) (as : List tV) (G : tH) (k : Int32 → tH → tC), ∀ rec K, a d rec q K = tbI (rec mid as G) (fun x G' => K (k x G'))) ∨
  (∃ (mid : Nat) (as : List tV) (G : tH) (k : tH → tC), ∀ rec K, a d rec q K = tbV (rec mid as G) (fun G' => K (k G'))) := Or.inr (Or.inr (Or.inl ⟨r, h⟩))
theorem sh_Mk {bs : List Bool} {a : tAct} (h : tSh a) : tSh (aMk bs a) := fun d q => h d (q.1, lmask bs q.2.1, q.2.2)
theorem sh_Cn {x : Int32} {nx : Nat} : tSh (aCn x nx) := fun _ _ => .inr (.inl ⟨_, fun _ _ => rfl⟩)
theorem sh_Lc {x : Int64} {nx : Nat} : tSh (aLc x nx) := fun _ _ => .inr (.inl ⟨_, fun _ _ => rfl⟩)
theorem sh_St {j nx : Nat} : tSh (aSt j nx) := by
  intro d q
  unfold aSt
  cases h : Nat.blt j (tcnt 20)
  · exact .inl fun _ _ => by simp only [h, cond]
  · exact .inr (.inl ⟨_, fun _ _ => by simp only [h, cond]; rfl⟩)
theorem sh_Ild {i nx : Nat} : tSh (aIld i nx) := by
  intro d q
  unfold aIld
  split
  · exact .inr (.inl ⟨_, fun _ _ => rfl⟩)
  · exact .inl fun _ _ => rfl
theorem sh_Lld {i nx : Nat} : tSh (aLld i nx) := by
  intro d q
  unfold aLld
  split
  · exact .inr (.inl ⟨_, fun _ _ => rfl⟩)
  · exact .inl fun _ _ => rfl
theorem sh_Ald {i nx : Nat} : tSh (aAld i nx) := by
  intro d q
  unfold aAld
  split
  · exact .inr (.inl ⟨_, fun _ _ => rfl⟩)
  · exact .inl fun _ _ => rfl
theorem sh_Bin {f : Int32 → Int32 → Int32} {nx : Nat} : tSh (aBin f nx) := by
  intro d q
  unfold aBin
  split
  · exact .inr (.inl ⟨_, fun _ _ => rfl⟩)
  · exact .inl fun _ _ => rfl
theorem sh_Un {f : Int32 → Int32} {nx : Nat} : tSh (aUn f nx) := by
  intro d q
  unfold aUn
  split
  · exact .inr (.inl ⟨_, fun _ _ => rfl⟩)
  · exact .inl fun _ _ => rfl
theorem sh_Il {nx : Nat} : tSh (aIl nx) := by
  intro d q
  unfold aIl
  split
  · exact .inr (.inl ⟨_, fun _ _ => rfl⟩)
  · exact .inl fun _ _ => rfl
theorem sh_Li {nx : Nat} : tSh (aLi nx) := by
  intro d q
  unfold aLi
  split
  · exact .inr (.inl ⟨_, fun _ _ => rfl⟩)
  · exact .inl fun _ _ => rfl
theorem sh_Lb {f : Int64 → Int64 → Int64} {nx : Nat} : tSh (aLb f nx) := by
  intro d q
  unfold aLb
  split
  · exact .inr (.inl ⟨_, fun _ _ => rfl⟩)
  · exact .inl fun _ _ => rfl
theorem sh_Ls {f : Int64 → Int32 → Int64} {nx : Nat} : tSh (aLs f nx) := by
  intro d q
  unfold aLs
  split
  · exact .inr (.inl ⟨_, fun _ _ => rfl⟩)
  · exact .inl fun _ _ => rfl
theorem sh_Cmp {nx : Nat} : tSh (aCmp nx) := by
  intro d q
  unfold aCmp
  split
  · exact .inr (.inl ⟨_, fun _ _ => rfl⟩)
  · exact .inl fun _ _ => rfl
theorem sh_Dup {nx : Nat} : tSh (aDup nx) := by
  intro d q
  unfold aDup
  split
  · exact .inr (.inl ⟨_, fun _ _ => rfl⟩)
  · exact .inr (.inl ⟨_, fun _ _ => rfl⟩)
  · exact .inl fun _ _ => rfl
theorem sh_Pop {nx : Nat} : tSh (aPop nx) := by
  intro d q
  unfold aPop
  split
  · exact .inr (.inl ⟨_, fun _ _ => rfl⟩)
  · exact .inr (.inl ⟨_, fun _ _ => rfl⟩)
  · exact .inl fun _ _ => rfl
theorem sh_Dp2 {nx : Nat} : tSh (aDp2 nx) := by
  intro d q
  unfold aDp2
  split
  · exact .inr (.inl ⟨_, fun _ _ => rfl⟩)
  · exact .inl fun _ _ => rfl
theorem sh_Ist {i nx : Nat} : tSh (aIst i nx) := by
  intro d q
  unfold aIst
  split
  · generalize Nat.blt _ _ = b
    cases b
    · exact .inl fun _ _ => rfl
    · exact .inr (.inl ⟨_, fun _ _ => rfl⟩)
  · exact .inl fun _ _ => rfl
theorem sh_Lst {i nx : Nat} : tSh (aLst i nx) := by
  intro d q
  unfold aLst
  split
  · generalize Nat.blt _ _ = b
    cases b
    · exact .inl fun _ _ => rfl
    · exact .inr (.inl ⟨_, fun _ _ => rfl⟩)
  · exact .inl fun _ _ => rfl
theorem sh_Ast {i nx : Nat} : tSh (aAst i nx) := by
  intro d q
  unfold aAst
  split
  · generalize Nat.blt _ _ = b
    cases b
    · exact .inl fun _ _ => rfl
    · exact .inr (.inl ⟨_, fun _ _ => rfl⟩)
  · exact .inl fun _ _ => rfl
theorem sh_Inc {i : Nat} {n : Int32} {nx : Nat} : tSh (aInc i n nx) := by
  intro d q
  unfold aInc
  split
  · generalize Nat.blt _ _ = b
    cases b
    · exact .inl fun _ _ => rfl
    · exact .inr (.inl ⟨_, fun _ _ => rfl⟩)
  · exact .inl fun _ _ => rfl
theorem sh_Div {f : Int32 → Int32 → Int32} {nx : Nat} : tSh (aDiv f nx) := by
  intro d q
  unfold aDiv
  split
  · refine (Classical.em _).elim (fun h => .inl fun _ _ => if_pos h) (fun h => .inr (.inl ⟨_, fun _ _ => if_neg h⟩))
  · exact .inl fun _ _ => rfl
theorem sh_Ld {f : Int64 → Int64 → Int64} {nx : Nat} : tSh (aLd f nx) := by
  intro d q
  unfold aLd
  split
  · refine (Classical.em _).elim (fun h => .inl fun _ _ => if_pos h) (fun h => .inr (.inl ⟨_, fun _ _ => if_neg h⟩))
  · exact .inl fun _ _ => rfl
theorem sh_Eq0 {t nx : Nat} : tSh (aEq0 t nx) := by
  intro d q
  unfold aEq0
  split
  · refine (Classical.em _).elim (fun h => .inr (.inl ⟨_, fun _ _ => if_pos h⟩)) (fun h => .inr (.inl ⟨_, fun _ _ => if_neg h⟩))
  · exact .inl fun _ _ => rfl
theorem sh_Lt0 {t nx : Nat} : tSh (aLt0 t nx) := by
  intro d q
  unfold aLt0
  split
  · refine (Classical.em _).elim (fun h => .inr (.inl ⟨_, fun _ _ => if_pos h⟩)) (fun h => .inr (.inl ⟨_, fun _ _ => if_neg h⟩))
  · exact .inl fun _ _ => rfl
theorem sh_Gt0 {t nx : Nat} : tSh (aGt0 t nx) := by
  intro d q
  unfold aGt0
  split
  · refine (Classical.em _).elim (fun h => .inr (.inl ⟨_, fun _ _ => if_pos h⟩)) (fun h => .inr (.inl ⟨_, fun _ _ => if_neg h⟩))
  · exact .inl fun _ _ => rfl
theorem sh_Eq {t nx : Nat} : tSh (aEq t nx) := by
  intro d q
  unfold aEq
  split
  · refine (Classical.em _).elim (fun h => .inr (.inl ⟨_, fun _ _ => if_pos h⟩)) (fun h => .inr (.inl ⟨_, fun _ _ => if_neg h⟩))
  · exact .inl fun _ _ => rfl
theorem sh_Lt {t nx : Nat} : tSh (aLt t nx) := by
  intro d q
  unfold aLt
  split
  · refine (Classical.em _).elim (fun h => .inr (.inl ⟨_, fun _ _ => if_pos h⟩)) (fun h => .inr (.inl ⟨_, fun _ _ => if_neg h⟩))
  · exact .inl fun _ _ => rfl
theorem sh_Gt {t nx : Nat} : tSh (aGt t nx) := by
  intro d q
  unfold aGt
  split
  · refine (Classical.em _).elim (fun h => .inr (.inl ⟨_, fun _ _ => if_pos h⟩)) (fun h => .inr (.inl ⟨_, fun _ _ => if_neg h⟩))
  · exact .inl fun _ _ => rfl
theorem sh_GI {ci f nx : Nat} : tSh (aGI ci f nx) := by
  intro d q
  unfold aGI
  split
  · generalize (Nat.beq _ _) = b
    cases b
    · exact .inl fun _ _ => rfl
    · exact .inr (.inl ⟨_, fun _ _ => rfl⟩)
  · exact .inl fun _ _ => rfl
theorem sh_GL {ci f nx : Nat} : tSh (aGL ci f nx) := by
  intro d q
  unfold aGL
  split
  · generalize (Nat.beq _ _) = b
    cases b
    · exact .inl fun _ _ => rfl
    · exact .inr (.inl ⟨_, fun _ _ => rfl⟩)
  · exact .inl fun _ _ => rfl
theorem sh_PI {ci f nx : Nat} : tSh (aPI ci f nx) := by
  intro d q
  unfold aPI
  split
  · generalize (Nat.beq _ _) = b
    cases b
    · exact .inl fun _ _ => rfl
    · exact .inr (.inl ⟨_, fun _ _ => rfl⟩)
  · exact .inl fun _ _ => rfl
theorem sh_PL {ci f nx : Nat} : tSh (aPL ci f nx) := by
  intro d q
  unfold aPL
  split
  · generalize (Nat.beq _ _) = b
    cases b
    · exact .inl fun _ _ => rfl
    · exact .inr (.inl ⟨_, fun _ _ => rfl⟩)
  · exact .inl fun _ _ => rfl
theorem sh_GR {ci f c nx : Nat} : tSh (aGR ci f c nx) := by
  intro d q
  unfold aGR
  split
  · generalize (Nat.beq _ _) = b
    cases b
    · exact .inl fun _ _ => rfl
    · exact .inr (.inl ⟨_, fun _ _ => rfl⟩)
  · exact .inl fun _ _ => rfl
theorem sh_GO {ci c nx : Nat} : tSh (aGO ci c nx) := by
  intro d q
  unfold aGO
  split
  · generalize (Nat.beq _ _) = b
    cases b
    · exact .inl fun _ _ => rfl
    · exact .inr (.inl ⟨_, fun _ _ => rfl⟩)
  · exact .inl fun _ _ => rfl
theorem sh_GC {ci c k nx : Nat} : tSh (aGC ci c k nx) := by
  intro d q
  unfold aGC
  split
  · generalize (Nat.beq _ _) = b
    cases b
    · exact .inl fun _ _ => rfl
    · exact .inr (.inl ⟨_, fun _ _ => rfl⟩)
  · exact .inl fun _ _ => rfl
theorem sh_GM {ci c m b nx : Nat} : tSh (aGM ci c m b nx) := by
  intro d q
  unfold aGM
  split
  · generalize (Nat.beq _ _) = b
    cases b
    · exact .inl fun _ _ => rfl
    · exact .inr (.inl ⟨_, fun _ _ => rfl⟩)
  · exact .inl fun _ _ => rfl
theorem sh_PC {ci f nx : Nat} : tSh (aPC ci f nx) := by
  intro d q
  unfold aPC
  split
  · generalize (Nat.beq _ _) = b
    cases b
    · exact .inl fun _ _ => rfl
    · rename_i h0
      refine (Classical.em _).elim (fun h => .inr (.inl ⟨_, fun _ _ => if_pos h⟩)) (fun h => .inl fun _ _ => if_neg h)
  · exact .inl fun _ _ => rfl
theorem sh_PR {ci f c nx : Nat} : tSh (aPR ci f c nx) := by
  intro d q
  unfold aPR
  split
  · generalize (_ && _) = b
    cases b
    · exact .inl fun _ _ => rfl
    · exact .inr (.inl ⟨_, fun _ _ => rfl⟩)
  · exact .inl fun _ _ => rfl
theorem sh_AI {k nx : Nat} : tSh (aAI k nx) := by
  intro d q
  unfold aAI
  split
  · generalize (_ && _) = b
    cases b
    · exact .inl fun _ _ => rfl
    · refine (Classical.em _).elim (fun h => .inr (.inl ⟨_, fun _ _ => if_pos h⟩)) (fun h => .inl fun _ _ => if_neg h)
  · exact .inl fun _ _ => rfl
theorem sh_SI {k nx : Nat} : tSh (aSI k nx) := by
  intro d q
  unfold aSI
  split
  · generalize (_ && _) = b
    cases b
    · exact .inl fun _ _ => rfl
    · refine (Classical.em _).elim (fun h => .inr (.inl ⟨_, fun _ _ => if_pos h⟩)) (fun h => .inl fun _ _ => if_neg h)
  · exact .inl fun _ _ => rfl
theorem sh_AL {nx : Nat} : tSh (aAL nx) := by
  intro d q
  unfold aAL
  split
  · generalize (_ && _) = b
    cases b
    · exact .inl fun _ _ => rfl
    · refine (Classical.em _).elim (fun h => .inr (.inl ⟨_, fun _ _ => if_pos h⟩)) (fun h => .inl fun _ _ => if_neg h)
  · exact .inl fun _ _ => rfl
theorem sh_AA {nx : Nat} : tSh (aAA nx) := by
  intro d q
  unfold aAA
  split
  · generalize (_ && _) = b
    cases b
    · exact .inl fun _ _ => rfl
    · refine (Classical.em _).elim (fun h => .inr (.inl ⟨_, fun _ _ => if_pos h⟩)) (fun h => .inl fun _ _ => if_neg h)
  · exact .inl fun _ _ => rfl
theorem sh_SL {nx : Nat} : tSh (aSL nx) := by
  intro d q
  unfold aSL
  split
  · generalize (_ && _) = b
    cases b
    · exact .inl fun _ _ => rfl
    · refine (Classical.em _).elim (fun h => .inr (.inl ⟨_, fun _ _ => if_pos h⟩)) (fun h => .inl fun _ _ => if_neg h)
  · exact .inl fun _ _ => rfl
theorem sh_Cpy {nx : Nat} : tSh (aCpy nx) := by
  intro d q
  unfold aCpy
  split
  · generalize (_ && _) = b
    cases b
    · exact .inl fun _ _ => rfl
    · refine (Classical.em _).elim (fun h => .inr (.inl ⟨_, fun _ _ => if_pos h⟩)) (fun h => .inl fun _ _ => if_neg h)
  · exact .inl fun _ _ => rfl
theorem sh_Len {nx : Nat} : tSh (aLen nx) := by
  intro d q
  unfold aLen
  split
  · generalize (Nat.ble _ _) = b
    cases b
    · exact .inl fun _ _ => rfl
    · exact .inr (.inl ⟨_, fun _ _ => rfl⟩)
  · exact .inl fun _ _ => rfl
theorem sh_Max {nx : Nat} : tSh (aMax nx) := by
  intro d q
  unfold aMax
  split
  · generalize (_ && _) = b
    cases b
    · exact .inl fun _ _ => rfl
    · exact .inr (.inl ⟨_, fun _ _ => rfl⟩)
  · exact .inl fun _ _ => rfl
theorem sh_Min {nx : Nat} : tSh (aMin nx) := by
  intro d q
  unfold aMin
  split
  · generalize (_ && _) = b
    cases b
    · exact .inl fun _ _ => rfl
    · exact .inr (.inl ⟨_, fun _ _ => rfl⟩)
  · exact .inl fun _ _ => rfl
theorem sh_Abs {nx : Nat} : tSh (aAbs nx) := by
  intro d q
  unfold aAbs
  split
  · generalize (_ && _) = b
    cases b
    · exact .inl fun _ _ => rfl
    · exact .inr (.inl ⟨_, fun _ _ => rfl⟩)
  · exact .inl fun _ _ => rfl
theorem sh_SB {nx : Nat} : tSh (aSB nx) := by
  intro d q
  unfold aSB
  split
  · generalize (Nat.beq _ _) = b
    cases b
    · exact .inl fun _ _ => rfl
    · rename_i h0
      refine (Classical.em _).elim (fun h => .inr (.inl ⟨_, fun _ _ => if_pos h⟩)) (fun h => .inl fun _ _ => if_neg h)
  · exact .inl fun _ _ => rfl
theorem sh_GV {nx : Nat} : tSh (aGV nx) := by
  intro d q
  unfold aGV
  split
  · generalize (Nat.beq _ _) = b
    cases b
    · exact .inl fun _ _ => rfl
    · exact .inr (.inl ⟨_, fun _ _ => rfl⟩)
  · exact .inl fun _ _ => rfl
theorem sh_GD {nx : Nat} : tSh (aGD nx) := by
  intro d q
  unfold aGD
  split
  · generalize (Nat.beq _ _) = b
    cases b
    · exact .inl fun _ _ => rfl
    · exact .inr (.inl ⟨_, fun _ _ => rfl⟩)
  · exact .inl fun _ _ => rfl
theorem sh_SN {nx : Nat} : tSh (aSN nx) := by
  intro d q
  unfold aSN
  split
  · generalize (Nat.beq _ _) = b
    cases b
    · exact .inl fun _ _ => rfl
    · exact .inr (.inl ⟨_, fun _ _ => rfl⟩)
  · exact .inl fun _ _ => rfl
theorem sh_GF {nx : Nat} : tSh (aGF nx) := by
  intro d q
  unfold aGF
  split
  · generalize (_ && _) = b
    cases b
    · exact .inl fun _ _ => rfl
    · refine (Classical.em _).elim (fun h => .inl fun _ _ => if_pos h) (fun h => (Classical.em _).elim (fun h2 => .inr (.inl ⟨_, fun _ _ => (if_neg h).trans (if_pos h2)⟩)) (fun h2 => .inl fun _ _ => (if_neg h).trans (if_neg h2)))
  · exact .inl fun _ _ => rfl
theorem sh_Go {t : Nat} : tSh (aGo t) := fun _ _ => .inr (.inl ⟨_, fun _ _ => rfl⟩)
theorem sh_Sw {cs : List (Int32 × Nat)} {df : Nat} : tSh (aSw cs df) := by
  intro d q
  unfold aSw
  split
  · rename_i x st h
    have key : ∀ (cs : List (Int32 × Nat)), ∃ t, ∀ K : Nat → Option tRes, tsw x K df cs = K t := by
      intro cs
      induction cs with
      | nil => exact ⟨df, fun _ => rfl⟩
      | cons c cs ih =>
        obtain ⟨t, ht⟩ := ih
        by_cases hx : x = c.1
        · exact ⟨c.2, fun K => by simp only [tsw, if_pos hx]⟩
        · exact ⟨t, fun K => by simp only [tsw, if_neg hx, ht]⟩
    obtain ⟨t, ht⟩ := key cs
    exact .inr (.inl ⟨(t, q.2.1, st, q.2.2.2), fun _ K => ht _⟩)
  · exact .inl fun _ _ => rfl
theorem sh_CI {mid n nx : Nat} : tSh (aCI mid n nx) := by
  intro d q
  unfold aCI
  cases h : tpop n q.2.2.1 [] with
  | none => exact .inl fun _ _ => rfl
  | some z =>
    cases h2 : Nat.ble (tcats z.2) 16
    · exact .inl fun _ _ => by simp only [h2, cond]
    · exact .inr (.inr (.inr (.inl ⟨mid, z.1, q.2.2.2, fun x G => (nx, q.2.1, vI x :: z.2, G), fun _ _ => by simp only [h2, cond]⟩)))
theorem sh_CV {mid n nx : Nat} : tSh (aCV mid n nx) := by
  intro d q
  unfold aCV
  cases h : tpop n q.2.2.1 [] with
  | none => exact .inl fun _ _ => rfl
  | some z =>
    cases h2 : Nat.ble (tcats z.2) 16
    · exact .inl fun _ _ => by simp only [h2, cond]
    · exact .inr (.inr (.inr (.inr ⟨mid, z.1, q.2.2.2, fun G => (nx, q.2.1, z.2, G), fun _ _ => by simp only [h2, cond]⟩)))
theorem sh_VI {mid ci n nx : Nat} : tSh (aVI mid ci n nx) := by
  intro d q
  unfold aVI
  split
  · rename_i r as st h
    cases h2 : (Nat.beq r.1 ci && Nat.ble (tcats st) 16)
    · exact .inl fun _ _ => by simp only [cond]
    · exact .inr (.inr (.inr (.inl ⟨mid, .inr (.inr r) :: as, q.2.2.2, fun x G => (nx, q.2.1, vI x :: st, G), fun _ _ => by simp only [cond]⟩)))
  · exact .inl fun _ _ => rfl
theorem sh_VV {mid ci n nx : Nat} : tSh (aVV mid ci n nx) := by
  intro d q
  unfold aVV
  split
  · rename_i r as st h
    cases h2 : (Nat.beq r.1 ci && Nat.ble (tcats st) 16)
    · exact .inl fun _ _ => by simp only [cond]
    · exact .inr (.inr (.inr (.inr ⟨mid, .inr (.inr r) :: as, q.2.2.2, fun G => (nx, q.2.1, st, G), fun _ _ => by simp only [cond]⟩)))
  · exact .inl fun _ _ => rfl
theorem sh_RI : tSh aRI := by
  intro d q
  unfold aRI
  split
  · exact tSh.r (a := fun _ _ _ _ => _) (d := d) (q := q) _ fun _ _ => rfl
  · exact .inl fun _ _ => rfl
theorem sh_RZ {ty : FieldType} : tSh (aRZ ty) := by
  intro d q
  unfold aRZ
  split
  · rename_i x h
    by_cases h2 : vp_nar ty x = x
    · exact .inr (.inr (.inl ⟨_, fun _ _ => if_pos h2⟩))
    · exact .inl fun _ _ => if_neg h2
  · exact .inl fun _ _ => rfl
theorem sh_RV : tSh aRV := by
  intro d q
  unfold aRV
  split
  · exact .inr (.inr (.inl ⟨_, fun _ _ => rfl⟩))
  · exact .inl fun _ _ => rfl
