/-! what an object of the class, and of the reference, stands for: numbers as integers -/
abbrev AS : Type := (Nat × Nat × Nat) × (Nat × Nat × (Nat → Nat → Int)) × (Nat × (Nat → Int)) × (Nat × Nat × (Nat → Int)) × (Nat → Int) × (Nat × Int32 × Nat × (Nat → Nat) × Int)
/-- cells for the first n numbers of a row -/
def need (X : Nat → Int) : Nat → Nat
  | 0 => 0
  | n + 1 => need X n + 1 + nl (X n).natAbs
def fit48 (X : Nat → Int) : Nat → Bool
  | 0 => true
  | n + 1 => fit48 X n && decide (nl (X n).natAbs ≤ 48)
def zeroN (X : Nat → Int) : Nat → Bool
  | 0 => true
  | n + 1 => zeroN X n && decide (X n = 0)
def gcdN (X : Nat → Int) : Nat → Nat
  | 0 => 0
  | n + 1 => Nat.gcd (gcdN X n) (X n).natAbs
def dotN (X Y : Nat → Int) : Nat → Int
  | 0 => 0
  | n + 1 => dotN X Y n + X n * Y n
/-- a row that contradicts itself -/
def bot (X : Nat → Int) (vars : Nat) : Bool := decide (X vars < 0) && zeroN X vars
def anyBot (R : Nat → Nat → Int) (vars inp : Nat) : Nat → Bool
  | 0 => false
  | n + 1 => anyBot R vars inp n || (decide (inp ≤ n) && bot (R n) vars)
def allHold (R : Nat → Nat → Int) (P : Nat → Int) (vars : Nat) : Nat → Bool
  | 0 => true
  | n + 1 => allHold R P vars n && decide (dotN P (R n) vars ≤ R n vars)
def bI (b : Bool) : Int32 := nI (if b then 1 else 0)
def op_begin (sign : Int32) : AS → Int32 × AS
  | (A, B, C, D, P, (st, sg, gv, g, z)) => if sign < -1 ∨ 1 < sign then (nI 0, (A, B, C, D, P, (st, sg, gv, g, z))) else (nI 1, (A, B, C, D, P, (1, sign, 0, g, 0)))
def op_limb (w : Int32) : AS → Int32 × AS
  | (A, B, C, D, P, (st, sg, gv, g, z)) => if w < 0 ∨ st ≠ 1 ∨ gv = 20 then (nI 0, (A, B, C, D, P, (st, sg, gv, g, z))) else (nI 1, (A, B, C, D, P, (st, sg, gv + 1, va_up g gv w.toNatClampNeg, sg.toInt * (vl (va_up g gv w.toNatClampNeg) (gv + 1) : Nat))))
def op_endCoef : AS → Int32 × AS
  | ((vars, maxR, cells), B, (fil, V), D, P, (st, sg, gv, g, z)) => if st ≠ 1 ∨ fil = vars + 1 then (nI 0, ((vars, maxR, cells), B, (fil, V), D, P, (st, sg, gv, g, z))) else (nI 1, ((vars, maxR, cells), B, (fil + 1, va_up V fil z), D, P, (2, sg, gv, g, z)))
/-- a row is kept, or there is no room -/
def op_store (X : Nat → Int) : AS → Option Nat × AS
  | ((vars, maxR, cells), (nr, inp, R), C, D, P, E) => if nr = maxR ∨ cells < need X (vars + 1) then (none, ((vars, maxR, cells), (nr, inp, R), C, D, P, E)) else (some nr, ((vars, maxR, cells - need X (vars + 1)), (nr + 1, inp, va_up R nr X), C, D, P, E))
def op_endCons : AS → Int32 × AS
  | (A, B, (fil, V), (se, be, S), P, E) => if se = 1 then (-3, (A, B, (0, V), (se, be, S), P, E)) else if fil ≠ A.1 + 1 then (-2, (A, B, (0, V), (se, be, S), P, E)) else
      match op_store V (A, B, (0, V), (se, be, S), P, E) with
      | (none, σ) => (-4, σ)
      | (some n, (A', (nr, inp, R), C)) => (nI n, (A', (nr, inp + 1, R), C))
def op_seal : AS → Int32 × AS
  | (A, B, C, (se, be, S), P, E) => (nI (1 - se), (A, B, C, (1, be, S), P, E))
def op_start : AS → Int32 × AS
  | (A, B, C, (se, be, S), P, E) => if se = 0 then (nI 0, (A, B, C, (se, be, S), P, E)) else (nI 1, (A, B, C, (se, 1, fun _ => 0), P, E))
def op_add (row : Int32) : AS → Int32 × AS
  | (A, (nr, inp, R), C, (se, be, S), P, (st, sg, gv, g, z)) => if be = 0 then (-7, (A, (nr, inp, R), C, (se, be, S), P, (st, sg, gv, g, z))) else if row < 0 ∨ nI nr ≤ row then (-5, (A, (nr, inp, R), C, (se, be, S), P, (st, sg, gv, g, z))) else if st = 0 ∨ z < 0 then (-6, (A, (nr, inp, R), C, (se, be, S), P, (st, sg, gv, g, z))) else
      if fit48 (fun k => S k + z * R row.toNatClampNeg k) (A.1 + 1) then (nI 0, (A, (nr, inp, R), C, (se, be, fun k => S k + z * R row.toNatClampNeg k), P, (2, sg, gv, g, z))) else (-4, (A, (nr, inp, R), C, (se, be, S), P, (st, sg, gv, g, z)))
def op_end : AS → Int32 × AS
  | (A, B, C, (se, be, S), P, E) => if be = 0 then (-7, (A, B, C, (se, be, S), P, E)) else
      match op_store S (A, B, C, (se, be, S), P, E) with
      | (none, σ) => (-4, σ)
      | (some n, (A', B', C', (se', _, S'), E')) => (nI n, (A', B', C', (se', 0, S'), E'))
def op_divide (row : Int32) : AS → Int32 × AS
  | (A, (nr, inp, R), C, (se, be, S), P, E) => if row < 0 ∨ nI nr ≤ row ∨ se = 0 then (-5, (A, (nr, inp, R), C, (se, be, S), P, E)) else if gcdN (R row.toNatClampNeg) A.1 = 0 then (-8, (A, (nr, inp, R), C, (se, be, S), P, E)) else
      match op_store (fun k => R row.toNatClampNeg k / (gcdN (R row.toNatClampNeg) A.1 : Nat)) (A, (nr, inp, R), C, (se, be, S), P, E) with
      | (none, σ) => (-4, σ)
      | (some n, σ) => (nI n, σ)
def op_refuted : AS → Int32
  | (A, (nr, inp, R), _) => bI (anyBot R A.1 inp nr)
def op_rows : AS → Int32
  | (_, (nr, _, _), _) => nI nr
def op_evalStart : AS → Int32 × AS
  | (A, B, C, D, _, E) => (nI 1, (A, B, C, D, fun _ => 0, E))
def op_evalPoint (var : Int32) : AS → Int32 × AS
  | (A, B, C, D, P, (st, sg, gv, g, z)) => if var < 0 ∨ nI A.1 ≤ var ∨ st = 0 then (nI 0, (A, B, C, D, P, (st, sg, gv, g, z))) else (nI 1, (A, B, C, D, va_up P var.toNatClampNeg z, (2, sg, gv, g, z)))
def op_sat : AS → Int32
  | (A, (_, inp, R), _, _, P, _) => bI (allHold R P A.1 inp)
/-- cell: none where the class throws -/
def op_cell (row entry what : Int32) : AS → Option Int32
  | (A, (nr, _, R), _) => if row < 0 ∨ nI nr ≤ row ∨ entry < 0 ∨ nI A.1 < entry ∨ what < -2 then none else
      let z := R row.toNatClampNeg entry.toNatClampNeg
      if what = -1 then some (if z < 0 then -1 else if z = 0 then nI 0 else nI 1) else if what = -2 then some (nI (nl z.natAbs)) else some (nI (z.natAbs / bp what.toNatClampNeg % 2147483648))
def op_count (what : Int32) : AS → Option Int32
  | ((_, _, cells), (_, inp, _), (fil, _), (se, be, _), _, (st, _)) => if what < 0 ∨ 5 < what then none else if what = 0 then some (nI cells) else if what = 1 then some (nI inp) else if what = 2 then some (nI fil) else if what = 3 then some (nI se) else if what = 4 then some (nI be) else some (nI st)
/-- what always holds -/
def AI : AS → Prop
  | ((vars, maxR, cells), (nr, inp, R), (fil, V), (se, be, S), P, (st, sg, gv, g, z)) =>
    (1 ≤ vars ∧ vars ≤ 6 ∧ 1 ≤ maxR ∧ maxR ≤ 60 ∧ cells ≤ 4000) ∧ (nr ≤ maxR ∧ inp ≤ nr ∧ (se = 0 → inp = nr) ∧ ∀ r k, r < nr → k ≤ vars → nl (R r k).natAbs ≤ 48) ∧ (fil ≤ vars + 1 ∧ ∀ k, k < fil → nl (V k).natAbs ≤ 20) ∧ (se < 2 ∧ be < 2 ∧ (be = 1 → ∀ k, k ≤ vars → nl (S k).natAbs ≤ 48)) ∧ (∀ k, k < vars → nl (P k).natAbs ≤ 20) ∧ st < 3 ∧ gv ≤ 20 ∧ (sg = -1 ∨ sg = 0 ∨ sg = 1) ∧ (st = 1 → z = sg.toInt * (vl g gv : Nat)) ∧ (∀ j, j < gv → g j < 2147483648) ∧ nl z.natAbs ≤ 20
/-- number a holds z -/
def nz (F L B : Nat → Nat) (a : Nat) (z : Int) : Prop := nv F L a z.natAbs ∧ B a = sb z
/-- the reference's cells hold the state -/
def MRep (F L B : Nat → Nat) : AS → Prop
  | ((vars, _, _), (nr, _, R), (fil, V), (_, be, S), P, (st, _, gv, g, z)) =>
    (∀ r k, r < nr → k ≤ vars → nz F L B (7 * r + k) (R r k)) ∧ (∀ k, k < fil → nz F L B (420 + k) (V k)) ∧ (be = 1 → ∀ k, k ≤ vars → nz F L B (427 + k) (S k)) ∧ (∀ k, k < vars → nz F L B (434 + k) (P k)) ∧ (st = 1 → ∀ j, j < gv → F (72 * 440 + j) = g j) ∧ (st = 2 → nz F L B 440 z) ∧ nv F L 447 1
/-- its scalar fields -/
def mfs (rf : Int32) : AS → Nat → Int32
  | ((vars, maxR, cells), (nr, inp, _), (fil, _), (se, be, _), _, (st, sg, gv, _, _)) => mfl rf (nI vars) (nI maxR) (nI cells) (nI nr) (nI inp) (nI fil) (nI se) (nI be) (nI st) sg (nI gv)
