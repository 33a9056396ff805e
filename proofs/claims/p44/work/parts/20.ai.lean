/-! AN INTERVAL CHECKER over the rows. Values: (0, p, lo, hi) an int, (1, p, lo, hi) a long, (2, r, ..) a cell of role r (500 + r: the one cell that is named so), (3, i, ..) a text. p: 0 nothing, i + 1 the value of local i, 1000 + 10000 * r + k what the one cell of role r holds at k -/
abbrev AV : Type := Nat × Nat × Int × Int
abbrev OV : Type := List (Nat × Nat × Int × Int)
/-- locals, stack, what is known of cells, by how much measured locals have moved -/
abbrev AS : Type := List (Nat × AV) × List AV × OV × List (Nat × Int)
/-- which rows may be written: (0 ints, 1 longs, 2 references; role, from, to) -/
abbrev MD : Type := List (Nat × Nat × Nat × Nat)
def bse (r : Nat) : Nat := if r < 500 then r else r - 500
def i0 : Int := -2147483648
def i1 : Int := 2147483647
def j0 : Int := -9223372036854775808
def j1 : Int := 9223372036854775807
def ile (a b : Int) : Bool := decide (a ≤ b)
/-- the tables of the checker: shapes of roles, what ints hold, what references name, whether a role has one cell -/
abbrev ET : Type := List (Nat × Nat) × List (List (Nat × Nat × Int × Int)) × List (List (Nat × Nat × Nat)) × List Bool
def eS (E : ET) (r : Nat) : Nat × Nat := E.1.getD (bse r) (999, 0)
def eG (E : ET) (r : Nat) : List (Nat × Nat × Int × Int) := E.2.1.getD (bse r) []
def eR (E : ET) (r : Nat) : List (Nat × Nat × Nat) := E.2.2.1.getD (bse r) []
/-- has the role one cell (a named one has) -/
def eO (E : ET) (r : Nat) : Bool := if r < 500 then E.2.2.2.getD r false else true
/-- what ints at [a, b] hold -/
def gI (g : List (Nat × Nat × Int × Int)) (a b : Nat) : Int × Int := match g with
  | [] => (i0, i1)
  | q :: t => if Nat.ble q.1 a && Nat.ble b q.2.1 then (q.2.2.1, q.2.2.2) else gI t a b
/-- an int within [lo, hi] may be written at [a, b] -/
def okI (g : List (Nat × Nat × Int × Int)) (a b : Nat) (lo hi : Int) : Bool := match g with
  | [] => true
  | q :: t => (Nat.blt q.2.1 a || Nat.blt b q.1 || (ile q.2.2.1 lo && ile hi q.2.2.2)) && okI t a b lo hi
def gR (g : List (Nat × Nat × Nat)) (a b : Nat) : Option Nat := match g with
  | [] => none
  | q :: t => if Nat.ble q.1 a && Nat.ble b q.2.1 then some q.2.2 else gR t a b
def okR (g : List (Nat × Nat × Nat)) (a b r : Nat) : Bool := match g with
  | [] => true
  | q :: t => (Nat.blt q.2.1 a || Nat.blt b q.1 || Nat.beq q.2.2 r) && okR t a b r
def ovG (o : OV) (r k : Nat) (d : Int × Int) : Int × Int := match o with
  | [] => d
  | q :: t => if Nat.beq q.1 r && Nat.beq q.2.1 k then q.2.2 else ovG t r k d
/-- forget what is known of role r at [a, b] -/
def ovK (o : OV) (r a b : Nat) : OV := o.filter fun q => !(Nat.beq (bse q.1) (bse r) && Nat.ble a q.2.1 && Nat.ble q.2.1 b)
def mIn (M : MD) (w r a b : Nat) : Bool := M.any fun q => Nat.beq q.1 w && Nat.beq q.2.1 (bse r) && Nat.ble q.2.2.1 a && Nat.ble b q.2.2.2
def mHas (M : MD) (w r k : Nat) : Bool := M.any fun q => Nat.beq q.1 w && Nat.beq q.2.1 r && Nat.ble q.2.2.1 k && Nat.ble k q.2.2.2
def msub (M M' : MD) : Bool := M.all fun q => M'.any fun q' => Nat.beq q'.1 q.1 && Nat.beq q'.2.1 q.2.1 && Nat.ble q'.2.2.1 q.2.2.1 && Nat.ble q.2.2.2 q'.2.2.2
def alk (ls : List (Nat × AV)) (i : Nat) : Option AV := match ls with
  | [] => none
  | q :: t => if Nat.beq q.1 i then some q.2 else alk t i
def noP (v : AV) : AV := match v.1 with
  | 0 => (0, 0, v.2.2)
  | 1 => (1, 0, v.2.2)
  | _ => v
def kL (i : Nat) (st : List AV) : List AV := st.map fun v => if Nat.ble v.1 1 && Nat.beq v.2.1 (i + 1) then noP v else v
def kH (st : List AV) : List AV := st.map fun v => if Nat.ble v.1 1 && Nat.ble 1000 v.2.1 then noP v else v
/-- store a local -/
def aso (wide : Bool) (ls : List (Nat × AV)) (i : Nat) (v : AV) : List (Nat × AV) :=
  (i, noP v) :: ls.filter fun q => !(Nat.beq q.1 i) && !(wide && Nat.beq q.1 (i + 1)) && !(Nat.beq (q.1 + 1) i && Nat.beq q.2.1 1)
def lm (lo hi : Int) (lo' hi' : Int) : Int × Int := (if lo ≤ lo' then lo' else lo, if hi ≤ hi' then hi else hi')
/-- a value with p is within [lo, hi] -/
def rfn (E : ET) (S : AS) (p : Nat) (lo hi : Int) : AS :=
  if Nat.beq p 0 then S
  else if Nat.blt p 1000 then match alk S.1 (p - 1) with
    | some (0, _, a, b) => ((p - 1, 0, 0, lm a b lo hi) :: S.1.filter (fun q => !(Nat.beq q.1 (p - 1))), S.2)
    | _ => S
  else
    let r := (p - 1000) / 10000; let k := (p - 1000) % 10000
    (S.1, S.2.1, (r, k, lm (ovG S.2.2.1 r k (gI (eG E r) k k)).1 (ovG S.2.2.1 r k (gI (eG E r) k k)).2 lo hi) :: S.2.2.1.filter (fun q => !(Nat.beq q.1 r && Nat.beq q.2.1 k)), S.2.2.2)
def fi (lo hi : Int) : Int × Int := if ile i0 lo && ile hi i1 then (lo, hi) else (i0, i1)
def fj (lo hi : Int) : Int × Int := if ile j0 lo && ile hi j1 then (lo, hi) else (j0, j1)
def mulI (a b c d : Int) : Int × Int :=
  let x := a * c; let y := a * d; let z := b * c; let w := b * d
  (min (min x y) (min z w), max (max x y) (max z w))
def divI (a b c d : Int) : Int × Int := if ile 1 c && ile 0 a then (0, b) else if ile 1 c && ile c d && ile d c then (a.tdiv c, b.tdiv c) else (i0, i1)
def remI (a _b c d : Int) : Int × Int := if ile 1 c then (if ile 0 a then 0 else -(d - 1), d - 1) else (i0, i1)
def andI (a b c d : Int) : Int × Int := if ile 0 c then (0, if ile 0 a && ile b d then b else d) else if ile 0 a then (0, b) else (i0, i1)
/-- where both are known, so is the outcome -/
def ex2 (f : Int32 → Int32 → Int32) (a b c d : Int) (z : Int × Int) : Int × Int := if ile b a && ile d c then ((f (Int32.ofInt a) (Int32.ofInt c)).toInt, (f (Int32.ofInt a) (Int32.ofInt c)).toInt) else z
def ex2L (f : Int64 → Int64 → Int64) (a b c d : Int) (z : Int × Int) : Int × Int := if ile b a && ile d c then ((f (Int64.ofInt a) (Int64.ofInt c)).toInt, (f (Int64.ofInt a) (Int64.ofInt c)).toInt) else z
def absI (a b : Int) : Int × Int := if ile 0 a then (a, b) else if ile b 0 then (-b, -a) else (0, if ile (-a) b then b else -a)
/-- comparing longs -/
def lcI (a b c d : Int) : Int × Int := if ile (b + 1) c then (-1, -1) else if ile (d + 1) a then (1, 1) else if ile b a && ile d c && ile a c && ile c a then (0, 0) else if ile b c then (-1, 0) else if ile d a then (0, 1) else (-1, 1)
def ne1 (a b c d : Int) : Int × Int := if ile c d && ile d c then (if ile a c && ile c a then a + 1 else a, if ile b c && ile c b then b - 1 else b) else (a, b)
/-- the two intervals where a comparison holds: of x and of y -/
def cmpT (cd : ClassFile.Cond) (a b c d : Int) : Option ((Int × Int) × (Int × Int)) := match cd with
  | .eq => some (lm a b c d, lm a b c d)
  | .ne => some (ne1 a b c d, ne1 c d a b)
  | .lt => some (lm a b a (d - 1), lm c d (a + 1) d)
  | .ge => some (lm a b c b, lm c d c b)
  | .gt => some (lm a b (c + 1) b, lm c d c (b - 1))
  | .le => some (lm a b a d, lm c d a d)
def neg (cd : ClassFile.Cond) : ClassFile.Cond := match cd with
  | .eq => .ne
  | .ne => .eq
  | .lt => .ge
  | .ge => .lt
  | .gt => .le
  | .le => .gt
/-- one side of a branch: nothing, if it can't be -/
def side (E : ET) (cd : ClassFile.Cond) (x y : AV) (S : AS) (pc : Nat) : List (Nat × AS) := match cmpT cd x.2.2.1 x.2.2.2 y.2.2.1 y.2.2.2 with
  | none => [(pc, S)]
  | some (u, v) => if ile u.1 u.2 && ile v.1 v.2 then [(pc, rfn E (rfn E S x.2.1 u.1 u.2) y.2.1 v.1 v.2)] else []
def sub1 (lo hi lo' hi' : Int) : Bool := ile lo' lo && ile hi hi'
/-- is what x says as narrow as what y says (y bears no p) -/
def avle (x y : AV) : Bool := match y.1 with
  | 0 => Nat.beq x.1 0 && sub1 x.2.2.1 x.2.2.2 y.2.2.1 y.2.2.2
  | 1 => Nat.beq x.1 1 && sub1 x.2.2.1 x.2.2.2 y.2.2.1 y.2.2.2
  | 2 => Nat.beq x.1 2 && (Nat.beq x.2.1 y.2.1 || Nat.beq (bse x.2.1) y.2.1)
  | 3 => Nat.beq x.1 3 && (Nat.beq y.2.1 99 || Nat.beq x.2.1 y.2.1)
  | _ => false
def ovle (E : ET) (o : OV) (o' : OV) : Bool := o'.all fun q => let z := ovG o q.1 q.2.1 (gI (eG E q.1) q.2.1 q.2.1); sub1 z.1 z.2 q.2.2.1 q.2.2.2
/-- what is said of a method: which, its arguments, what must be known; its ends (answer, what is known then, what of the arguments); what it may write -/
abbrev SM : Type := Nat × List AV × OV × List (List AV × OV × List (Nat × Int × Int)) × MD
def avles (xs ys : List AV) : Bool := match xs, ys with
  | [], [] => true
  | x :: xs, y :: ys => avle x y && avles xs ys
  | _, _ => false
def ovKs (o : OV) (M : MD) : OV := o.filter fun q => !(mHas M 0 (bse q.1) q.2.1)
def rfns (E : ET) (S : AS) (as : List AV) (l : List (Nat × Int × Int)) : AS := match l with
  | [] => S
  | q :: t => rfns E (match as[q.1]? with
    | some (k, p, _) => if Nat.ble k 1 then rfn E S p q.2.1 q.2.2 else S
    | _ => S) as t
/-- behind a call -/
def aft (E : ET) (S : AS) (as rest : List AV) (sm : SM) (pc : Nat) : List (Nat × AS) := sm.2.2.2.1.map fun o =>
  let S1 : AS := rfns E (S.1, rest, S.2.2.1, S.2.2.2) as o.2.2
  (pc, S1.1, o.1 ++ kH rest, o.2.1 ++ ovKs S1.2.2.1 sm.2.2.2.2, S1.2.2.2)
def fnd (E : ET) (sms : List SM) (mid : Nat) (as : List AV) (o : OV) : Option SM := sms.find? fun s => Nat.beq s.1 mid && avles as s.2.1 && ovle E o s.2.2.1
def acats (st : List AV) : Nat := match st with
  | [] => 0
  | v :: t => (if Nat.beq v.1 1 then 2 else 1) + acats t
def arcv (r2 ci : Nat) (as : List AV) (E : ET) : Bool := match r2 with
  | 0 => match as with
    | (2, r, _) :: _ => Nat.beq (eS E r).1 (100 + ci) && Nat.beq (eS E r).2 (nf ci)
    | _ => false
  | 1 => true
  | 3 => true
  | 5 => match as with
    | (3, _, _) :: _ => true
    | _ => false
  | _ => false
/-- the low end of an interval as an index -/
def ix (lo : Int) : Nat := lo.toNat
def u2 (st : List AV) (f : AV → AV → List AV → Option (List (Nat × AS))) : Option (List (Nat × AS)) := match st with
  | y :: x :: r => if Nat.beq y.1 0 && Nat.beq x.1 0 then f x y r else none
  | _ => none
def u1 (st : List AV) (f : AV → List AV → Option (List (Nat × AS))) : Option (List (Nat × AS)) := match st with
  | x :: r => if Nat.beq x.1 0 then f x r else none
  | _ => none
def w2 (st : List AV) (f : AV → AV → List AV → Option (List (Nat × AS))) : Option (List (Nat × AS)) := match st with
  | y :: x :: r => if Nat.beq y.1 1 && Nat.beq x.1 1 then f x y r else none
  | _ => none
def ai (p : Nat) (z : Int × Int) : AV := (0, p, z)
def aj (p : Nat) (z : Int × Int) : AV := (1, p, z)
/-- where a value comes from, if role r has one cell -/
def pv (E : ET) (r k : Nat) : Nat := if eO E r && Nat.blt k 10000 then 1000 + 10000 * r + k else 0
/-- an int is read: role r, places a .. b -/
def rdI (E : ET) (o : OV) (r a b : Nat) : AV := if Nat.beq a b then ai (pv E r a) (ovG o r a (gI (eG E r) a a)) else ai 0 (gI (eG E r) a b)
/-- an int is written -/
def wrI (E : ET) (M : MD) (S : AS) (rest : List AV) (r a b : Nat) (lo hi : Int) (pc : Nat) : Option (List (Nat × AS)) :=
  if okI (eG E r) a b lo hi && mIn M 0 r a b then
    some [(pc, S.1, kH rest, (if Nat.beq a b && eO E r then [(r, a, lo, hi)] else []) ++ ovK S.2.2.1 r a b, S.2.2.2)]
  else none
def ac1 (E : ET) (o : OV) (st : List AV) (t : Nat) (f : Nat → Nat → Nat → List AV → Option (List (Nat × AS))) : Option (List (Nat × AS)) := match st with
  | i :: (2, r, _) :: rest => if Nat.beq i.1 0 && Nat.beq (eS E r).1 t && ile 0 i.2.2.1 && ile i.2.2.2 ((eS E r).2 - 1 : Int) then f r (ix i.2.2.1) (ix i.2.2.2) rest else none
  | _ => none
def xcall (E : ET) (sms : List SM) (M : MD) (r1 r2 : Nat) (r3 : Int) (pc : Nat) (S : AS) : Option (List (Nat × AS)) :=
  match r2 with
  | 10 => u2 S.2.1 fun x y r => if Nat.ble (acats r) 8 then some [(pc + 3, S.1, ai 0 (if ile x.2.2.1 y.2.2.1 then y.2.2.1 else x.2.2.1, if ile x.2.2.2 y.2.2.2 then y.2.2.2 else x.2.2.2) :: r, S.2.2)] else none
  | 11 => u2 S.2.1 fun x y r => if Nat.ble (acats r) 8 then some [(pc + 3, S.1, ai 0 (if ile x.2.2.1 y.2.2.1 then x.2.2.1 else y.2.2.1, if ile x.2.2.2 y.2.2.2 then x.2.2.2 else y.2.2.2) :: r, S.2.2)] else none
  | 12 => u1 S.2.1 fun x r => if Nat.ble (acats r) 8 then some [(pc + 3, S.1, ai 0 (if ile (i0 + 1) x.2.2.1 then absI x.2.2.1 x.2.2.2 else (i0, i1)) :: r, S.2.2)] else none
  | 13 => match S.2.1 with
    | n :: dp :: (2, ra, _) :: sp :: (2, rb, _) :: r =>
      if Nat.beq n.1 0 && Nat.beq dp.1 0 && Nat.beq sp.1 0 && Nat.beq (eS E ra).1 0 && Nat.beq (eS E rb).1 0 && ile 0 n.2.2.1 && ile 0 dp.2.2.1 && ile 0 sp.2.2.1 && ile (sp.2.2.2 + n.2.2.2) (eS E rb).2 && ile (dp.2.2.2 + n.2.2.2) (eS E ra).2 && Nat.ble (acats r) 8 &&
        okI (eG E ra) 0 ((eS E ra).2 - 1) (gI (eG E rb) 0 ((eS E rb).2 - 1)).1 (gI (eG E rb) 0 ((eS E rb).2 - 1)).2 && mIn M 0 ra 0 ((eS E ra).2 - 1) && Nat.ble 1 (eS E ra).2 && Nat.ble 1 (eS E rb).2
      then some [(pc + 3, S.1, kH r, ovK S.2.2.1 ra 0 ((eS E ra).2 - 1), S.2.2.2)] else none
    | _ => none
  | 14 => none
  | _ =>
    let na := (r3 % 100).toNat
    let as := (S.2.1.take na).reverse
    let rest := S.2.1.drop na
    if Nat.ble (acats rest) 8 && Nat.ble na S.2.1.length && arcv r2 (r3 / 100).toNat as E then
      match fnd E sms r1 as S.2.2.1 with
      | some sm => if msub sm.2.2.2.2 M then some (aft E S as rest sm (pc + 3)) else none
      | none => none
    else none
def bmp (dl : List (Nat × Int)) (i : Nat) (n lo hi : Int) : List (Nat × Int) := dl.filterMap fun q => if Nat.beq q.1 i then (if ile i0 (lo + n) && ile (hi + n) i1 then some (i, q.2 + n) else none) else some q
def dK (dl : List (Nat × Int)) (i : Nat) : List (Nat × Int) := dl.filter fun q => !(Nat.beq q.1 i)
def ld (S : AS) (i k n pc : Nat) : Option (List (Nat × AS)) := match alk S.1 i with
  | some (0, _, z) => if Nat.beq k 0 && Nat.blt i 900 then some [(pc + n, S.1, ai (i + 1) z :: S.2.1, S.2.2)] else none
  | some (1, _, z) => if Nat.beq k 1 then some [(pc + n, S.1, aj 0 z :: S.2.1, S.2.2)] else none
  | some (2, r, z) => if Nat.beq k 2 then some [(pc + n, S.1, (2, r, z) :: S.2.1, S.2.2)] else none
  | some (3, r, z) => if Nat.beq k 2 then some [(pc + n, S.1, (3, r, z) :: S.2.1, S.2.2)] else none
  | _ => none
def sv (S : AS) (i k n pc : Nat) : Option (List (Nat × AS)) := match S.2.1 with
  | v :: r => if Nat.beq v.1 k || (Nat.beq k 2 && Nat.beq v.1 3) then some [(pc + n, aso (Nat.beq k 1) S.1 i v, kL i (if Nat.beq k 1 then kL (i + 1) r else r), S.2.2.1, dK S.2.2.2 i)] else none
  | _ => none
/-- one row -/
def xrow (E : ET) (sms : List SM) (M : MD) (i : Instr) (r1 r2 : Nat) (r3 : Int) (pc : Nat) (S : AS) : Option (List (Nat × AS)) :=
  match i with
  | .iconst n => if ile (-128) n && ile n 127 then some [(pc + 1, S.1, ai 0 (n, n) :: S.2.1, S.2.2)] else none
  | .bipush n => if ile (-128) n && ile n 127 then some [(pc + 2, S.1, ai 0 (n, n) :: S.2.1, S.2.2)] else none
  | .sipush n => if ile (-32768) n && ile n 32767 then some [(pc + 3, S.1, ai 0 (n, n) :: S.2.1, S.2.2)] else none
  | .lconst n => some [(pc + 1, S.1, aj 0 ((n : Nat), (n : Nat)) :: S.2.1, S.2.2)]
  | .ldc _ => match r1 with
    | 0 => if ile i0 r3 && ile r3 i1 then some [(pc + 2, S.1, ai 0 (r3, r3) :: S.2.1, S.2.2)] else none
    | _ => if Nat.blt r2 6 then some [(pc + 2, S.1, (3, r2, 0, 0) :: S.2.1, S.2.2)] else none
  | .ldc_w _ => match r1 with
    | 0 => if ile i0 r3 && ile r3 i1 then some [(pc + 3, S.1, ai 0 (r3, r3) :: S.2.1, S.2.2)] else none
    | _ => if Nat.blt r2 6 then some [(pc + 3, S.1, (3, r2, 0, 0) :: S.2.1, S.2.2)] else none
  | .ldc2_w _ => if ile j0 r3 && ile r3 j1 then some [(pc + 3, S.1, aj 0 (r3, r3) :: S.2.1, S.2.2)] else none
  | .iload_n k => ld S k 0 1 pc
  | .iload k => ld S k 0 2 pc
  | .lload_n k => ld S k 1 1 pc
  | .lload k => ld S k 1 2 pc
  | .aload_n k => ld S k 2 1 pc
  | .aload k => ld S k 2 2 pc
  | .istore_n k => sv S k 0 1 pc
  | .istore k => sv S k 0 2 pc
  | .lstore_n k => sv S k 1 1 pc
  | .lstore k => sv S k 1 2 pc
  | .astore_n k => sv S k 2 1 pc
  | .astore k => sv S k 2 2 pc
  | .iinc k n => match alk S.1 k with
    | some (0, _, lo, hi) => some [(pc + 3, (k, 0, 0, fi (lo + n) (hi + n)) :: S.1.filter (fun q => !(Nat.beq q.1 k) && !(Nat.beq (q.1 + 1) k && Nat.beq q.2.1 1)), kL k S.2.1, S.2.2.1, bmp S.2.2.2 k n lo hi)]
    | _ => none
  | .iadd => u2 S.2.1 fun x y r => some [(pc + 1, S.1, ai 0 (fi (x.2.2.1 + y.2.2.1) (x.2.2.2 + y.2.2.2)) :: r, S.2.2)]
  | .isub => u2 S.2.1 fun x y r => some [(pc + 1, S.1, ai 0 (fi (x.2.2.1 - y.2.2.2) (x.2.2.2 - y.2.2.1)) :: r, S.2.2)]
  | .imul => u2 S.2.1 fun x y r => let z := mulI x.2.2.1 x.2.2.2 y.2.2.1 y.2.2.2; some [(pc + 1, S.1, ai 0 (fi z.1 z.2) :: r, S.2.2)]
  | .idiv => u2 S.2.1 fun x y r => if ile 1 y.2.2.1 || ile y.2.2.2 (-1) then some [(pc + 1, S.1, ai 0 (ex2 (fun u v => u / v) x.2.2.1 x.2.2.2 y.2.2.1 y.2.2.2 (divI x.2.2.1 x.2.2.2 y.2.2.1 y.2.2.2)) :: r, S.2.2)] else none
  | .irem => u2 S.2.1 fun x y r => if ile 1 y.2.2.1 || ile y.2.2.2 (-1) then some [(pc + 1, S.1, ai 0 (ex2 (fun u v => u - u / v * v) x.2.2.1 x.2.2.2 y.2.2.1 y.2.2.2 (remI x.2.2.1 x.2.2.2 y.2.2.1 y.2.2.2)) :: r, S.2.2)] else none
  | .ineg => u1 S.2.1 fun x r => some [(pc + 1, S.1, ai 0 (fi (-x.2.2.2) (-x.2.2.1)) :: r, S.2.2)]
  | .iand => u2 S.2.1 fun x y r => some [(pc + 1, S.1, ai 0 (ex2 (fun u v => u &&& v) x.2.2.1 x.2.2.2 y.2.2.1 y.2.2.2 (andI x.2.2.1 x.2.2.2 y.2.2.1 y.2.2.2)) :: r, S.2.2)]
  | .ior => u2 S.2.1 fun x y r => some [(pc + 1, S.1, ai 0 (ex2 (fun u v => u ||| v) x.2.2.1 x.2.2.2 y.2.2.1 y.2.2.2 (i0, i1)) :: r, S.2.2)]
  | .ixor => u2 S.2.1 fun x y r => some [(pc + 1, S.1, ai 0 (ex2 (fun u v => u ^^^ v) x.2.2.1 x.2.2.2 y.2.2.1 y.2.2.2 (i0, i1)) :: r, S.2.2)]
  | .ishl => u2 S.2.1 fun x y r => some [(pc + 1, S.1, ai 0 (ex2 (fun u v => u <<< (v &&& 31)) x.2.2.1 x.2.2.2 y.2.2.1 y.2.2.2 (i0, i1)) :: r, S.2.2)]
  | .ishr => u2 S.2.1 fun x y r => some [(pc + 1, S.1, ai 0 (ex2 (fun u v => u >>> (v &&& 31)) x.2.2.1 x.2.2.2 y.2.2.1 y.2.2.2 (i0, i1)) :: r, S.2.2)]
  | .iushr => u2 S.2.1 fun x y r => some [(pc + 1, S.1, ai 0 (ex2 (fun u v => (u.toUInt32 >>> (v.toUInt32 &&& Int32.toUInt32 31)).toInt32) x.2.2.1 x.2.2.2 y.2.2.1 y.2.2.2 (i0, i1)) :: r, S.2.2)]
  | .ladd => w2 S.2.1 fun x y r => some [(pc + 1, S.1, aj 0 (fj (x.2.2.1 + y.2.2.1) (x.2.2.2 + y.2.2.2)) :: r, S.2.2)]
  | .lsub => w2 S.2.1 fun x y r => some [(pc + 1, S.1, aj 0 (fj (x.2.2.1 - y.2.2.2) (x.2.2.2 - y.2.2.1)) :: r, S.2.2)]
  | .lmul => w2 S.2.1 fun x y r => some [(pc + 1, S.1, aj 0 (fj (mulI x.2.2.1 x.2.2.2 y.2.2.1 y.2.2.2).1 (mulI x.2.2.1 x.2.2.2 y.2.2.1 y.2.2.2).2) :: r, S.2.2)]
  | .ldiv => w2 S.2.1 fun x y r => if ile 1 y.2.2.1 || ile y.2.2.2 (-1) then some [(pc + 1, S.1, aj 0 (ex2L (fun u v => u / v) x.2.2.1 x.2.2.2 y.2.2.1 y.2.2.2 (j0, j1)) :: r, S.2.2)] else none
  | .lrem => w2 S.2.1 fun x y r => if ile 1 y.2.2.1 || ile y.2.2.2 (-1) then some [(pc + 1, S.1, aj 0 (ex2L (fun u v => u - u / v * v) x.2.2.1 x.2.2.2 y.2.2.1 y.2.2.2 (j0, j1)) :: r, S.2.2)] else none
  | .lcmp => w2 S.2.1 fun x y r => some [(pc + 1, S.1, ai 0 (lcI x.2.2.1 x.2.2.2 y.2.2.1 y.2.2.2) :: r, S.2.2)]
  | .i2l => u1 S.2.1 fun x r => some [(pc + 1, S.1, aj x.2.1 x.2.2 :: r, S.2.2)]
  | .l2i => match S.2.1 with
    | (1, _, lo, hi) :: r => some [(pc + 1, S.1, ai 0 (fi lo hi) :: r, S.2.2)]
    | _ => none
  | .i2b => u1 S.2.1 fun x r => some [(pc + 1, S.1, ai 0 (-128, 127) :: r, S.2.2)]
  | .i2s => u1 S.2.1 fun x r => some [(pc + 1, S.1, ai 0 (-32768, 32767) :: r, S.2.2)]
  | .i2c => u1 S.2.1 fun x r => some [(pc + 1, S.1, ai 0 (0, 65535) :: r, S.2.2)]
  | .dup => match S.2.1 with
    | v :: r => if Nat.beq v.1 1 then none else if Nat.ble v.1 3 then some [(pc + 1, S.1, v :: v :: r, S.2.2)] else none
    | _ => none
  | .pop => match S.2.1 with
    | v :: r => if Nat.beq v.1 1 then none else if Nat.ble v.1 3 then some [(pc + 1, S.1, r, S.2.2)] else none
    | _ => none
  | .dup2 => match S.2.1 with
    | v :: w :: r => if Nat.beq v.1 1 || Nat.beq w.1 1 then none else if Nat.ble v.1 3 && Nat.ble w.1 3 then some [(pc + 1, S.1, v :: w :: v :: w :: r, S.2.2)] else none
    | _ => none
  | .ifCond cd off => u1 S.2.1 fun x r => some (side E cd x (ai 0 (0, 0)) (S.1, r, S.2.2) (tg pc off) ++ side E (neg cd) x (ai 0 (0, 0)) (S.1, r, S.2.2) (pc + 3))
  | .if_icmp cd off => u2 S.2.1 fun x y r => some (side E cd x y (S.1, r, S.2.2) (tg pc off) ++ side E (neg cd) x y (S.1, r, S.2.2) (pc + 3))
  | .goto off => some [(tg pc off, S)]
  | .tableswitch dflt lo _ offs => u1 S.2.1 fun x r => some ((tg pc dflt, S.1, r, S.2.2) :: (offs.toList.zipIdx.filter fun q => ile x.2.2.1 (lo + q.2) && ile (lo + q.2) x.2.2.2).map fun q => (tg pc q.1, S.1, r, S.2.2))
  | .lookupswitch dflt ps => u1 S.2.1 fun x r => some ((tg pc dflt, S.1, r, S.2.2) :: ps.toList.map fun q => (tg pc q.2, S.1, r, S.2.2))
  | .getfield _ => match S.2.1 with
    | (2, r, _) :: rest => if Nat.beq (eS E r).1 (100 + r1) && Nat.beq (eS E r).2 (nf r1) then
        (match r3.toNat with
        | 1 => some [(pc + 3, S.1, aj 0 (j0, j1) :: rest, S.2.2)]
        | 2 => (match gR (eR E r) r2 r2 with
          | some q => some [(pc + 3, S.1, (2, q, 0, 0) :: rest, S.2.2)]
          | none => none)
        | _ => some [(pc + 3, S.1, rdI E S.2.2.1 r r2 r2 :: rest, S.2.2)]) else none
    | _ => none
  | .putfield _ => match S.2.1 with
    | v :: (2, r, _) :: rest => if Nat.beq (eS E r).1 (100 + r1) && Nat.beq (eS E r).2 (nf r1) then
        (match r3 with
        | 0 => if Nat.beq v.1 0 then wrI E M S rest r r2 r2 v.2.2.1 v.2.2.2 (pc + 3) else none
        | 3 => if Nat.beq v.1 0 && ile 0 v.2.2.1 && ile v.2.2.2 1 then wrI E M S rest r r2 r2 v.2.2.1 v.2.2.2 (pc + 3) else none
        | 1 => if Nat.beq v.1 1 && mIn M 1 r r2 r2 then some [(pc + 3, S.1, rest, S.2.2)] else none
        | 2 => if Nat.beq v.1 2 && okR (eR E r) r2 r2 (bse v.2.1) && mIn M 2 r r2 r2 then some [(pc + 3, S.1, rest, S.2.2)] else none
        | _ => none) else none
    | _ => none
  | .iaload => ac1 E S.2.2.1 S.2.1 0 fun r a b rest => some [(pc + 1, S.1, rdI E S.2.2.1 r a b :: rest, S.2.2)]
  | .caload => ac1 E S.2.2.1 S.2.1 2 fun r a b rest => some [(pc + 1, S.1, rdI E S.2.2.1 r a b :: rest, S.2.2)]
  | .baload => ac1 E S.2.2.1 S.2.1 3 fun r a b rest => some [(pc + 1, S.1, rdI E S.2.2.1 r a b :: rest, S.2.2)]
  | .laload => ac1 E S.2.2.1 S.2.1 1 fun _ _ _ rest => some [(pc + 1, S.1, aj 0 (j0, j1) :: rest, S.2.2)]
  | .aaload => match S.2.1 with
    | i :: (2, r, _) :: rest => if Nat.beq i.1 0 && Nat.ble 4 (eS E r).1 && Nat.ble (eS E r).1 6 && ile 0 i.2.2.1 && ile i.2.2.2 ((eS E r).2 - 1 : Int) then (match gR (eR E r) (ix i.2.2.1) (ix i.2.2.2) with
        | some q => some [(pc + 1, S.1, (2, q, 0, 0) :: rest, S.2.2)]
        | none => none) else none
    | _ => none
  | .iastore => match S.2.1 with
    | v :: st => if Nat.beq v.1 0 then ac1 E S.2.2.1 st 0 fun r a b rest => wrI E M S rest r a b v.2.2.1 v.2.2.2 (pc + 1) else none
    | _ => none
  | .castore => match S.2.1 with
    | v :: st => if Nat.beq v.1 0 then ac1 E S.2.2.1 st 2 fun r a b rest => wrI E M S rest r a b 0 65535 (pc + 1) else none
    | _ => none
  | .bastore => match S.2.1 with
    | v :: st => if Nat.beq v.1 0 then ac1 E S.2.2.1 st 3 fun r a b rest => if ile 0 v.2.2.1 && ile v.2.2.2 1 then wrI E M S rest r a b v.2.2.1 v.2.2.2 (pc + 1) else wrI E M S rest r a b 0 1 (pc + 1) else none
    | _ => none
  | .lastore => match S.2.1 with
    | v :: st => if Nat.beq v.1 1 then ac1 E S.2.2.1 st 1 fun r a b rest => if mIn M 1 r a b then some [(pc + 1, S.1, rest, S.2.2)] else none else none
    | _ => none
  | .arraylength => match S.2.1 with
    | (2, r, _) :: rest => if Nat.blt (eS E r).1 7 && Nat.blt (eS E r).2 100000 then some [(pc + 1, S.1, ai 0 ((eS E r).2, (eS E r).2) :: rest, S.2.2)] else none
    | _ => none
  | .invokevirtual _ => xcall E sms M r1 r2 r3 pc S
  | .invokespecial _ => none
  | .invokestatic _ => xcall E sms M r1 r2 r3 pc S
  | _ => none
def low (o : OV) : Bool := o.all fun q => Nat.blt q.1 500
