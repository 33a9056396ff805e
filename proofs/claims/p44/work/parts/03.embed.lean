/-! ABSTRACT HEAPS, and a fuel-bounded weakest precondition over decoded instructions -/
/-- shapes (k < 100: an array of type k and its length; k ≥ 100: an object of class k - 100 and how many fields), ints, longs, references -/
abbrev aH : Type := List (Nat × Nat) × (Nat → Nat → Int32) × (Nat → Nat → Int64) × (Nat → Nat → Option Nat)
def aI (h : aH) : Nat → Nat → Int32 := h.2.1
def aJ (h : aH) : Nat → Nat → Int64 := h.2.2.1
def aR (h : aH) : Nat → Nat → Option Nat := h.2.2.2
def a_up {α : Type} (f : Nat → α) (k : Nat) (v : α) : Nat → α := fun j => if j = k then v else f j
def sI (h : aH) (a k : Nat) (v : Int32) : aH := (h.1, a_up h.2.1 a (upd (h.2.1 a) k v), h.2.2.1, h.2.2.2)
def sJ (h : aH) (a k : Nat) (v : Int64) : aH := (h.1, h.2.1, a_up h.2.2.1 a (vp_updL (h.2.2.1 a) k v), h.2.2.2)
def sR (h : aH) (a k : Nat) (v : Option Nat) : aH := (h.1, h.2.1, h.2.2.1, a_up h.2.2.2 a (va_up (h.2.2.2 a) k v))
def sC (h : aH) (a0 sp a1 dp n : Nat) : aH := (h.1, a_up h.2.1 a1 (va_cpy (h.2.1 a0) (h.2.1 a1) sp dp n), h.2.2.1, h.2.2.2)
/-- one cell more -/
def nO (h : aH) (s : Nat × Nat) : aH := (h.1 ++ [s], a_up h.2.1 h.1.length (fun _ => 0), a_up h.2.2.1 h.1.length (fun _ => 0), a_up h.2.2.2 h.1.length (fun _ => none))
/-- new T[n][m]: the outer array, then its rows -/
def nOs (h : aH) (s : Nat × Nat) : Nat → aH
  | 0 => h
  | i + 1 => nO (nOs h s i) s
def nM (h : aH) (t0 t1 n m : Nat) : aH :=
  let g := nOs (nO h (t0, n)) (t1, m) n
  (g.1, g.2.1, g.2.2.1, a_up g.2.2.2 h.1.length (fun i => if i < n then some (h.1.length + 1 + i) else none))
def cv (ad : Nat → Nat) (v : Value) : Value := match v with
  | .ref a => .ref (ad a)
  | v => v
/-- a value that names a cell that is there -/
def okv (h : aH) (v : Value) : Bool := match v with
  | .ref a => decide (a < h.1.length) || decide (1000000 ≤ a)
  | _ => true
def lk (ls : List (Nat × Value)) (i : Nat) : Option Value := match ls with
  | [] => none
  | q :: r => if q.1 = i then some q.2 else lk r i
def so1 (ls : List (Nat × Value)) (i : Nat) (v : Value) : List (Nat × Value) := (i, v) :: ls.filter (fun q => !(q.1 == i) && !(q.1 + 1 == i && q.2.category == 2))
def so2 (ls : List (Nat × Value)) (i : Nat) (v : Value) : List (Nat × Value) := (i, v) :: ls.filter (fun q => !(q.1 == i) && (!(q.1 == i + 1) && !(q.1 + 1 == i && q.2.category == 2)))
/-- the kinds of the fields: 0 int, 1 long, 2 reference, 3 boolean -/
def fv (h : aH) (a k t : Nat) : Value := match t with
  | 1 => .long (aJ h a k)
  | 2 => va_rf (aR h a k)
  | _ => .int (aI h a k)
abbrev KT : Type := Nat → List (Nat × Value) → List Value → aH → Nat → Nat → Prop
abbrev QT : Type := Option Value → aH → Prop
abbrev CT : Type := Nat → List Value → aH → Nat → Nat → QT → Prop
def p_i (st : List Value) (f : Int32 → List Value → Prop) : Prop := match st with
  | .int x :: r => f x r
  | _ => False
def p_ii (st : List Value) (f : Int32 → Int32 → List Value → Prop) : Prop := match st with
  | .int y :: .int x :: r => f x y r
  | _ => False
def p_l (st : List Value) (f : Int64 → List Value → Prop) : Prop := match st with
  | .long x :: r => f x r
  | _ => False
def p_ll (st : List Value) (f : Int64 → Int64 → List Value → Prop) : Prop := match st with
  | .long y :: .long x :: r => f x y r
  | _ => False
def p_r (st : List Value) (f : Nat → List Value → Prop) : Prop := match st with
  | .ref a :: r => f a r
  | _ => False
def p_ir (st : List Value) (f : Nat → Int32 → List Value → Prop) : Prop := match st with
  | .int i :: .ref a :: r => f a i r
  | _ => False
def p_iir (st : List Value) (f : Nat → Int32 → Int32 → List Value → Prop) : Prop := match st with
  | .int x :: .int i :: .ref a :: r => f a i x r
  | _ => False
def p_lir (st : List Value) (f : Nat → Int32 → Int64 → List Value → Prop) : Prop := match st with
  | .long x :: .int i :: .ref a :: r => f a i x r
  | _ => False
def p_rir (st : List Value) (f : Nat → Int32 → Nat → List Value → Prop) : Prop := match st with
  | .ref x :: .int i :: .ref a :: r => f a i x r
  | _ => False
def p_lr (st : List Value) (f : Nat → Int64 → List Value → Prop) : Prop := match st with
  | .long x :: .ref a :: r => f a x r
  | _ => False
def p_rr (st : List Value) (f : Nat → Nat → List Value → Prop) : Prop := match st with
  | .ref x :: .ref a :: r => f a x r
  | _ => False
def p_v (st : List Value) (f : Value → List Value → Prop) : Prop := match st with
  | v :: r => f v r
  | _ => False
def p_vv (st : List Value) (f : Value → Value → List Value → Prop) : Prop := match st with
  | v :: w :: r => f v w r
  | _ => False
def p_cp (st : List Value) (f : Nat → Int32 → Nat → Int32 → Int32 → List Value → Prop) : Prop := match st with
  | .int n :: .int dp :: .ref a1 :: .int sp :: .ref a0 :: r => f a0 sp a1 dp n r
  | _ => False
def l_i (v : Option Value) (f : Int32 → Prop) : Prop := match v with
  | some (.int x) => f x
  | _ => False
def l_l (v : Option Value) (f : Int64 → Prop) : Prop := match v with
  | some (.long x) => f x
  | _ => False
def l_r (v : Option Value) (f : Nat → Prop) : Prop := match v with
  | some (.ref x) => f x
  | _ => False
/-- a branch -/
def br (c : Prop) (x y : Prop) : Prop := (c → x) ∧ (¬ c → y)
def tg (pc : Nat) (off : Int) : Nat := ((pc : Int) + off).toNat
def icd (cd : ClassFile.Cond) (x y : Int32) : Prop := match cd with
  | .eq => x = y
  | .ne => ¬ x = y
  | .lt => x < y
  | .ge => y ≤ x
  | .gt => y < x
  | .le => x ≤ y
def swo (dflt lo : Int) (offs : List Int) (x : Int32) : Int := if x.toInt < lo then dflt else (offs[(x.toInt - lo).toNat]?).getD dflt
/-- a row of a method's code: its place, the instruction, what its pool entry means -/
abbrev AC : Type := List (Nat × Instr × Nat × Nat × Int)
def catsum (st : List Value) : Nat := (st.map fun v => v.category).sum
/-- how a call's answer goes on the stack -/
def psh (v : Option Value) (st : List Value) : List Value := v.toList ++ st
def argc (n : Nat) (st : List Value) : List Value := (st.take n).reverse
/-- how many fields a class has -/
def nfl : List Nat := [6, 5, 3, 2, 4, 5, 5, 3, 9, 6, 17, 53]
def nf (ci : Nat) : Nat := nfl.getD ci 0
/-- the receiver of a call, by its kind: 0 of a class, 2 and 4 a constructor's, 5 a text's -/
def rcv (r2 ci : Nat) (as : List Value) (h : aH) : Prop := match r2 with
  | 0 => ∃ b rs, as = .ref b :: rs ∧ h.1[b]? = some (100 + ci, nf ci)
  | 2 => ∃ b rs, as = .ref b :: rs
  | 4 => ∃ b rs, as = .ref b :: rs
  | 5 => ∃ b rs, as = .ref (1000000 + b) :: rs ∧ b < 6
  | _ => True
/-- the calls: r1 the method (or what is built in), r2 the kind, r3 how many arguments -/
def s_call (CL : CT) (K : KT) (r1 r2 : Nat) (r3 : Int) (pc : Nat) (ls : List (Nat × Value)) (st : List Value) (h : aH) (bc bs : Nat) : Prop :=
  match r2 with
  | 10 => p_ii st fun x y r => catsum r ≤ 8 ∧ K (pc + 3) ls (.int (if x < y then y else x) :: r) h bc bs
  | 11 => p_ii st fun x y r => catsum r ≤ 8 ∧ K (pc + 3) ls (.int (if y < x then y else x) :: r) h bc bs
  | 12 => p_i st fun x r => catsum r ≤ 8 ∧ K (pc + 3) ls (.int (if 0 ≤ x then x else 0 - x) :: r) h bc bs
  | 13 => p_cp st fun a0 sp a1 dp n r => catsum r ≤ 8 ∧ (∃ n0 n1, h.1[a0]? = some (0, n0) ∧ h.1[a1]? = some (0, n1) ∧ ¬ sp < 0 ∧ ¬ dp < 0 ∧ ¬ n < 0 ∧ sp.toNatClampNeg + n.toNatClampNeg ≤ n0 ∧ dp.toNatClampNeg + n.toNatClampNeg ≤ n1) ∧
      K (pc + 3) ls r (sC h a0 sp.toNatClampNeg a1 dp.toNatClampNeg n.toNatClampNeg) bc bs
  | 14 => p_r st fun _ r => catsum r ≤ 8 ∧ K (pc + 3) ls r h bc bs
  | _ => catsum (st.drop (r3 % 100).toNat) ≤ 8 ∧ (r3 % 100).toNat ≤ st.length ∧ rcv r2 (r3 / 100).toNat (argc (r3 % 100).toNat st) h ∧ ∃ mc ms, mc ≤ bc ∧ ms ≤ bs ∧ (mc = 0 ∨ ((ls.all fun q => okv h q.2) = true ∧ ((st.drop (r3 % 100).toNat).all fun v => okv h v) = true)) ∧
      CL r1 (argc (r3 % 100).toNat st) h mc ms (fun v h' => K (pc + 3) ls (psh v (st.drop (r3 % 100).toNat)) h' (bc - mc) (bs - ms))
def stp (CL : CT) (ret : Option FieldType) (Q : QT) (K : KT) (i : Instr) (r1 r2 : Nat) (r3 : Int) (pc : Nat) (ls : List (Nat × Value)) (st : List Value) (h : aH) (bc bs : Nat) : Prop :=
  match i with
  | .iconst n => K (pc + 1) ls (.int (Int32.ofInt n) :: st) h bc bs
  | .bipush n => K (pc + 2) ls (.int (Int8.ofInt n).toInt32 :: st) h bc bs
  | .sipush n => K (pc + 3) ls (.int (Int16.ofInt n).toInt32 :: st) h bc bs
  | .lconst n => K (pc + 1) ls (.long (Int64.ofNat (n : Nat)) :: st) h bc bs
  | .ldc _ => match r1 with
    | 0 => K (pc + 2) ls (.int (Int32.ofInt r3) :: st) h bc bs
    | _ => K (pc + 2) ls (.ref (1000000 + r2) :: st) h bc bs
  | .ldc_w _ => match r1 with
    | 0 => K (pc + 3) ls (.int (Int32.ofInt r3) :: st) h bc bs
    | _ => K (pc + 3) ls (.ref (1000000 + r2) :: st) h bc bs
  | .ldc2_w _ => K (pc + 3) ls (.long (Int64.ofInt r3) :: st) h bc bs
  | .iload_n k => l_i (lk ls (k : Nat)) fun x => K (pc + 1) ls (.int x :: st) h bc bs
  | .iload k => l_i (lk ls k) fun x => K (pc + 2) ls (.int x :: st) h bc bs
  | .lload_n k => l_l (lk ls (k : Nat)) fun x => K (pc + 1) ls (.long x :: st) h bc bs
  | .lload k => l_l (lk ls k) fun x => K (pc + 2) ls (.long x :: st) h bc bs
  | .aload_n k => l_r (lk ls (k : Nat)) fun x => K (pc + 1) ls (.ref x :: st) h bc bs
  | .aload k => l_r (lk ls k) fun x => K (pc + 2) ls (.ref x :: st) h bc bs
  | .istore_n k => p_i st fun x r => K (pc + 1) (so1 ls (k : Nat) (.int x)) r h bc bs
  | .istore k => p_i st fun x r => K (pc + 2) (so1 ls k (.int x)) r h bc bs
  | .lstore_n k => p_l st fun x r => K (pc + 1) (so2 ls (k : Nat) (.long x)) r h bc bs
  | .lstore k => p_l st fun x r => K (pc + 2) (so2 ls k (.long x)) r h bc bs
  | .astore_n k => p_r st fun x r => K (pc + 1) (so1 ls (k : Nat) (.ref x)) r h bc bs
  | .astore k => p_r st fun x r => K (pc + 2) (so1 ls k (.ref x)) r h bc bs
  | .iinc k n => l_i (lk ls k) fun x => K (pc + 3) (so1 ls k (.int (x + Int32.ofInt n))) st h bc bs
  | .iadd => p_ii st fun x y r => K (pc + 1) ls (.int (x + y) :: r) h bc bs
  | .isub => p_ii st fun x y r => K (pc + 1) ls (.int (x - y) :: r) h bc bs
  | .imul => p_ii st fun x y r => K (pc + 1) ls (.int (x * y) :: r) h bc bs
  | .idiv => p_ii st fun x y r => ¬ y = 0 ∧ K (pc + 1) ls (.int (x / y) :: r) h bc bs
  | .irem => p_ii st fun x y r => ¬ y = 0 ∧ K (pc + 1) ls (.int (x - x / y * y) :: r) h bc bs
  | .ineg => p_i st fun x r => K (pc + 1) ls (.int (-x) :: r) h bc bs
  | .iand => p_ii st fun x y r => K (pc + 1) ls (.int (x &&& y) :: r) h bc bs
  | .ior => p_ii st fun x y r => K (pc + 1) ls (.int (x ||| y) :: r) h bc bs
  | .ixor => p_ii st fun x y r => K (pc + 1) ls (.int (x ^^^ y) :: r) h bc bs
  | .ishl => p_ii st fun x y r => K (pc + 1) ls (.int (x <<< (y &&& 31)) :: r) h bc bs
  | .ishr => p_ii st fun x y r => K (pc + 1) ls (.int (x >>> (y &&& 31)) :: r) h bc bs
  | .iushr => p_ii st fun x y r => K (pc + 1) ls (.int (x.toUInt32 >>> (y.toUInt32 &&& Int32.toUInt32 31)).toInt32 :: r) h bc bs
  | .ladd => p_ll st fun x y r => K (pc + 1) ls (.long (x + y) :: r) h bc bs
  | .lsub => p_ll st fun x y r => K (pc + 1) ls (.long (x - y) :: r) h bc bs
  | .lmul => p_ll st fun x y r => K (pc + 1) ls (.long (x * y) :: r) h bc bs
  | .ldiv => p_ll st fun x y r => ¬ y = 0 ∧ K (pc + 1) ls (.long (x / y) :: r) h bc bs
  | .lrem => p_ll st fun x y r => ¬ y = 0 ∧ K (pc + 1) ls (.long (x - x / y * y) :: r) h bc bs
  | .lcmp => p_ll st fun x y r => K (pc + 1) ls (.int (lg_cmp x y) :: r) h bc bs
  | .i2l => p_i st fun x r => K (pc + 1) ls (.long x.toInt64 :: r) h bc bs
  | .l2i => p_l st fun x r => K (pc + 1) ls (.int x.toInt32 :: r) h bc bs
  | .i2b => p_i st fun x r => K (pc + 1) ls (.int x.toInt8.toInt32 :: r) h bc bs
  | .i2s => p_i st fun x r => K (pc + 1) ls (.int x.toInt16.toInt32 :: r) h bc bs
  | .i2c => p_i st fun x r => K (pc + 1) ls (.int (x.toUInt32 % 65536).toInt32 :: r) h bc bs
  | .dup => p_v st fun v r => v.category = 1 ∧ K (pc + 1) ls (v :: v :: r) h bc bs
  | .pop => p_v st fun v r => v.category = 1 ∧ K (pc + 1) ls r h bc bs
  | .dup2 => p_vv st fun v w r => v.category = 1 ∧ w.category = 1 ∧ K (pc + 1) ls (v :: w :: v :: w :: r) h bc bs
  | .ifCond cd off => p_i st fun x r => br (icd cd x 0) (K (tg pc off) ls r h bc bs) (K (pc + 3) ls r h bc bs)
  | .if_icmp cd off => p_ii st fun x y r => br (icd cd x y) (K (tg pc off) ls r h bc bs) (K (pc + 3) ls r h bc bs)
  | .goto off => K (tg pc off) ls st h bc bs
  | .tableswitch dflt lo _ offs => p_i st fun x r => K (tg pc (swo dflt lo offs.toList x)) ls r h bc bs
  | .lookupswitch dflt ps => p_i st fun x r => K (tg pc (Op.lookupswitch.offset ps.toList dflt x.toInt)) ls r h bc bs
  | .getfield _ => p_r st fun a r => h.1[a]? = some (100 + r1, nf r1) ∧ K (pc + 3) ls (fv h a r2 r3.toNat :: r) h bc bs
  | .putfield _ => match r3 with
    | 0 => p_ir st fun a x r => h.1[a]? = some (100 + r1, nf r1) ∧ K (pc + 3) ls r (sI h a r2 x) bc bs
    | 3 => p_ir st fun a x r => h.1[a]? = some (100 + r1, nf r1) ∧ (x = 0 ∨ x = 1) ∧ K (pc + 3) ls r (sI h a r2 x) bc bs
    | 1 => p_lr st fun a x r => h.1[a]? = some (100 + r1, nf r1) ∧ K (pc + 3) ls r (sJ h a r2 x) bc bs
    | _ => p_rr st fun a x r => h.1[a]? = some (100 + r1, nf r1) ∧ x < h.1.length ∧ K (pc + 3) ls r (sR h a r2 (some x)) bc bs
  | .iaload => p_ir st fun a x r => (∃ n, h.1[a]? = some (0, n) ∧ vp_in x n) ∧ K (pc + 1) ls (.int (aI h a x.toNatClampNeg) :: r) h bc bs
  | .caload => p_ir st fun a x r => (∃ n, h.1[a]? = some (2, n) ∧ vp_in x n) ∧ K (pc + 1) ls (.int (aI h a x.toNatClampNeg) :: r) h bc bs
  | .baload => p_ir st fun a x r => (∃ n, h.1[a]? = some (3, n) ∧ vp_in x n) ∧ K (pc + 1) ls (.int (aI h a x.toNatClampNeg) :: r) h bc bs
  | .laload => p_ir st fun a x r => (∃ n, h.1[a]? = some (1, n) ∧ vp_in x n) ∧ K (pc + 1) ls (.long (aJ h a x.toNatClampNeg) :: r) h bc bs
  | .aaload => p_ir st fun a x r => (∃ t n, h.1[a]? = some (t, n) ∧ 4 ≤ t ∧ t ≤ 6 ∧ vp_in x n) ∧ K (pc + 1) ls (va_rf (aR h a x.toNatClampNeg) :: r) h bc bs
  | .iastore => p_iir st fun a x v r => (∃ n, h.1[a]? = some (0, n) ∧ vp_in x n) ∧ K (pc + 1) ls r (sI h a x.toNatClampNeg v) bc bs
  | .castore => p_iir st fun a x v r => (∃ n, h.1[a]? = some (2, n) ∧ vp_in x n) ∧ K (pc + 1) ls r (sI h a x.toNatClampNeg (vp_nar .char v)) bc bs
  | .bastore => p_iir st fun a x v r => (∃ n, h.1[a]? = some (3, n) ∧ vp_in x n) ∧ K (pc + 1) ls r (sI h a x.toNatClampNeg (vp_nar .boolean v)) bc bs
  | .lastore => p_lir st fun a x v r => (∃ n, h.1[a]? = some (1, n) ∧ vp_in x n) ∧ K (pc + 1) ls r (sJ h a x.toNatClampNeg v) bc bs
  | .aastore => p_rir st fun a x v r => (∃ n, h.1[a]? = some (4, n) ∧ vp_in x n) ∧ h.1[v]? = some (108, nf 8) ∧ K (pc + 1) ls r (sR h a x.toNatClampNeg (some v)) bc bs
  | .arraylength => p_r st fun a r => ∃ t n, h.1[a]? = some (t, n) ∧ t < 7 ∧ K (pc + 1) ls (.int (Int32.ofNat n) :: r) h bc bs
  | .new _ => h.1.length < 5000 ∧ 1 ≤ bc ∧ nf r1 ≤ bs ∧ r1 < 12 ∧ (ls.all fun q => okv h q.2) = true ∧ (st.all fun v => okv h v) = true ∧ K (pc + 3) ls (.ref h.1.length :: st) (nO h (100 + r1, nf r1)) (bc - 1) (bs - nf r1)
  | .newarray _ => p_i st fun x r => h.1.length < 5000 ∧ ¬ x < 0 ∧ x.toNatClampNeg ≤ 100000 ∧ 1 ≤ bc ∧ x.toNatClampNeg ≤ bs ∧ (ls.all fun q => okv h q.2) = true ∧ (r.all fun v => okv h v) = true ∧ K (pc + 2) ls (.ref h.1.length :: r) (nO h (r1, x.toNatClampNeg)) (bc - 1) (bs - x.toNatClampNeg)
  | .anewarray _ => p_i st fun x r => h.1.length < 5000 ∧ ¬ x < 0 ∧ x.toNatClampNeg ≤ 100000 ∧ 1 ≤ bc ∧ x.toNatClampNeg ≤ bs ∧ (ls.all fun q => okv h q.2) = true ∧ (r.all fun v => okv h v) = true ∧ K (pc + 3) ls (.ref h.1.length :: r) (nO h (4, x.toNatClampNeg)) (bc - 1) (bs - x.toNatClampNeg)
  | .multianewarray _ _ => p_ii st fun x y r => h.1.length < 5000 ∧ ¬ x < 0 ∧ ¬ y < 0 ∧ x.toNatClampNeg ≤ 1000 ∧ y.toNatClampNeg ≤ 1000 ∧ 1 + x.toNatClampNeg ≤ bc ∧ x.toNatClampNeg + x.toNatClampNeg * y.toNatClampNeg ≤ bs ∧ (ls.all fun q => okv h q.2) = true ∧ (r.all fun v => okv h v) = true ∧
      K (pc + 4) ls (.ref h.1.length :: r) (nM h r1 (r1 - 5) x.toNatClampNeg y.toNatClampNeg) (bc - (1 + x.toNatClampNeg)) (bs - (x.toNatClampNeg + x.toNatClampNeg * y.toNatClampNeg))
  | .invokevirtual _ => s_call CL K r1 r2 r3 pc ls st h bc bs
  | .invokespecial _ => s_call CL K r1 r2 r3 pc ls st h bc bs
  | .invokestatic _ => s_call CL K r1 r2 r3 pc ls st h bc bs
  | .ireturn => p_i st fun x r => r = [] ∧ (∃ ty, ret = some ty ∧ narrow ty (.int x) = .int x) ∧ Q (some (.int x)) h
  | .lreturn => p_l st fun x r => r = [] ∧ ret = some .long ∧ Q (some (.long x)) h
  | .return_ => st = [] ∧ ret = none ∧ Q none h
  | _ => False
/-- a method of the tables: its name, bytes, locals, answer's type, code, class, arguments with the receiver -/
abbrev MI : Type := MethodName × ByteArray × Nat × Option FieldType × AC × Nat × Nat
