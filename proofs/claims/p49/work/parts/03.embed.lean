section
/-! ABSTRACT HEAPS, and a fuel-bounded weakest precondition over decoded instructions -/
/-- shapes (k < 100: an array of type k and its length; k ≥ 100: an object of class k - 100 and how many fields), ints, longs, references -/
noncomputable abbrev aH : Type := List (Nat × Nat) × (Nat → Nat → Int32) × (Nat → Nat → Int64) × (Nat → Nat → Option Nat)
noncomputable def aI (h : aH) : Nat → Nat → Int32 := h.2.1
noncomputable def aJ (h : aH) : Nat → Nat → Int64 := h.2.2.1
noncomputable def aR (h : aH) : Nat → Nat → Option Nat := h.2.2.2
noncomputable def a_up {α : Type} (f : Nat → α) (k : Nat) (v : α) : Nat → α := fun j => if j = k then v else f j
noncomputable def sI (h : aH) (a k : Nat) (v : Int32) : aH := (h.1, a_up h.2.1 a (upd (h.2.1 a) k v), h.2.2.1, h.2.2.2)
noncomputable def sJ (h : aH) (a k : Nat) (v : Int64) : aH := (h.1, h.2.1, a_up h.2.2.1 a (vp_updL (h.2.2.1 a) k v), h.2.2.2)
noncomputable def sR (h : aH) (a k : Nat) (v : Option Nat) : aH := (h.1, h.2.1, h.2.2.1, a_up h.2.2.2 a (va_up (h.2.2.2 a) k v))
noncomputable def sC (h : aH) (a0 sp a1 dp n : Nat) : aH := (h.1, a_up h.2.1 a1 (va_cpy (h.2.1 a0) (h.2.1 a1) sp dp n), h.2.2.1, h.2.2.2)
/-- one cell more -/
noncomputable def nO (h : aH) (s : Nat × Nat) : aH := (h.1 ++ [s], a_up h.2.1 h.1.length (fun _ => 0), a_up h.2.2.1 h.1.length (fun _ => 0), a_up h.2.2.2 h.1.length (fun _ => none))
/-- new T[n][m]: the outer array, then its rows -/
noncomputable def nOs (h : aH) (s : Nat × Nat) : Nat → aH
  | 0 => h
  | i + 1 => nO (nOs h s i) s
noncomputable def nM (h : aH) (t0 t1 n m : Nat) : aH :=
  let g := nOs (nO h (t0, n)) (t1, m) n
  (g.1, g.2.1, g.2.2.1, a_up g.2.2.2 h.1.length (fun i => if i < n then some (h.1.length + 1 + i) else none))
noncomputable def cv (ad : Nat → Nat) (v : Value) : Value := match v with
  | .ref a => .ref (ad a)
  | v => v
/-- a value that names a cell that is there -/
noncomputable def okv (h : aH) (v : Value) : Bool := match v with
  | .ref a => decide (a < h.1.length) || decide (1000000 ≤ a)
  | _ => true
noncomputable def lk (ls : List (Nat × Value)) (i : Nat) : Option Value := match ls with
  | [] => none
  | q :: r => if q.1 = i then some q.2 else lk r i
noncomputable def so1 (ls : List (Nat × Value)) (i : Nat) (v : Value) : List (Nat × Value) := (i, v) :: ls.filter (fun q => !(q.1 == i) && !(q.1 + 1 == i && q.2.category == 2))
noncomputable def so2 (ls : List (Nat × Value)) (i : Nat) (v : Value) : List (Nat × Value) := (i, v) :: ls.filter (fun q => !(q.1 == i) && (!(q.1 == i + 1) && !(q.1 + 1 == i && q.2.category == 2)))
/-- the kinds of the fields: 0 int, 1 long, 2 reference, 3 boolean -/
noncomputable def fv (h : aH) (a k t : Nat) : Value := match t with
  | 1 => .long (aJ h a k)
  | 2 => va_rf (aR h a k)
  | _ => .int (aI h a k)
noncomputable abbrev KT : Type := Nat → List (Nat × Value) → List Value → aH → Nat → Nat → Prop
noncomputable abbrev QT : Type := Option Value → aH → Prop
noncomputable abbrev CT : Type := Nat → List Value → aH → Nat → Nat → QT → Prop
noncomputable def p_i (st : List Value) (f : Int32 → List Value → Prop) : Prop := match st with
  | .int x :: r => f x r
  | _ => False
noncomputable def p_ii (st : List Value) (f : Int32 → Int32 → List Value → Prop) : Prop := match st with
  | .int y :: .int x :: r => f x y r
  | _ => False
noncomputable def p_l (st : List Value) (f : Int64 → List Value → Prop) : Prop := match st with
  | .long x :: r => f x r
  | _ => False
noncomputable def p_ll (st : List Value) (f : Int64 → Int64 → List Value → Prop) : Prop := match st with
  | .long y :: .long x :: r => f x y r
  | _ => False
noncomputable def p_r (st : List Value) (f : Nat → List Value → Prop) : Prop := match st with
  | .ref a :: r => f a r
  | _ => False
noncomputable def p_ir (st : List Value) (f : Nat → Int32 → List Value → Prop) : Prop := match st with
  | .int i :: .ref a :: r => f a i r
  | _ => False
noncomputable def p_iir (st : List Value) (f : Nat → Int32 → Int32 → List Value → Prop) : Prop := match st with
  | .int x :: .int i :: .ref a :: r => f a i x r
  | _ => False
noncomputable def p_lir (st : List Value) (f : Nat → Int32 → Int64 → List Value → Prop) : Prop := match st with
  | .long x :: .int i :: .ref a :: r => f a i x r
  | _ => False
noncomputable def p_rir (st : List Value) (f : Nat → Int32 → Nat → List Value → Prop) : Prop := match st with
  | .ref x :: .int i :: .ref a :: r => f a i x r
  | _ => False
noncomputable def p_lr (st : List Value) (f : Nat → Int64 → List Value → Prop) : Prop := match st with
  | .long x :: .ref a :: r => f a x r
  | _ => False
noncomputable def p_rr (st : List Value) (f : Nat → Nat → List Value → Prop) : Prop := match st with
  | .ref x :: .ref a :: r => f a x r
  | _ => False
noncomputable def p_v (st : List Value) (f : Value → List Value → Prop) : Prop := match st with
  | v :: r => f v r
  | _ => False
noncomputable def p_vv (st : List Value) (f : Value → Value → List Value → Prop) : Prop := match st with
  | v :: w :: r => f v w r
  | _ => False
noncomputable def p_cp (st : List Value) (f : Nat → Int32 → Nat → Int32 → Int32 → List Value → Prop) : Prop := match st with
  | .int n :: .int dp :: .ref a1 :: .int sp :: .ref a0 :: r => f a0 sp a1 dp n r
  | _ => False
noncomputable def l_i (v : Option Value) (f : Int32 → Prop) : Prop := match v with
  | some (.int x) => f x
  | _ => False
noncomputable def l_l (v : Option Value) (f : Int64 → Prop) : Prop := match v with
  | some (.long x) => f x
  | _ => False
noncomputable def l_r (v : Option Value) (f : Nat → Prop) : Prop := match v with
  | some (.ref x) => f x
  | _ => False
/-- a branch -/
noncomputable def br (c : Prop) (x y : Prop) : Prop := (c → x) ∧ (¬ c → y)
noncomputable def tg (pc : Nat) (off : Int) : Nat := ((pc : Int) + off).toNat
noncomputable def icd (cd : ClassFile.Cond) (x y : Int32) : Prop := match cd with
  | .eq => x = y
  | .ne => ¬ x = y
  | .lt => x < y
  | .ge => y ≤ x
  | .gt => y < x
  | .le => x ≤ y
noncomputable def swo (dflt lo : Int) (offs : List Int) (x : Int32) : Int := if x.toInt < lo then dflt else (offs[(x.toInt - lo).toNat]?).getD dflt
/-- a row of a method's code: its place, the instruction, what its pool entry means -/
noncomputable abbrev AC : Type := List (Nat × Instr × Nat × Nat × Int)
noncomputable def catsum (st : List Value) : Nat := (st.map fun v => v.category).sum
/-- how a call's answer goes on the stack -/
noncomputable def psh (v : Option Value) (st : List Value) : List Value := v.toList ++ st
noncomputable def argc (n : Nat) (st : List Value) : List Value := (st.take n).reverse
/-- how many fields a class has -/
noncomputable def nfl : List Nat := [6, 5, 3, 2, 4, 5, 5, 3, 9, 6, 17, 53]
noncomputable def nf (ci : Nat) : Nat := nfl.getD ci 0
/-- the receiver of a call, by its kind: 0 of a class, 2 and 4 a constructor's, 5 a text's -/
noncomputable def rcv (r2 ci : Nat) (as : List Value) (h : aH) : Prop := match r2 with
  | 0 => ∃ b rs, as = .ref b :: rs ∧ h.1[b]? = some (100 + ci, nf ci)
  | 2 => ∃ b rs, as = .ref b :: rs
  | 4 => ∃ b rs, as = .ref b :: rs
  | 5 => ∃ b rs, as = .ref (1000000 + b) :: rs ∧ b < 6
  | _ => True
/-- the calls: r1 the method (or what is built in), r2 the kind, r3 how many arguments -/
noncomputable def s_call (CL : CT) (K : KT) (r1 r2 : Nat) (r3 : Int) (pc : Nat) (ls : List (Nat × Value)) (st : List Value) (h : aH) (bc bs : Nat) : Prop :=
  match r2 with
  | 10 => p_ii st fun x y r => catsum r ≤ 8 ∧ K (pc + 3) ls (.int (if x < y then y else x) :: r) h bc bs
  | 11 => p_ii st fun x y r => catsum r ≤ 8 ∧ K (pc + 3) ls (.int (if y < x then y else x) :: r) h bc bs
  | 12 => p_i st fun x r => catsum r ≤ 8 ∧ K (pc + 3) ls (.int (if 0 ≤ x then x else 0 - x) :: r) h bc bs
  | 13 => p_cp st fun a0 sp a1 dp n r => catsum r ≤ 8 ∧ (∃ n0 n1, h.1[a0]? = some (0, n0) ∧ h.1[a1]? = some (0, n1) ∧ ¬ sp < 0 ∧ ¬ dp < 0 ∧ ¬ n < 0 ∧ sp.toNatClampNeg + n.toNatClampNeg ≤ n0 ∧ dp.toNatClampNeg + n.toNatClampNeg ≤ n1) ∧
      K (pc + 3) ls r (sC h a0 sp.toNatClampNeg a1 dp.toNatClampNeg n.toNatClampNeg) bc bs
  | 14 => p_r st fun _ r => catsum r ≤ 8 ∧ K (pc + 3) ls r h bc bs
  | _ => catsum (st.drop (r3 % 100).toNat) ≤ 8 ∧ (r3 % 100).toNat ≤ st.length ∧ rcv r2 (r3 / 100).toNat (argc (r3 % 100).toNat st) h ∧ ∃ mc ms, mc ≤ bc ∧ ms ≤ bs ∧ (mc = 0 ∨ ((ls.all fun q => okv h q.2) = true ∧ ((st.drop (r3 % 100).toNat).all fun v => okv h v) = true)) ∧
      CL r1 (argc (r3 % 100).toNat st) h mc ms (fun v h' => K (pc + 3) ls (psh v (st.drop (r3 % 100).toNat)) h' (bc - mc) (bs - ms))
noncomputable def stp (CL : CT) (ret : Option FieldType) (Q : QT) (K : KT) (i : Instr) (r1 r2 : Nat) (r3 : Int) (pc : Nat) (ls : List (Nat × Value)) (st : List Value) (h : aH) (bc bs : Nat) : Prop :=
  match i with
  | .iconst n => K (pc + 1) ls (.int (Int32.ofInt n) :: st) h bc bs
  | .bipush n => K (pc + 2) ls (.int (Int8.ofInt n).toInt32 :: st) h bc bs
  | .sipush n => K (pc + 3) ls (.int (Int16.ofInt n).toInt32 :: st) h bc bs
  | .lconst n => K (pc + 1) ls (.long (Int64.ofNat (n : Nat)) :: st) h bc bs
  | .ldc _ => match r1 with
    | 0 => K (pc + 2) ls (.int (Int32.ofInt r3) :: st) h bc bs
    | _ => K (pc + 2) ls (.ref (1000000 + r2) :: st) h bc bs
  | .ldc_w _ => match r1 with
    | 0 => K (pc + 3) ls (.int (Int32.ofInt r3) :: st) h bc bs
    | _ => K (pc + 3) ls (.ref (1000000 + r2) :: st) h bc bs
  | .ldc2_w _ => K (pc + 3) ls (.long (Int64.ofInt r3) :: st) h bc bs
  | .iload_n k => l_i (lk ls (k : Nat)) fun x => K (pc + 1) ls (.int x :: st) h bc bs
  | .iload k => l_i (lk ls k) fun x => K (pc + 2) ls (.int x :: st) h bc bs
  | .lload_n k => l_l (lk ls (k : Nat)) fun x => K (pc + 1) ls (.long x :: st) h bc bs
  | .lload k => l_l (lk ls k) fun x => K (pc + 2) ls (.long x :: st) h bc bs
  | .aload_n k => l_r (lk ls (k : Nat)) fun x => K (pc + 1) ls (.ref x :: st) h bc bs
  | .aload k => l_r (lk ls k) fun x => K (pc + 2) ls (.ref x :: st) h bc bs
  | .istore_n k => p_i st fun x r => K (pc + 1) (so1 ls (k : Nat) (.int x)) r h bc bs
  | .istore k => p_i st fun x r => K (pc + 2) (so1 ls k (.int x)) r h bc bs
  | .lstore_n k => p_l st fun x r => K (pc + 1) (so2 ls (k : Nat) (.long x)) r h bc bs
  | .lstore k => p_l st fun x r => K (pc + 2) (so2 ls k (.long x)) r h bc bs
  | .astore_n k => p_r st fun x r => K (pc + 1) (so1 ls (k : Nat) (.ref x)) r h bc bs
  | .astore k => p_r st fun x r => K (pc + 2) (so1 ls k (.ref x)) r h bc bs
  | .iinc k n => l_i (lk ls k) fun x => K (pc + 3) (so1 ls k (.int (x + Int32.ofInt n))) st h bc bs
  | .iadd => p_ii st fun x y r => K (pc + 1) ls (.int (x + y) :: r) h bc bs
  | .isub => p_ii st fun x y r => K (pc + 1) ls (.int (x - y) :: r) h bc bs
  | .imul => p_ii st fun x y r => K (pc + 1) ls (.int (x * y) :: r) h bc bs
  | .idiv => p_ii st fun x y r => ¬ y = 0 ∧ K (pc + 1) ls (.int (x / y) :: r) h bc bs
  | .irem => p_ii st fun x y r => ¬ y = 0 ∧ K (pc + 1) ls (.int (x - x / y * y) :: r) h bc bs
  | .ineg => p_i st fun x r => K (pc + 1) ls (.int (-x) :: r) h bc bs
  | .iand => p_ii st fun x y r => K (pc + 1) ls (.int (x &&& y) :: r) h bc bs
  | .ior => p_ii st fun x y r => K (pc + 1) ls (.int (x ||| y) :: r) h bc bs
  | .ixor => p_ii st fun x y r => K (pc + 1) ls (.int (x ^^^ y) :: r) h bc bs
  | .ishl => p_ii st fun x y r => K (pc + 1) ls (.int (x <<< (y &&& 31)) :: r) h bc bs
  | .ishr => p_ii st fun x y r => K (pc + 1) ls (.int (x >>> (y &&& 31)) :: r) h bc bs
  | .iushr => p_ii st fun x y r => K (pc + 1) ls (.int (x.toUInt32 >>> (y.toUInt32 &&& Int32.toUInt32 31)).toInt32 :: r) h bc bs
  | .ladd => p_ll st fun x y r => K (pc + 1) ls (.long (x + y) :: r) h bc bs
  | .lsub => p_ll st fun x y r => K (pc + 1) ls (.long (x - y) :: r) h bc bs
  | .lmul => p_ll st fun x y r => K (pc + 1) ls (.long (x * y) :: r) h bc bs
  | .ldiv => p_ll st fun x y r => ¬ y = 0 ∧ K (pc + 1) ls (.long (x / y) :: r) h bc bs
  | .lrem => p_ll st fun x y r => ¬ y = 0 ∧ K (pc + 1) ls (.long (x - x / y * y) :: r) h bc bs
  | .lcmp => p_ll st fun x y r => K (pc + 1) ls (.int (lg_cmp x y) :: r) h bc bs
  | .i2l => p_i st fun x r => K (pc + 1) ls (.long x.toInt64 :: r) h bc bs
  | .l2i => p_l st fun x r => K (pc + 1) ls (.int x.toInt32 :: r) h bc bs
  | .i2b => p_i st fun x r => K (pc + 1) ls (.int x.toInt8.toInt32 :: r) h bc bs
  | .i2s => p_i st fun x r => K (pc + 1) ls (.int x.toInt16.toInt32 :: r) h bc bs
  | .i2c => p_i st fun x r => K (pc + 1) ls (.int (x.toUInt32 % 65536).toInt32 :: r) h bc bs
  | .dup => p_v st fun v r => v.category = 1 ∧ K (pc + 1) ls (v :: v :: r) h bc bs
  | .pop => p_v st fun v r => v.category = 1 ∧ K (pc + 1) ls r h bc bs
  | .dup2 => p_vv st fun v w r => v.category = 1 ∧ w.category = 1 ∧ K (pc + 1) ls (v :: w :: v :: w :: r) h bc bs
  | .ifCond cd off => p_i st fun x r => br (icd cd x 0) (K (tg pc off) ls r h bc bs) (K (pc + 3) ls r h bc bs)
  | .if_icmp cd off => p_ii st fun x y r => br (icd cd x y) (K (tg pc off) ls r h bc bs) (K (pc + 3) ls r h bc bs)
  | .goto off => K (tg pc off) ls st h bc bs
  | .tableswitch dflt lo _ offs => p_i st fun x r => K (tg pc (swo dflt lo offs.toList x)) ls r h bc bs
  | .lookupswitch dflt ps => p_i st fun x r => K (tg pc (Op.lookupswitch.offset ps.toList dflt x.toInt)) ls r h bc bs
  | .getfield _ => p_r st fun a r => h.1[a]? = some (100 + r1, nf r1) ∧ K (pc + 3) ls (fv h a r2 r3.toNat :: r) h bc bs
  | .putfield _ => match r3 with
    | 0 => p_ir st fun a x r => h.1[a]? = some (100 + r1, nf r1) ∧ K (pc + 3) ls r (sI h a r2 x) bc bs
    | 3 => p_ir st fun a x r => h.1[a]? = some (100 + r1, nf r1) ∧ (x = 0 ∨ x = 1) ∧ K (pc + 3) ls r (sI h a r2 x) bc bs
    | 1 => p_lr st fun a x r => h.1[a]? = some (100 + r1, nf r1) ∧ K (pc + 3) ls r (sJ h a r2 x) bc bs
    | _ => p_rr st fun a x r => h.1[a]? = some (100 + r1, nf r1) ∧ x < h.1.length ∧ K (pc + 3) ls r (sR h a r2 (some x)) bc bs
  | .iaload => p_ir st fun a x r => (∃ n, h.1[a]? = some (0, n) ∧ vp_in x n) ∧ K (pc + 1) ls (.int (aI h a x.toNatClampNeg) :: r) h bc bs
  | .caload => p_ir st fun a x r => (∃ n, h.1[a]? = some (2, n) ∧ vp_in x n) ∧ K (pc + 1) ls (.int (aI h a x.toNatClampNeg) :: r) h bc bs
  | .baload => p_ir st fun a x r => (∃ n, h.1[a]? = some (3, n) ∧ vp_in x n) ∧ K (pc + 1) ls (.int (aI h a x.toNatClampNeg) :: r) h bc bs
  | .laload => p_ir st fun a x r => (∃ n, h.1[a]? = some (1, n) ∧ vp_in x n) ∧ K (pc + 1) ls (.long (aJ h a x.toNatClampNeg) :: r) h bc bs
  | .aaload => p_ir st fun a x r => (∃ t n, h.1[a]? = some (t, n) ∧ 4 ≤ t ∧ t ≤ 6 ∧ vp_in x n) ∧ K (pc + 1) ls (va_rf (aR h a x.toNatClampNeg) :: r) h bc bs
  | .iastore => p_iir st fun a x v r => (∃ n, h.1[a]? = some (0, n) ∧ vp_in x n) ∧ K (pc + 1) ls r (sI h a x.toNatClampNeg v) bc bs
  | .castore => p_iir st fun a x v r => (∃ n, h.1[a]? = some (2, n) ∧ vp_in x n) ∧ K (pc + 1) ls r (sI h a x.toNatClampNeg (vp_nar .char v)) bc bs
  | .bastore => p_iir st fun a x v r => (∃ n, h.1[a]? = some (3, n) ∧ vp_in x n) ∧ K (pc + 1) ls r (sI h a x.toNatClampNeg (vp_nar .boolean v)) bc bs
  | .lastore => p_lir st fun a x v r => (∃ n, h.1[a]? = some (1, n) ∧ vp_in x n) ∧ K (pc + 1) ls r (sJ h a x.toNatClampNeg v) bc bs
  | .aastore => p_rir st fun a x v r => (∃ n, h.1[a]? = some (4, n) ∧ vp_in x n) ∧ h.1[v]? = some (108, nf 8) ∧ K (pc + 1) ls r (sR h a x.toNatClampNeg (some v)) bc bs
  | .arraylength => p_r st fun a r => ∃ t n, h.1[a]? = some (t, n) ∧ t < 7 ∧ K (pc + 1) ls (.int (Int32.ofNat n) :: r) h bc bs
  | .new _ => h.1.length < 5000 ∧ 1 ≤ bc ∧ nf r1 ≤ bs ∧ r1 < 12 ∧ (ls.all fun q => okv h q.2) = true ∧ (st.all fun v => okv h v) = true ∧ K (pc + 3) ls (.ref h.1.length :: st) (nO h (100 + r1, nf r1)) (bc - 1) (bs - nf r1)
  | .newarray _ => p_i st fun x r => h.1.length < 5000 ∧ ¬ x < 0 ∧ x.toNatClampNeg ≤ 100000 ∧ 1 ≤ bc ∧ x.toNatClampNeg ≤ bs ∧ (ls.all fun q => okv h q.2) = true ∧ (r.all fun v => okv h v) = true ∧ K (pc + 2) ls (.ref h.1.length :: r) (nO h (r1, x.toNatClampNeg)) (bc - 1) (bs - x.toNatClampNeg)
  | .anewarray _ => p_i st fun x r => h.1.length < 5000 ∧ ¬ x < 0 ∧ x.toNatClampNeg ≤ 100000 ∧ 1 ≤ bc ∧ x.toNatClampNeg ≤ bs ∧ (ls.all fun q => okv h q.2) = true ∧ (r.all fun v => okv h v) = true ∧ K (pc + 3) ls (.ref h.1.length :: r) (nO h (4, x.toNatClampNeg)) (bc - 1) (bs - x.toNatClampNeg)
  | .multianewarray _ _ => p_ii st fun x y r => h.1.length < 5000 ∧ ¬ x < 0 ∧ ¬ y < 0 ∧ x.toNatClampNeg ≤ 1000 ∧ y.toNatClampNeg ≤ 1000 ∧ 1 + x.toNatClampNeg ≤ bc ∧ x.toNatClampNeg + x.toNatClampNeg * y.toNatClampNeg ≤ bs ∧ (ls.all fun q => okv h q.2) = true ∧ (r.all fun v => okv h v) = true ∧
      K (pc + 4) ls (.ref h.1.length :: r) (nM h r1 (r1 - 5) x.toNatClampNeg y.toNatClampNeg) (bc - (1 + x.toNatClampNeg)) (bs - (x.toNatClampNeg + x.toNatClampNeg * y.toNatClampNeg))
  | .invokevirtual _ => s_call CL K r1 r2 r3 pc ls st h bc bs
  | .invokespecial _ => s_call CL K r1 r2 r3 pc ls st h bc bs
  | .invokestatic _ => s_call CL K r1 r2 r3 pc ls st h bc bs
  | .ireturn => p_i st fun x r => r = [] ∧ (∃ ty, ret = some ty ∧ narrow ty (.int x) = .int x) ∧ Q (some (.int x)) h
  | .lreturn => p_l st fun x r => r = [] ∧ ret = some .long ∧ Q (some (.long x)) h
  | .return_ => st = [] ∧ ret = none ∧ Q none h
  | _ => False
/-- a method of the tables: its name, bytes, locals, answer's type, code, class, arguments with the receiver -/
noncomputable abbrev MI : Type := MethodName × ByteArray × Nat × Option FieldType × AC × Nat × Nat
end
section
/-! THE ABSTRACT HEAP AS A WORLD OF THE KIT -/
noncomputable def wv (ad : Nat → Nat) (h : aH) (a k t : Nat) : Value := match t with
  | 1 => .long (aJ h a k)
  | 2 => va_rf ((aR h a k).map ad)
  | _ => .int (aI h a k)
/-- the fields' kinds -/
noncomputable def fkt : List (List Nat) := [[2,2,2,2,2,3], [2,0,0,2,2], [0,2,2], [2,0], [2,0,2,0], [2,0,0,0,3], [0,0,0,2,2], [0,2,2], [0,0,0,0,0,2,2,2,2], [2,0,0,0,3,3], [2,2,2,2,2,2,2,2,2,0,2,2,2,2,2,2,2], [0,0,2,0,0,0,0,0,0,2,2,2,2,2,2,2,2,0,0,0,0,2,0,2,2,0,0,2,2,0,2,0,0,2,2,0,2,2,2,1,1,2,0,2,2,2,2,2,0,0,2,2,2]]
noncomputable def fkd (ci k : Nat) : Nat := (fkt.getD ci []).getD k 0
noncomputable def arc (ad : Nat → Nat) (h : aH) (i t : Nat) : ((Nat → Int32) ⊕ (Nat → Int64) ⊕ (Nat → UInt32) ⊕ (Nat → UInt64) ⊕ (Nat → Option Nat)) :=
  if t = 1 then .inr (.inl (aJ h i)) else if 4 ≤ t then .inr (.inr (.inr (.inr (fun k => (aR h i k).map ad)))) else .inl (aI h i)
noncomputable def enS (cy : Nat → ClassId) (ad : Nat → Nat) (h : aH) (i : Nat) (s : Nat × Nat) : va_E :=
  if s.1 < 100 then .inl (cy s.1, s.2, arc ad h i s.1) else .inr (s.1 - 100, (List.range s.2).map (fun k => wv ad h i k (fkd (s.1 - 100) k)))
noncomputable def wd (cy : Nat → ClassId) (ad : Nat → Nat) (h : aH) : va_W := (List.range h.1.length).map (fun i => (ad i, enS cy ad h i (h.1.getD i (0, 0))))
theorem wd_get {cy : Nat → ClassId} {ad : Nat → Nat} {h : aH} {i : Nat} {s : Nat × Nat} (hs : h.1[i]? = some s) : (wd cy ad h)[i]? = some (ad i, enS cy ad h i s) := by
  have hi : i < h.1.length := (List.getElem?_eq_some_iff.mp hs).1
  unfold wd
  rw [List.getElem?_map, List.getElem?_range hi]
  simp [List.getD_eq_getElem?_getD, hs]
theorem wd_len (cy : Nat → ClassId) (ad : Nat → Nat) (h : aH) : (wd cy ad h).length = h.1.length := by simp [wd]
/-- one entry anew -/
theorem wd_set {cy : Nat → ClassId} {ad : Nat → Nat} {h h' : aH} {a : Nat} {s : Nat × Nat} {e : va_E} (hs : h.1[a]? = some s) (h1 : h'.1 = h.1) (he : enS cy ad h' a s = e) (ho : ∀ i s', i ≠ a → enS cy ad h' i s' = enS cy ad h i s') :
    (wd cy ad h).set a (ad a, e) = wd cy ad h' := by
  have ha : a < h.1.length := (List.getElem?_eq_some_iff.mp hs).1
  apply List.ext_getElem?
  intro j
  by_cases hj : j < h.1.length
  · have hsj : h.1[j]? = some h.1[j] := List.getElem?_eq_getElem hj
    have hsj' : h'.1[j]? = some h.1[j] := by rw [h1]; exact hsj
    rw [wd_get hsj']
    by_cases e2 : a = j
    · subst e2
      rw [List.getElem?_set_self (by rw [wd_len]; exact ha)]
      have : h.1[a] = s := by rw [hsj] at hs; exact Option.some.inj hs
      rw [this, he]
    · rw [List.getElem?_set_ne e2, wd_get hsj, ho j _ (fun q => e2 q.symm)]
  · rw [List.getElem?_eq_none (by rw [List.length_set, wd_len]; omega), List.getElem?_eq_none (by rw [wd_len, h1]; omega)]
theorem up_s {α : Type} {f : Nat → α} {k : Nat} {v : α} : a_up f k v k = v := if_pos rfl
theorem up_n {α : Type} {f : Nat → α} {k j : Nat} {v : α} (h : j ≠ k) : a_up f k v j = f j := if_neg h
/-- entries depend on their own rows alone -/
theorem enS_congr {cy : Nat → ClassId} {ad : Nat → Nat} {h h' : aH} {i : Nat} {s : Nat × Nat} (hI : aI h' i = aI h i) (hJ : aJ h' i = aJ h i) (hR : aR h' i = aR h i) : enS cy ad h' i s = enS cy ad h i s := by
  unfold enS arc wv
  simp only [hI, hJ, hR]
/-- references are of cells that are there -/
noncomputable def RV (h : aH) : Prop := ∀ a k b, aR h a k = some b → b < h.1.length
theorem enS_ad {cy : Nat → ClassId} {ad ad' : Nat → Nat} {h : aH} {i : Nat} {s : Nat × Nat} (hv : RV h) (hd : ∀ j, j < h.1.length → ad' j = ad j) : enS cy ad' h i s = enS cy ad h i s := by
  have e : ∀ k, (aR h i k).map ad' = (aR h i k).map ad := fun k => by
    cases hk : aR h i k with
    | none => rfl
    | some b => simp [hd b (hv i k b hk)]
  unfold enS arc wv
  simp only [e]
theorem wd_ad {cy : Nat → ClassId} {ad ad' : Nat → Nat} {h : aH} (hv : RV h) (hd : ∀ j, j < h.1.length → ad' j = ad j) : wd cy ad' h = wd cy ad h := by
  unfold wd
  apply List.map_congr_left
  intro i hi
  rw [List.mem_range] at hi
  rw [hd i hi, enS_ad hv hd]
theorem nO_len (h : aH) (s : Nat × Nat) : (nO h s).1.length = h.1.length + 1 := by simp [nO]
theorem nO_RV {h : aH} {s : Nat × Nat} (hv : RV h) : RV (nO h s) := by
  intro a k b hb
  rw [nO_len]
  by_cases e : a = h.1.length
  · subst e
    simp [aR, nO, up_s] at hb
  · have : aR (nO h s) a k = aR h a k := by simp [aR, nO, up_n e]
    rw [this] at hb
    have := hv a k b hb
    omega
noncomputable def dfv (t : Nat) : Value := match t with
  | 1 => .long 0
  | 2 => .null
  | _ => .int 0
/-- what a new cell is -/
noncomputable def enN (cy : Nat → ClassId) (s : Nat × Nat) : va_E :=
  if s.1 < 100 then .inl (cy s.1, s.2, if s.1 = 1 then .inr (.inl (fun _ => 0)) else if 4 ≤ s.1 then .inr (.inr (.inr (.inr (fun _ => none)))) else .inl (fun _ => 0)) else .inr (s.1 - 100, (List.range s.2).map (fun k => dfv (fkd (s.1 - 100) k)))
theorem wd_nO {cy : Nat → ClassId} {ad : Nat → Nat} {h : aH} {s : Nat × Nat} (hv : RV h) (q : Nat) : wd cy (a_up ad h.1.length q) (nO h s) = wd cy ad h ++ [(q, enN cy s)] := by
  have hs : ∀ i, i < h.1.length → (nO h s).1.getD i (0, 0) = h.1.getD i (0, 0) := fun i hi => by
    simp [nO, List.getD_eq_getElem?_getD, List.getElem?_append_left hi]
  have e1 : wd cy (a_up ad h.1.length q) (nO h s) = (List.range (h.1.length + 1)).map (fun i => (a_up ad h.1.length q i, enS cy (a_up ad h.1.length q) (nO h s) i ((nO h s).1.getD i (0, 0)))) := by
    unfold wd
    rw [nO_len]
  rw [e1, List.range_succ, List.map_append]
  congr 1
  · unfold wd
    apply List.map_congr_left
    intro i hi
    rw [List.mem_range] at hi
    rw [hs i hi, up_n (Nat.ne_of_lt hi), enS_congr (h := h), enS_ad hv]
    · intro j hj
      exact up_n (Nat.ne_of_lt hj)
    · simp [aI, nO, up_n (Nat.ne_of_lt hi)]
    · simp [aJ, nO, up_n (Nat.ne_of_lt hi)]
    · simp [aR, nO, up_n (Nat.ne_of_lt hi)]
  · have hg : (nO h s).1.getD h.1.length (0, 0) = s := by simp [nO, List.getD_eq_getElem?_getD]
    simp only [List.map_cons, List.map_nil, hg, up_s]
    have eI : aI (nO h s) h.1.length = fun _ => 0 := by simp [aI, nO, up_s]
    have eJ : aJ (nO h s) h.1.length = fun _ => 0 := by simp [aJ, nO, up_s]
    have eR : aR (nO h s) h.1.length = fun _ => none := by simp [aR, nO, up_s]
    congr 2
    unfold enS enN arc wv
    simp only [eI, eJ, eR, Option.map_none, va_rf]
    rfl
theorem wv_cv (ad : Nat → Nat) (h : aH) (a k t : Nat) : wv ad h a k t = cv ad (fv h a k t) := by
  unfold wv fv
  match t with
  | 0 => rfl
  | 1 => rfl
  | 2 => show va_rf _ = cv ad (va_rf _); cases aR h a k <;> rfl
  | t + 3 => rfl
theorem cv_rf (ad : Nat → Nat) (r : Option Nat) : cv ad (va_rf r) = va_rf (r.map ad) := by cases r <;> rfl
theorem cv_cat (ad : Nat → Nat) (v : Value) : (cv ad v).category = v.category := by cases v <;> rfl
theorem cv_ok {ad ad' : Nat → Nat} {h : aH} {v : Value} (hv : okv h v = true) (hd : ∀ j, j < h.1.length ∨ 1000000 ≤ j → ad' j = ad j) : cv ad' v = cv ad v := by
  cases v with
  | ref a =>
    simp only [okv, Bool.or_eq_true, decide_eq_true_eq] at hv
    exact congrArg Value.ref (hd a hv)
  | _ => rfl
theorem cvs_ok {ad ad' : Nat → Nat} {h : aH} {st : List Value} (hv : (st.all fun v => okv h v) = true) (hd : ∀ j, j < h.1.length ∨ 1000000 ≤ j → ad' j = ad j) : st.map (cv ad') = st.map (cv ad) :=
  List.map_congr_left fun v h9 => cv_ok (List.all_eq_true.mp hv v h9) hd
noncomputable def cvl (ad : Nat → Nat) (ls : List (Nat × Value)) : List (Nat × Value) := ls.map fun q => (q.1, cv ad q.2)
theorem cvl_ok {ad ad' : Nat → Nat} {h : aH} {ls : List (Nat × Value)} (hv : (ls.all fun q => okv h q.2) = true) (hd : ∀ j, j < h.1.length ∨ 1000000 ≤ j → ad' j = ad j) : cvl ad' ls = cvl ad ls :=
  List.map_congr_left fun q h9 => by rw [cv_ok (List.all_eq_true.mp hv q h9) hd]
theorem cvl_filter (ad : Nat → Nat) (f : Nat → Nat → Bool) (ls : List (Nat × Value)) : (cvl ad ls).filter (fun q => f q.1 q.2.category) = cvl ad (ls.filter (fun q => f q.1 q.2.category)) := by
  unfold cvl
  rw [List.filter_map]
  congr 1
  apply List.filter_congr
  intro q _
  simp [cv_cat]
theorem cvl_so1 (ad : Nat → Nat) (ls : List (Nat × Value)) (i : Nat) (v : Value) : (i, cv ad v) :: (cvl ad ls).filter (fun q => !(q.1 == i) && !(q.1 + 1 == i && q.2.category == 2)) = cvl ad (so1 ls i v) :=
  congrArg (fun l => (i, cv ad v) :: l) (cvl_filter ad (fun a b => !(a == i) && !(a + 1 == i && b == 2)) ls)
theorem cvl_so2 (ad : Nat → Nat) (ls : List (Nat × Value)) (i : Nat) (v : Value) : (i, cv ad v) :: (cvl ad ls).filter (fun q => !(q.1 == i) && (!(q.1 == i + 1) && !(q.1 + 1 == i && q.2.category == 2))) = cvl ad (so2 ls i v) :=
  congrArg (fun l => (i, cv ad v) :: l) (cvl_filter ad (fun a b => !(a == i) && (!(a == i + 1) && !(a + 1 == i && b == 2))) ls)
theorem lk_at {ad : Nat → Nat} : ∀ {ls : List (Nat × Value)} {i : Nat} {v : Value}, lk ls i = some v → ∃ k : Nat, (cvl ad ls)[k]? = some (i, cv ad v) := by
  intro ls
  induction ls with
  | nil => intro i v h; cases h
  | cons q r ih =>
    intro i v h
    unfold lk at h
    by_cases e : q.1 = i
    · rw [if_pos e] at h
      cases h
      exact ⟨0, by simp [cvl, ← e]⟩
    · rw [if_neg e] at h
      obtain ⟨k, hk⟩ := ih h
      exact ⟨k + 1, by simpa [cvl] using hk⟩
theorem catsum_cv (ad : Nat → Nat) (st : List Value) : catsum (st.map (cv ad)) = catsum st := by
  unfold catsum
  rw [List.map_map]
  congr 1
  apply List.map_congr_left
  intro v _
  exact cv_cat ad v
end
section
/-! ONE STEP OF THE RUN IS THE MACHINE'S -/
noncomputable def GW : List Jvm.Cond := lw_tbl.filter goodWord
noncomputable def fty (t : Nat) : FieldType := match t with
  | 0 => .int
  | 1 => .long
  | 2 => .char
  | 3 => .boolean
  | 4 => .object RX8
  | 5 => .array .int
  | 6 => .array .long
  | _ => .int
noncomputable def tysF (cy : Nat → ClassId) : List (ClassId × FieldType) := [(cy 0, .int), (cy 1, .long), (cy 2, .char), (cy 3, .boolean), (cy 4, .object RX8), (cy 5, .array .int), (cy 6, .array .long)]
theorem tys_at (cy : Nat → ClassId) {t : Nat} (h : t < 7) : (tysF cy)[t]? = some (cy t, fty t) := by
  rcases (show t = 0 ∨ t = 1 ∨ t = 2 ∨ t = 3 ∨ t = 4 ∨ t = 5 ∨ t = 6 by omega) with rfl | rfl | rfl | rfl | rfl | rfl | rfl <;> rfl
noncomputable def Std (cy : Nat → ClassId) (dC : Nat → ClassId) (dI : Nat → Nat → Nat) (A : Nat → Prop) (H0 : Heap) (ad : Nat → Nat) (h : aH) (H : Heap) (locs : List Loc) : Prop :=
  va_P (dC, dI) vwCl (wd cy ad h) H ∧ va_D A (wd cy ad h) ∧ va_S A H0 H locs ∧ RV h
theorem pi_inv {st : List Value} {f : Int32 → List Value → Prop} (h : p_i st f) : ∃ x r, st = .int x :: r ∧ f x r := by
  unfold p_i at h; split at h; exact ⟨_, _, rfl, h⟩; exact h.elim
theorem pii_inv {st : List Value} {f : Int32 → Int32 → List Value → Prop} (h : p_ii st f) : ∃ x y r, st = .int y :: .int x :: r ∧ f x y r := by
  unfold p_ii at h; split at h; exact ⟨_, _, _, rfl, h⟩; exact h.elim
theorem pl_inv {st : List Value} {f : Int64 → List Value → Prop} (h : p_l st f) : ∃ x r, st = .long x :: r ∧ f x r := by
  unfold p_l at h; split at h; exact ⟨_, _, rfl, h⟩; exact h.elim
theorem pll_inv {st : List Value} {f : Int64 → Int64 → List Value → Prop} (h : p_ll st f) : ∃ x y r, st = .long y :: .long x :: r ∧ f x y r := by
  unfold p_ll at h; split at h; exact ⟨_, _, _, rfl, h⟩; exact h.elim
theorem pr_inv {st : List Value} {f : Nat → List Value → Prop} (h : p_r st f) : ∃ x r, st = .ref x :: r ∧ f x r := by
  unfold p_r at h; split at h; exact ⟨_, _, rfl, h⟩; exact h.elim
theorem pir_inv {st : List Value} {f : Nat → Int32 → List Value → Prop} (h : p_ir st f) : ∃ a x r, st = .int x :: .ref a :: r ∧ f a x r := by
  unfold p_ir at h; split at h; exact ⟨_, _, _, rfl, h⟩; exact h.elim
theorem piir_inv {st : List Value} {f : Nat → Int32 → Int32 → List Value → Prop} (h : p_iir st f) : ∃ a i x r, st = .int x :: .int i :: .ref a :: r ∧ f a i x r := by
  unfold p_iir at h; split at h; exact ⟨_, _, _, _, rfl, h⟩; exact h.elim
theorem plir_inv {st : List Value} {f : Nat → Int32 → Int64 → List Value → Prop} (h : p_lir st f) : ∃ a i x r, st = .long x :: .int i :: .ref a :: r ∧ f a i x r := by
  unfold p_lir at h; split at h; exact ⟨_, _, _, _, rfl, h⟩; exact h.elim
theorem prir_inv {st : List Value} {f : Nat → Int32 → Nat → List Value → Prop} (h : p_rir st f) : ∃ a i x r, st = .ref x :: .int i :: .ref a :: r ∧ f a i x r := by
  unfold p_rir at h; split at h; exact ⟨_, _, _, _, rfl, h⟩; exact h.elim
theorem plr_inv {st : List Value} {f : Nat → Int64 → List Value → Prop} (h : p_lr st f) : ∃ a x r, st = .long x :: .ref a :: r ∧ f a x r := by
  unfold p_lr at h; split at h; exact ⟨_, _, _, rfl, h⟩; exact h.elim
theorem prr_inv {st : List Value} {f : Nat → Nat → List Value → Prop} (h : p_rr st f) : ∃ a x r, st = .ref x :: .ref a :: r ∧ f a x r := by
  unfold p_rr at h; split at h; exact ⟨_, _, _, rfl, h⟩; exact h.elim
theorem pv_inv {st : List Value} {f : Value → List Value → Prop} (h : p_v st f) : ∃ x r, st = x :: r ∧ f x r := by
  unfold p_v at h; split at h; exact ⟨_, _, rfl, h⟩; exact h.elim
theorem pvv_inv {st : List Value} {f : Value → Value → List Value → Prop} (h : p_vv st f) : ∃ x y r, st = x :: y :: r ∧ f x y r := by
  unfold p_vv at h; split at h; exact ⟨_, _, _, rfl, h⟩; exact h.elim
theorem pcp_inv {st : List Value} {f : Nat → Int32 → Nat → Int32 → Int32 → List Value → Prop} (h : p_cp st f) : ∃ a0 sp a1 dp n r, st = .int n :: .int dp :: .ref a1 :: .int sp :: .ref a0 :: r ∧ f a0 sp a1 dp n r := by
  unfold p_cp at h; split at h; exact ⟨_, _, _, _, _, _, rfl, h⟩; exact h.elim
theorem li_inv {v : Option Value} {f : Int32 → Prop} (h : l_i v f) : ∃ x, v = some (.int x) ∧ f x := by
  unfold l_i at h; split at h; exact ⟨_, rfl, h⟩; exact h.elim
theorem ll_inv {v : Option Value} {f : Int64 → Prop} (h : l_l v f) : ∃ x, v = some (.long x) ∧ f x := by
  unfold l_l at h; split at h; exact ⟨_, rfl, h⟩; exact h.elim
theorem lr_inv {v : Option Value} {f : Nat → Prop} (h : l_r v f) : ∃ x, v = some (.ref x) ∧ f x := by
  unfold l_r at h; split at h; exact ⟨_, rfl, h⟩; exact h.elim
/-- ldc_w of a text: ldc's own proof (the library's ldcString), for the wide form -/
theorem va_ldcwS {p : Program} {l : Launch} {e : Env} {R : Room} {s : State} {m : MethodId} {args : Array Value} {below : List Frame} {meth : Method} {c : Code} {H : Heap} {locs : List Loc} {cells slots : Nat} {Q : State → Prop} {cc : ByteArray} {pc : Nat} {ls : Array Slot} {rest : List Value}
    (hexec : p.tables.exec = Jvm.exec) (hb : c.code = cc) {own tx : String} {index q : Nat} (hown : s.vm.findClass own = some m.cls) (hZ : vk_R own index tx q s) (hdg : decode cc pc = .ok (.ldc_w index, 3))
    (k : W p l e R s m args below meth c H locs cells slots Q (F0 m (pc + 3) ls (.ref q :: rest))) : W p l e R s m args below meth c H locs cells slots Q (F0 m pc ls rest) := by
  intro T hT X
  obtain ⟨t, a1, b1⟩ := k T hT X
  refine ⟨t, ?_, b1⟩
  obtain ⟨k9, cf, i, a', hk, hcf, hcp, -, hr, hev'⟩ := Cond.stringRef_spec hown hZ.1
  cases hZ.2.symm.trans hev'
  obtain ⟨k', hk', he⟩ := X.warmed.alike.2.2 _ _ hk
  have hr' : k'.resolved[index]? = some (some (.string q)) := by
    rcases X.warmed.entry hk hk' index with h | ⟨h, -⟩
    · rw [h]; exact hr
    · rw [hr] at h; cases h
  have hdg' : decode c.code (F0 m pc ls rest).pc = .ok (.ldc_w index, 3) := by rw [hb]; exact hdg
  jvm_step X.here [hexec, hdg', ldc_w.wp_string (e := e) (s := T) (f := F0 m pc ls rest) X.here.top hk' (by rw [he]; exact hcf) hcp hr']
  exact a1
/-- what the tables say of a row of code -/
noncomputable def wdC (ci k : Nat) : String × String × String × Bool := match vwCl[ci]? with
  | some q => q.2.1 k
  | none => ("", "", "", false)
noncomputable def wdN (ci : Nat) : String := match vwCl[ci]? with
  | some q => q.1
  | none => ""
noncomputable def lenI (i : Instr) : Nat := match i with
  | .bipush _ => 2
  | .sipush _ => 3
  | .ldc _ => 2
  | .ldc_w _ => 3
  | .ldc2_w _ => 3
  | .iload _ => 2
  | .lload _ => 2
  | .aload _ => 2
  | .istore _ => 2
  | .lstore _ => 2
  | .astore _ => 2
  | .iinc _ _ => 3
  | .ifCond _ _ => 3
  | .if_icmp _ _ => 3
  | .goto _ => 3
  | .getfield _ => 3
  | .putfield _ => 3
  | .new _ => 3
  | .newarray _ => 2
  | .anewarray _ => 3
  | .multianewarray _ _ => 4
  | .invokevirtual _ => 3
  | .invokespecial _ => 3
  | .invokestatic _ => 3
  | _ => 1
noncomputable def isSw (i : Instr) : Bool := match i with
  | .tableswitch _ _ _ _ => true
  | .lookupswitch _ _ => true
  | _ => false
/-- the string constants: their pool numbers and texts -/
noncomputable def sidx : List Nat := [199, 226, 231, 233, 235, 319]
noncomputable def stxt : List String := ["012345678", "lpxn", "<>=", "+-", "*/", "<=>p123456789"]
noncomputable def cfx (own : String) (isI : Bool) (pc : Nat) (i : Instr) (r1 r2 : Nat) (r3 : Int) : Prop := match i with
  | .getfield idx => r1 < 12 ∧ r2 < nf r1 ∧ r3 = (fkd r1 r2 : Int) ∧ Jvm.Cond.fieldLink own idx (wdC r1 r2).1 (wdC r1 r2).2.1 (wdC r1 r2).2.2.1 ∈ GW
  | .putfield idx => r1 < 12 ∧ r2 < nf r1 ∧ r3 = (fkd r1 r2 : Int) ∧ Jvm.Cond.fieldLink own idx (wdC r1 r2).1 (wdC r1 r2).2.1 (wdC r1 r2).2.2.1 ∈ GW ∧ ((wdC r1 r2).2.2.2 = false ∨ (isI = true ∧ (wdC r1 r2).1 = own))
  | .ldc idx => (r1 = 0 ∧ Jvm.Cond.constant own idx (Int32.ofInt r3) ∈ GW) ∨ (r1 = 1 ∧ r2 < 6 ∧ own = RX11 ∧ sidx.getD r2 0 = idx)
  | .ldc_w idx => (r1 = 0 ∧ Jvm.Cond.constant own idx (Int32.ofInt r3) ∈ GW) ∨ (r1 = 1 ∧ r2 < 6 ∧ own = RX11 ∧ sidx.getD r2 0 = idx)
  | .ldc2_w idx => Jvm.Cond.constantLong own idx (Int64.ofInt r3) ∈ GW
  | .new idx => Jvm.Cond.classLink own idx (wdN r1) ∈ GW ∧ Jvm.Cond.instantiable (wdN r1) (nf r1) ∈ GW ∧ Jvm.Cond.initialized (wdN r1) ∈ GW
  | .newarray at_ => r1 < 4 ∧ fty r1 = newarray.typeOf at_ ∧ Jvm.Cond.arrayClass (newarray.typeOf at_) ∈ GW
  | .anewarray idx => Jvm.Cond.classLink own idx RX8 ∈ GW
  | .multianewarray idx d => d = 2 ∧ (r1 = 5 ∨ r1 = 6) ∧ Jvm.Cond.classLink own idx ("[" ++ (FieldType.array (fty (r1 - 5))).toString) ∈ GW ∧ Jvm.Cond.arrayClass (fty (r1 - 5)) ∈ GW
  | .ifCond _ off => 0 ≤ (pc : Int) + off
  | .if_icmp _ off => 0 ≤ (pc : Int) + off
  | .goto off => 0 ≤ (pc : Int) + off
  | .tableswitch dflt lo hi offs => hi = lo + offs.size - 1 ∧ 0 ≤ (pc : Int) + dflt ∧ ∀ o ∈ offs.toList, 0 ≤ (pc : Int) + o
  | .lookupswitch dflt ps => (ps.toList.zip (ps.toList.drop 1)).all (fun (a, next) => a.1 < next.1) = true ∧ 0 ≤ (pc : Int) + dflt ∧ ∀ o ∈ ps.toList, 0 ≤ (pc : Int) + o.2
  | _ => True
noncomputable def pln (i : Instr) : Bool := match i with
  | .getfield _ => false
  | .putfield _ => false
  | .iaload => false
  | .caload => false
  | .baload => false
  | .laload => false
  | .aaload => false
  | .iastore => false
  | .castore => false
  | .bastore => false
  | .lastore => false
  | .aastore => false
  | .arraylength => false
  | .new _ => false
  | .newarray _ => false
  | .anewarray _ => false
  | .multianewarray _ _ => false
  | .invokevirtual _ => false
  | .invokespecial _ => false
  | .invokestatic _ => false
  | .ireturn => false
  | .lreturn => false
  | .return_ => false
  | .ldc _ => false
  | .ldc_w _ => false
  | _ => true
theorem tg_eq {pc : Nat} {off : Int} (h : 0 ≤ (pc : Int) + off) : (pc : Int) + off = (tg pc off : Int) := (Int.toNat_of_nonneg h).symm
section SND
variable {p : Program} {l : Launch} {e : Env} {R : Room} {s : State} {m : MethodId} {args : Array Value} {below : List Frame} {meth : Method} {c : Code} {Z : State → Prop}
variable {cc : ByteArray} {nL : Nat} {own : String} {isI : Bool} {ret : Option FieldType}
variable {cy : Nat → ClassId} {dC : Nat → ClassId} {dI : Nat → Nat → Nat} {A : Nat → Prop} {ad0 : Nat → Nat} {bz n0 C S : Nat}
/-- the places of what was there stay; and all places, where nothing can be made -/
noncomputable def HAD (bz n0 : Nat) (ad0 ad : Nat → Nat) (bc : Nat) : Prop := (∀ j, j < n0 ∨ 1000000 ≤ j → ad j = ad0 j) ∧ bc ≤ bz ∧ (bz = 0 → ad = ad0)
/-- where the run goes on, the machine goes on -/
noncomputable def GO (p : Program) (l : Launch) (e : Env) (R : Room) (s : State) (m : MethodId) (args : Array Value) (below : List Frame) (meth : Method) (c : Code) (Z : State → Prop) (nL : Nat) (cy : Nat → ClassId) (dC : Nat → ClassId) (dI : Nat → Nat → Nat) (A : Nat → Prop) (ad0 : Nat → Nat) (bz n0 C S : Nat) (K : KT) : Prop :=
  ∀ (pc : Nat) (ls : List (Nat × Value)) (st : List Value) (h : aH) (bc bs : Nat), K pc ls st h bc bs → ∀ (ad : Nat → Nat) (arr : Array Slot) (H : Heap) (locs : List Loc) (cells slots : Nat),
    HAD bz n0 ad0 ad bc → n0 ≤ h.1.length → h.1.length < 1000000 → Std cy dC dI A s.heap ad h H locs → lv_has arr nL (cvl ad ls) → cells + bc ≤ C → slots + bs ≤ S →
    W p l e R s m args below meth c H locs cells slots Z (F0 m pc arr (st.map (cv ad)))

set_option maxHeartbeats 2000000 in
theorem snd_plain {CL : CT} {Q : QT} {K : KT} (hx : p.tables.exec = Jvm.exec) (hb : c.code = cc) (hown : s.vm.findClass own = some m.cls) (hts : ∀ w ∈ GW, w.before args s = true) (hK : GO p l e R s m args below meth c Z nL cy dC dI A ad0 bz n0 C S K)
    {i : Instr} {r1 r2 : Nat} {r3 : Int} {pc : Nat} {ls : List (Nat × Value)} {st : List Value} {h : aH} {bc bs : Nat} {len : Nat} (hd : decode cc pc = .ok (i, len)) (hlen : isSw i = true ∨ len = lenI i) (hcf : cfx own isI pc i r1 r2 r3) (hst : stp CL ret Q K i r1 r2 r3 pc ls st h bc bs)
    {ad : Nat → Nat} {arr : Array Slot} {H : Heap} {locs : List Loc} {cells slots : Nat} (had : HAD bz n0 ad0 ad bc) (hn0 : n0 ≤ h.1.length) (hsm : h.1.length < 1000000) (hS : Std cy dC dI A s.heap ad h H locs) (hl : lv_has arr nL (cvl ad ls)) (hc : cells + bc ≤ C) (hs : slots + bs ≤ S)
    (hnL : ∀ (k : Nat), (i = .istore k ∨ i = .astore k ∨ (∃ z, i = .iinc k z)) ∨ (∃ f : Fin 4, (f : Nat) = k ∧ (i = .istore_n f ∨ i = .astore_n f)) → k < nL) (hnL2 : ∀ (k : Nat), i = .lstore k ∨ (∃ f : Fin 4, (f : Nat) = k ∧ i = .lstore_n f) → k + 1 < nL)
    (hpl : pln i = true) :
    W p l e R s m args below meth c H locs cells slots Z (F0 m pc arr (st.map (cv ad))) := by
  have go : ∀ {pc' : Nat} {ls' : List (Nat × Value)} {st' : List Value}, K pc' ls' st' h bc bs → ∀ {arr' : Array Slot}, lv_has arr' nL (cvl ad ls') → W p l e R s m args below meth c H locs cells slots Z (F0 m pc' arr' (st'.map (cv ad))) := fun k _ hl' => hK _ _ _ _ _ _ k ad _ H locs cells slots had hn0 hsm hS hl' hc hs
  cases i
  case iconst n =>
    obtain rfl : len = 1 := by simpa [isSw, lenI] using hlen
    exact lv_iconst hx hb hd rfl (go hst hl)
  case bipush n =>
    obtain rfl : len = 2 := by simpa [isSw, lenI] using hlen
    exact lv_bipush hx hb hd rfl (go hst hl)
  case sipush n =>
    obtain rfl : len = 3 := by simpa [isSw, lenI] using hlen
    exact lv_sipush hx hb hd rfl (go hst hl)
  case lconst n =>
    obtain rfl : len = 1 := by simpa [isSw, lenI] using hlen
    exact lv_lconst hx hb hd rfl (go hst hl)
  case ldc2_w n =>
    obtain rfl : len = 3 := by simpa [isSw, lenI] using hlen
    exact lv_ldc2 hx hb hown (hts _ hcf) hd (go hst hl)
  case iadd =>
    obtain rfl : len = 1 := by simpa [isSw, lenI] using hlen
    obtain ⟨x, y, r, rfl, k⟩ := pii_inv hst
    exact lv_iadd hx hb hd (go k hl)
  case isub =>
    obtain rfl : len = 1 := by simpa [isSw, lenI] using hlen
    obtain ⟨x, y, r, rfl, k⟩ := pii_inv hst
    exact lv_isub hx hb hd (go k hl)
  case imul =>
    obtain rfl : len = 1 := by simpa [isSw, lenI] using hlen
    obtain ⟨x, y, r, rfl, k⟩ := pii_inv hst
    exact lv_imul hx hb hd (go k hl)
  case iand =>
    obtain rfl : len = 1 := by simpa [isSw, lenI] using hlen
    obtain ⟨x, y, r, rfl, k⟩ := pii_inv hst
    exact lv_iand hx hb hd (go k hl)
  case ior =>
    obtain rfl : len = 1 := by simpa [isSw, lenI] using hlen
    obtain ⟨x, y, r, rfl, k⟩ := pii_inv hst
    exact lv_ior hx hb hd (go k hl)
  case ixor =>
    obtain rfl : len = 1 := by simpa [isSw, lenI] using hlen
    obtain ⟨x, y, r, rfl, k⟩ := pii_inv hst
    exact lv_ixor hx hb hd (go k hl)
  case ishl =>
    obtain rfl : len = 1 := by simpa [isSw, lenI] using hlen
    obtain ⟨x, y, r, rfl, k⟩ := pii_inv hst
    exact lv_ishl hx hb hd (go k hl)
  case ishr =>
    obtain rfl : len = 1 := by simpa [isSw, lenI] using hlen
    obtain ⟨x, y, r, rfl, k⟩ := pii_inv hst
    exact lv_ishr hx hb hd (go k hl)
  case iushr =>
    obtain rfl : len = 1 := by simpa [isSw, lenI] using hlen
    obtain ⟨x, y, r, rfl, k⟩ := pii_inv hst
    exact lv_iushr hx hb hd rfl (go k hl)
  case idiv =>
    obtain rfl : len = 1 := by simpa [isSw, lenI] using hlen
    obtain ⟨x, y, r, rfl, k⟩ := pii_inv hst
    exact lv_idiv hx hb hd k.1 (go k.2 hl)
  case irem =>
    obtain rfl : len = 1 := by simpa [isSw, lenI] using hlen
    obtain ⟨x, y, r, rfl, k⟩ := pii_inv hst
    exact lv_irem hx hb hd k.1 (go k.2 hl)
  case ineg =>
    obtain rfl : len = 1 := by simpa [isSw, lenI] using hlen
    obtain ⟨x, r, rfl, k⟩ := pi_inv hst
    exact lv_ineg hx hb hd (go k hl)
  case ladd =>
    obtain rfl : len = 1 := by simpa [isSw, lenI] using hlen
    obtain ⟨x, y, r, rfl, k⟩ := pll_inv hst
    exact lv_ladd hx hb hd (go k hl)
  case lsub =>
    obtain rfl : len = 1 := by simpa [isSw, lenI] using hlen
    obtain ⟨x, y, r, rfl, k⟩ := pll_inv hst
    exact lv_lsub hx hb hd (go k hl)
  case lmul =>
    obtain rfl : len = 1 := by simpa [isSw, lenI] using hlen
    obtain ⟨x, y, r, rfl, k⟩ := pll_inv hst
    exact lv_lmul hx hb hd (go k hl)
  case ldiv =>
    obtain rfl : len = 1 := by simpa [isSw, lenI] using hlen
    obtain ⟨x, y, r, rfl, k⟩ := pll_inv hst
    exact lv_ldiv hx hb hd k.1 (go k.2 hl)
  case lrem =>
    obtain rfl : len = 1 := by simpa [isSw, lenI] using hlen
    obtain ⟨x, y, r, rfl, k⟩ := pll_inv hst
    exact lv_lrem hx hb hd k.1 (go k.2 hl)
  case lcmp =>
    obtain rfl : len = 1 := by simpa [isSw, lenI] using hlen
    obtain ⟨x, y, r, rfl, k⟩ := pll_inv hst
    exact W.lcmp hx hb hd (go k hl)
  case i2l =>
    obtain rfl : len = 1 := by simpa [isSw, lenI] using hlen
    obtain ⟨x, r, rfl, k⟩ := pi_inv hst
    exact lv_i2l hx hb hd rfl (go k hl)
  case i2b =>
    obtain rfl : len = 1 := by simpa [isSw, lenI] using hlen
    obtain ⟨x, r, rfl, k⟩ := pi_inv hst
    exact lv_i2b hx hb hd rfl (go k hl)
  case i2s =>
    obtain rfl : len = 1 := by simpa [isSw, lenI] using hlen
    obtain ⟨x, r, rfl, k⟩ := pi_inv hst
    exact lv_i2s hx hb hd rfl (go k hl)
  case i2c =>
    obtain rfl : len = 1 := by simpa [isSw, lenI] using hlen
    obtain ⟨x, r, rfl, k⟩ := pi_inv hst
    exact lv_i2c hx hb hd rfl (go k hl)
  case l2i =>
    obtain rfl : len = 1 := by simpa [isSw, lenI] using hlen
    obtain ⟨x, r, rfl, k⟩ := pl_inv hst
    exact lv_l2i hx hb hd rfl (go k hl)
  case dup =>
    obtain rfl : len = 1 := by simpa [isSw, lenI] using hlen
    obtain ⟨v, r, rfl, k⟩ := pv_inv hst
    exact lv_dup hx hb hd (by rw [cv_cat]; exact k.1) (go k.2 hl)
  case pop =>
    obtain rfl : len = 1 := by simpa [isSw, lenI] using hlen
    obtain ⟨v, r, rfl, k⟩ := pv_inv hst
    exact lv_pop hx hb hd (by rw [cv_cat]; exact k.1) (go k.2 hl)
  case dup2 =>
    obtain rfl : len = 1 := by simpa [isSw, lenI] using hlen
    obtain ⟨v, w, r, rfl, k⟩ := pvv_inv hst
    exact lv_dup2_11 hx hb hd (by rw [cv_cat]; exact k.1) (by rw [cv_cat]; exact k.2.1) (go k.2.2 hl)
  case iload j =>
    obtain rfl : len = 2 := by simpa [isSw, lenI] using hlen
    obtain ⟨x, hlk, k⟩ := li_inv hst
    obtain ⟨q, hq⟩ := lk_at (ad := ad) hlk
    exact lv_iload hx hb hd (lv_at hl q hq) (go k hl)
  case iload_n j =>
    obtain rfl : len = 1 := by simpa [isSw, lenI] using hlen
    obtain ⟨x, hlk, k⟩ := li_inv hst
    obtain ⟨q, hq⟩ := lk_at (ad := ad) hlk
    exact lv_iload_n hx hb hd rfl (lv_at hl q hq) (go k hl)
  case lload j =>
    obtain rfl : len = 2 := by simpa [isSw, lenI] using hlen
    obtain ⟨x, hlk, k⟩ := ll_inv hst
    obtain ⟨q, hq⟩ := lk_at (ad := ad) hlk
    exact lv_lload hx hb hd (lv_at hl q hq) (go k hl)
  case lload_n j =>
    obtain rfl : len = 1 := by simpa [isSw, lenI] using hlen
    obtain ⟨x, hlk, k⟩ := ll_inv hst
    obtain ⟨q, hq⟩ := lk_at (ad := ad) hlk
    exact lv_lload_n hx hb hd rfl (lv_at hl q hq) (go k hl)
  case aload j =>
    obtain rfl : len = 2 := by simpa [isSw, lenI] using hlen
    obtain ⟨x, hlk, k⟩ := lr_inv hst
    obtain ⟨q, hq⟩ := lk_at (ad := ad) hlk
    exact lv_aload hx hb hd (lv_at hl q hq) (go k hl)
  case aload_n j =>
    obtain rfl : len = 1 := by simpa [isSw, lenI] using hlen
    obtain ⟨x, hlk, k⟩ := lr_inv hst
    obtain ⟨q, hq⟩ := lk_at (ad := ad) hlk
    exact lv_aload_n hx hb hd rfl (lv_at hl q hq) (go k hl)
  case istore j =>
    obtain rfl : len = 2 := by simpa [isSw, lenI] using hlen
    obtain ⟨x, r, rfl, k⟩ := pi_inv hst
    exact lv_istore hx hb hd hl (hnL j (Or.inl (Or.inl rfl))) (cvl_so1 ad ls j (.int x)) (fun _ hl' => go k hl')
  case istore_n j =>
    obtain rfl : len = 1 := by simpa [isSw, lenI] using hlen
    obtain ⟨x, r, rfl, k⟩ := pi_inv hst
    exact lv_istore_n hx hb hd rfl hl (hnL (j : Nat) (Or.inr ⟨j, rfl, Or.inl rfl⟩)) (cvl_so1 ad ls j (.int x)) (fun _ hl' => go k hl')
  case astore j =>
    obtain rfl : len = 2 := by simpa [isSw, lenI] using hlen
    obtain ⟨x, r, rfl, k⟩ := pr_inv hst
    exact lv_astore hx hb hd hl (hnL j (Or.inl (Or.inr (Or.inl rfl)))) (cvl_so1 ad ls j (.ref x)) (fun _ hl' => go k hl')
  case astore_n j =>
    obtain rfl : len = 1 := by simpa [isSw, lenI] using hlen
    obtain ⟨x, r, rfl, k⟩ := pr_inv hst
    exact lv_astore_n hx hb hd rfl hl (hnL (j : Nat) (Or.inr ⟨j, rfl, Or.inr rfl⟩)) (cvl_so1 ad ls j (.ref x)) (fun _ hl' => go k hl')
  case lstore j =>
    obtain rfl : len = 2 := by simpa [isSw, lenI] using hlen
    obtain ⟨x, r, rfl, k⟩ := pl_inv hst
    exact lv_lstore hx hb hd hl (hnL2 j (Or.inl rfl)) (cvl_so2 ad ls j (.long x)) (fun _ hl' => go k hl')
  case lstore_n j =>
    obtain rfl : len = 1 := by simpa [isSw, lenI] using hlen
    obtain ⟨x, r, rfl, k⟩ := pl_inv hst
    exact lv_lstore_n hx hb hd rfl hl (hnL2 (j : Nat) (Or.inr ⟨j, rfl, rfl⟩)) (cvl_so2 ad ls j (.long x)) (fun _ hl' => go k hl')
  case iinc j z =>
    obtain rfl : len = 3 := by simpa [isSw, lenI] using hlen
    obtain ⟨x, hlk, k⟩ := li_inv hst
    obtain ⟨q, hq⟩ := lk_at (ad := ad) hlk
    exact lv_iinc hx hb hd hl hq rfl (hnL j (Or.inl (Or.inr (Or.inr ⟨z, rfl⟩)))) (cvl_so1 ad ls j (.int (x + Int32.ofInt z))) (fun _ hl' => go k hl')
  case goto off =>
    obtain rfl : len = 3 := by simpa [isSw, lenI] using hlen
    exact lv_goto hx hb hd (tg_eq hcf) (go hst hl)
  case ifCond cd off =>
    obtain rfl : len = 3 := by simpa [isSw, lenI] using hlen
    obtain ⟨x, r, rfl, k⟩ := pi_inv hst
    cases cd
    · exact lv_if_eq hx hb hd (tg_eq hcf) (fun q => go (k.1 q) hl) (fun q => go (k.2 q) hl)
    · exact lv_if_ne hx hb hd (tg_eq hcf) (fun q => go (k.1 q) hl) (fun q => go (k.2 (not_not_intro q)) hl)
    · exact lv_if_lt hx hb hd (tg_eq hcf) (fun q => go (k.1 q) hl) (fun q => go (k.2 q) hl)
    · exact lv_if_ge hx hb hd (tg_eq hcf) (fun q => go (k.1 q) hl) (fun q => go (k.2 q) hl)
    · exact lv_if_gt hx hb hd (tg_eq hcf) (fun q => go (k.1 q) hl) (fun q => go (k.2 q) hl)
    · exact lv_if_le hx hb hd (tg_eq hcf) (fun q => go (k.1 q) hl) (fun q => go (k.2 q) hl)
  case if_icmp cd off =>
    obtain rfl : len = 3 := by simpa [isSw, lenI] using hlen
    obtain ⟨x, y, r, rfl, k⟩ := pii_inv hst
    cases cd
    · exact lv_icmp_eq hx hb hd (tg_eq hcf) (fun q => go (k.1 q) hl) (fun q => go (k.2 q) hl)
    · exact lv_icmp_ne hx hb hd (tg_eq hcf) (fun q => go (k.1 q) hl) (fun q => go (k.2 (not_not_intro q)) hl)
    · exact lv_icmp_lt hx hb hd (tg_eq hcf) (fun q => go (k.1 q) hl) (fun q => go (k.2 q) hl)
    · exact lv_icmp_ge hx hb hd (tg_eq hcf) (fun q => go (k.1 q) hl) (fun q => go (k.2 q) hl)
    · exact lv_icmp_gt hx hb hd (tg_eq hcf) (fun q => go (k.1 q) hl) (fun q => go (k.2 q) hl)
    · exact lv_icmp_le hx hb hd (tg_eq hcf) (fun q => go (k.1 q) hl) (fun q => go (k.2 q) hl)
  case tableswitch dflt lo hi offs =>
    obtain ⟨x, r, rfl, k⟩ := pi_inv hst
    obtain ⟨h1, h2, h3⟩ := hcf
    by_cases hlo : x.toInt < lo
    · have e : swo dflt lo offs.toList x = dflt := if_pos hlo
      rw [e] at k
      exact lv_tableOut hx hb hd (Or.inl hlo) (tg_eq h2) (go k hl)
    · by_cases hhi : hi < x.toInt
      · have e : swo dflt lo offs.toList x = dflt := by
          unfold swo
          rw [if_neg hlo, List.getElem?_eq_none (by rw [Array.length_toList]; omega)]
          rfl
        rw [e] at k
        exact lv_tableOut hx hb hd (Or.inr hhi) (tg_eq h2) (go k hl)
      · have hlt : (x.toInt - lo).toNat < offs.toList.length := by rw [Array.length_toList]; omega
        have e0 : offs.toList[(x.toInt - lo).toNat]? = some offs.toList[(x.toInt - lo).toNat] := List.getElem?_eq_getElem hlt
        have e : swo dflt lo offs.toList x = offs.toList[(x.toInt - lo).toNat] := by
          unfold swo
          rw [if_neg hlo, e0]
          rfl
        rw [e] at k
        exact lv_tableIn hx hb hd hlo hhi (by rw [← Array.getElem?_toList]; exact e0) (tg_eq (h3 _ (List.getElem_mem hlt))) (go k hl)
  case lookupswitch dflt ps =>
    obtain ⟨x, r, rfl, k⟩ := pi_inv hst
    obtain ⟨h1, h2, h3⟩ := hcf
    refine lv_lookup hx hb hd h1 rfl (tg_eq ?_) (go k hl)
    have : ∀ (l : List (Int × Int)) (d z : Int), 0 ≤ (pc : Int) + d → (∀ o ∈ l, 0 ≤ (pc : Int) + o.2) → 0 ≤ (pc : Int) + Op.lookupswitch.offset l d z := by
      intro l
      induction l with
      | nil => intro d z hd _; exact hd
      | cons q r ih =>
        intro d z hd hl
        obtain ⟨a, o⟩ := q
        unfold Op.lookupswitch.offset
        split
        · exact hl _ List.mem_cons_self
        · exact ih d z hd (fun o ho => hl o (List.mem_cons_of_mem _ ho))
    exact this _ _ _ h2 h3
  all_goals first | exact False.elim hst | exact absurd hpl Bool.false_ne_true
end SND
end
section
/-! THE CELLS OF THE WORLD, one store at a time -/
theorem enS_obj (cy : Nat → ClassId) (ad : Nat → Nat) (h : aH) (a ci n : Nat) : enS cy ad h a (100 + ci, n) = .inr (ci, (List.range n).map (fun k => wv ad h a k (fkd ci k))) := by
  unfold enS
  rw [if_neg (by show ¬ 100 + ci < 100; omega)]
  simp only [Nat.add_sub_cancel_left]
theorem enS_arr (cy : Nat → ClassId) (ad : Nat → Nat) (h : aH) (a : Nat) {t n : Nat} (ht : t < 100) : enS cy ad h a (t, n) = .inl (cy t, n, arc ad h a t) := if_pos ht
theorem rng_get {α : Type} (f : Nat → α) {n k : Nat} (h : k < n) : ((List.range n).map f)[k]? = some (f k) := by rw [List.getElem?_map, List.getElem?_range h]; rfl
theorem rng_set {α : Type} {f g : Nat → α} {n k : Nat} {x : α} (hk : g k = x) (ho : ∀ j, j ≠ k → g j = f j) : ((List.range n).map f).set k x = (List.range n).map g := by
  apply List.ext_getElem?
  intro j
  by_cases hj : j < n
  · rw [rng_get g hj]
    by_cases e : k = j
    · subst e
      rw [List.getElem?_set_self (by simpa using hj), hk]
    · rw [List.getElem?_set_ne e, rng_get f hj, ho j (fun q => e q.symm)]
  · rw [List.getElem?_eq_none (by simp; omega), List.getElem?_eq_none (by simp; omega)]
theorem wd_sI_obj {cy : Nat → ClassId} {ad : Nat → Nat} {h : aH} {a ci n k : Nat} {v : Int32} (hs : h.1[a]? = some (100 + ci, n)) (hk : fkd ci k ≠ 1 ∧ fkd ci k ≠ 2) :
    (wd cy ad h).set a (ad a, .inr (ci, ((List.range n).map (fun k => wv ad h a k (fkd ci k))).set k (.int v))) = wd cy ad (sI h a k v) := by
  refine wd_set hs rfl ?_ (fun i s' hi => enS_congr (up_n hi) rfl rfl)
  rw [enS_obj, rng_set (g := fun k' => wv ad (sI h a k v) a k' (fkd ci k'))]
  · unfold wv
    have e : aI (sI h a k v) a k = v := by simp [aI, sI, up_s, upd]
    split
    · rename_i q; exact absurd q hk.1
    · rename_i q; exact absurd q hk.2
    · rw [e]
  · intro j hj
    have e : aI (sI h a k v) a j = aI h a j := by simp [aI, sI, up_s, upd, hj]
    unfold wv
    rw [e]
    rfl
theorem wd_sJ_obj {cy : Nat → ClassId} {ad : Nat → Nat} {h : aH} {a ci n k : Nat} {v : Int64} (hs : h.1[a]? = some (100 + ci, n)) (hk : fkd ci k = 1) :
    (wd cy ad h).set a (ad a, .inr (ci, ((List.range n).map (fun k => wv ad h a k (fkd ci k))).set k (.long v))) = wd cy ad (sJ h a k v) := by
  refine wd_set hs rfl ?_ (fun i s' hi => enS_congr rfl (up_n hi) rfl)
  rw [enS_obj, rng_set (g := fun k' => wv ad (sJ h a k v) a k' (fkd ci k'))]
  · have e : aJ (sJ h a k v) a k = v := by simp [aJ, sJ, up_s, vp_updL]
    rw [hk]
    show Value.long _ = _
    rw [e]
  · intro j hj
    have e : aJ (sJ h a k v) a j = aJ h a j := by simp [aJ, sJ, up_s, vp_updL, hj]
    unfold wv
    rw [e]
    rfl
theorem wd_sR_obj {cy : Nat → ClassId} {ad : Nat → Nat} {h : aH} {a ci n k : Nat} {v : Nat} (hs : h.1[a]? = some (100 + ci, n)) (hk : fkd ci k = 2) :
    (wd cy ad h).set a (ad a, .inr (ci, ((List.range n).map (fun k => wv ad h a k (fkd ci k))).set k (.ref (ad v)))) = wd cy ad (sR h a k (some v)) := by
  refine wd_set hs rfl ?_ (fun i s' hi => enS_congr rfl rfl (up_n hi))
  rw [enS_obj, rng_set (g := fun k' => wv ad (sR h a k (some v)) a k' (fkd ci k'))]
  · have e : aR (sR h a k (some v)) a k = some v := by simp [aR, sR, up_s, va_up]
    rw [hk]
    show va_rf _ = _
    rw [e]
    rfl
  · intro j hj
    have e : aR (sR h a k (some v)) a j = aR h a j := by simp [aR, sR, up_s, va_up, hj]
    unfold wv
    rw [e]
    rfl
theorem wd_sI_arr {cy : Nat → ClassId} {ad : Nat → Nat} {h : aH} {a t n k : Nat} {v : Int32} (hs : h.1[a]? = some (t, n)) (ht : t = 0 ∨ t = 2 ∨ t = 3) :
    (wd cy ad h).set a (ad a, .inl (cy t, n, .inl (upd (aI h a) k v))) = wd cy ad (sI h a k v) := by
  refine wd_set hs rfl ?_ (fun i s' hi => enS_congr (up_n hi) rfl rfl)
  rw [enS_arr _ _ _ _ (by omega)]
  have e : aI (sI h a k v) a = upd (aI h a) k v := up_s
  rcases ht with rfl | rfl | rfl <;> simp [arc, e]
theorem wd_sJ_arr {cy : Nat → ClassId} {ad : Nat → Nat} {h : aH} {a n k : Nat} {v : Int64} (hs : h.1[a]? = some (1, n)) :
    (wd cy ad h).set a (ad a, .inl (cy 1, n, .inr (.inl (vp_updL (aJ h a) k v)))) = wd cy ad (sJ h a k v) := by
  refine wd_set hs rfl ?_ (fun i s' hi => enS_congr rfl (up_n hi) rfl)
  rw [enS_arr _ _ _ _ (by omega)]
  have e : aJ (sJ h a k v) a = vp_updL (aJ h a) k v := up_s
  simp [arc, e]
theorem wd_sR_arr {cy : Nat → ClassId} {ad : Nat → Nat} {h : aH} {a n k v : Nat} (hs : h.1[a]? = some (4, n)) :
    (wd cy ad h).set a (ad a, .inl (cy 4, n, .inr (.inr (.inr (.inr (va_up (fun k => (aR h a k).map ad) k (some (ad v)))))))) = wd cy ad (sR h a k (some v)) := by
  refine wd_set hs rfl ?_ (fun i s' hi => enS_congr rfl rfl (up_n hi))
  rw [enS_arr _ _ _ _ (by omega)]
  have e : aR (sR h a k (some v)) a = va_up (aR h a) k (some v) := up_s
  simp only [arc, e, if_neg (show ¬ (4 : Nat) = 1 by decide), if_pos (Nat.le_refl 4)]
  congr 7
  funext j
  by_cases hj : j = k
  · subst hj; simp [va_up]
  · simp [va_up, hj]
theorem wd_sC {cy : Nat → ClassId} {ad : Nat → Nat} {h : aH} {a0 a n sp dp z : Nat} (hs : h.1[a]? = some (0, n)) :
    (wd cy ad h).set a (ad a, .inl (cy 0, n, .inl (va_cpy (aI h a0) (aI h a) sp dp z))) = wd cy ad (sC h a0 sp a dp z) := by
  refine wd_set hs rfl ?_ (fun i s' hi => enS_congr (up_n hi) rfl rfl)
  rw [enS_arr _ _ _ _ (by omega)]
  have e : aI (sC h a0 sp a dp z) a = va_cpy (aI h a0) (aI h a) sp dp z := up_s
  simp [arc, e]
theorem RV_sI {h : aH} {a k : Nat} {v : Int32} (hv : RV h) : RV (sI h a k v) := hv
theorem RV_sJ {h : aH} {a k : Nat} {v : Int64} (hv : RV h) : RV (sJ h a k v) := hv
theorem RV_sC {h : aH} {a0 a sp dp z : Nat} (hv : RV h) : RV (sC h a0 sp a dp z) := hv
theorem RV_sR {h : aH} {a k v : Nat} (hv : RV h) (hlt : v < h.1.length) : RV (sR h a k (some v)) := by
  intro b j x hx
  show x < h.1.length
  by_cases e : b = a
  · subst e
    by_cases e2 : j = k
    · subst e2
      simp [aR, sR, up_s, va_up] at hx
      omega
    · have : aR h b j = some x := by simpa [aR, sR, up_s, va_up, e2] using hx
      exact hv b j x this
  · have : aR h b j = some x := by simpa [aR, sR, up_n e] using hx
    exact hv b j x this
/-- array classes of arrays that are there -/
noncomputable def va_AOA (t : FieldType) (U : State) : Prop := (Jvm.Cond.arrayOver (.array t)).before #[] U = true
theorem va_AOA.use {t : FieldType} {A : Array Value} {U : State} (h : va_AOA t U) : (Jvm.Cond.arrayOver (.array t)).before A U = true := h
theorem va_AOA.of {t : FieldType} {A : Array Value} {U : State} (h : (Jvm.Cond.arrayOver (.array t)).before A U = true) : va_AOA t U := h
theorem va_AOA.moved {t : FieldType} {u U : State} (hvm : u.vm.Alike U.vm) (h : va_AOA t u) : va_AOA t U :=
  (Cond.arrayOver_setVmC (args := #[]) (s := u) hvm (.array t)).trans h
end
section
/-! THE CLASSES' TABLES, out of lw_tbl by places -/
theorem gw_of {w : Jvm.Cond} {i : Nat} (h : lw_tbl[i]? = some w) (g : goodWord w = true) : w ∈ GW := List.mem_filter.mpr ⟨List.mem_of_getElem? h, g⟩
noncomputable def atT (i : Nat) (w : Jvm.Cond) : Bool := decide (lw_tbl[i]? = some w) && goodWord w
theorem atT_gw {i : Nat} {w : Jvm.Cond} (h : atT i w = true) : w ∈ GW := by
  unfold atT at h
  rw [Bool.and_eq_true, decide_eq_true_eq] at h
  exact gw_of h.1 h.2
noncomputable def kdt (t : Nat) (ty : FieldType) : Prop := match t with
  | 0 => ty = .int
  | 1 => ty = .long
  | 3 => ty = .boolean
  | 2 => ty.isReference = true
  | _ => False
theorem lay_gw {C : String} {T : u_T} {N : Nat} (hs : List Nat) (h : (List.range N).all (fun k => atT (hs.getD k 0) (u_lay C T k)) = true) : ∀ w ∈ u_ws C T N, w ∈ GW := by
  intro w hw
  obtain ⟨k, hk, rfl⟩ := List.mem_map.mp hw
  exact atT_gw (List.all_eq_true.mp h k hk)
noncomputable def ClsOk (ci : Nat) (C : String) (T : u_T) (N : Nat) (ty : Nat → FieldType) : Prop := vwCl[ci]? = some (C, T, N) ∧ (∀ w ∈ u_ws C T N, w ∈ GW) ∧ (∀ a, a < N → ∀ b, b < N → a ≠ b → (T a).2.1 ≠ (T b).2.1) ∧ (∀ k, k < N → parseFieldDescriptor (T k).2.2.1 = some (ty k)) ∧ (∀ k, k < N → kdt (fkd ci k) (ty k)) ∧ N = nf ci ∧ C = wdN ci ∧ ∀ k, wdC ci k = T k
set_option maxRecDepth 100000 in
theorem lay0 : ∀ w ∈ u_ws RX0 TX0 6, w ∈ GW := lay_gw [352, 354, 356, 358, 360, 362] (by decide +kernel)
theorem kd0 : ∀ k, k < 6 → kdt (fkd 0 k) (tyX0 k) := by
  intro k hk
  rcases (show k = 0 ∨ k = 1 ∨ k = 2 ∨ k = 3 ∨ k = 4 ∨ k = 5 by omega) with rfl | rfl | rfl | rfl | rfl | rfl <;> rfl
theorem cls0 : ClsOk 0 RX0 TX0 6 tyX0 := ⟨rfl, lay0, nmX0, tyX0_ok, kd0, rfl, rfl, fun _ => rfl⟩
set_option maxRecDepth 100000 in
theorem lay1 : ∀ w ∈ u_ws RX1 TX1 5, w ∈ GW := lay_gw [323, 325, 327, 329, 331] (by decide +kernel)
theorem kd1 : ∀ k, k < 5 → kdt (fkd 1 k) (tyX1 k) := by
  intro k hk
  rcases (show k = 0 ∨ k = 1 ∨ k = 2 ∨ k = 3 ∨ k = 4 by omega) with rfl | rfl | rfl | rfl | rfl <;> rfl
theorem cls1 : ClsOk 1 RX1 TX1 5 tyX1 := ⟨rfl, lay1, nmX1, tyX1_ok, kd1, rfl, rfl, fun _ => rfl⟩
set_option maxRecDepth 100000 in
theorem lay2 : ∀ w ∈ u_ws RX2 TX2 3, w ∈ GW := lay_gw [252, 254, 256] (by decide +kernel)
theorem kd2 : ∀ k, k < 3 → kdt (fkd 2 k) (tyX2 k) := by
  intro k hk
  rcases (show k = 0 ∨ k = 1 ∨ k = 2 by omega) with rfl | rfl | rfl <;> rfl
theorem cls2 : ClsOk 2 RX2 TX2 3 tyX2 := ⟨rfl, lay2, nmX2, tyX2_ok, kd2, rfl, rfl, fun _ => rfl⟩
set_option maxRecDepth 100000 in
theorem lay3 : ∀ w ∈ u_ws RX3 TX3 2, w ∈ GW := lay_gw [160, 162] (by decide +kernel)
theorem kd3 : ∀ k, k < 2 → kdt (fkd 3 k) (tyX3 k) := by
  intro k hk
  rcases (show k = 0 ∨ k = 1 by omega) with rfl | rfl <;> rfl
theorem cls3 : ClsOk 3 RX3 TX3 2 tyX3 := ⟨rfl, lay3, nmX3, tyX3_ok, kd3, rfl, rfl, fun _ => rfl⟩
set_option maxRecDepth 100000 in
theorem lay4 : ∀ w ∈ u_ws RX4 TX4 4, w ∈ GW := lay_gw [209, 211, 213, 215] (by decide +kernel)
theorem kd4 : ∀ k, k < 4 → kdt (fkd 4 k) (tyX4 k) := by
  intro k hk
  rcases (show k = 0 ∨ k = 1 ∨ k = 2 ∨ k = 3 by omega) with rfl | rfl | rfl | rfl <;> rfl
theorem cls4 : ClsOk 4 RX4 TX4 4 tyX4 := ⟨rfl, lay4, nmX4, tyX4_ok, kd4, rfl, rfl, fun _ => rfl⟩
set_option maxRecDepth 100000 in
theorem lay5 : ∀ w ∈ u_ws RX5 TX5 5, w ∈ GW := lay_gw [229, 231, 233, 235, 237] (by decide +kernel)
theorem kd5 : ∀ k, k < 5 → kdt (fkd 5 k) (tyX5 k) := by
  intro k hk
  rcases (show k = 0 ∨ k = 1 ∨ k = 2 ∨ k = 3 ∨ k = 4 by omega) with rfl | rfl | rfl | rfl | rfl <;> rfl
theorem cls5 : ClsOk 5 RX5 TX5 5 tyX5 := ⟨rfl, lay5, nmX5, tyX5_ok, kd5, rfl, rfl, fun _ => rfl⟩
set_option maxRecDepth 100000 in
theorem lay6 : ∀ w ∈ u_ws RX6 TX6 5, w ∈ GW := lay_gw [185, 187, 189, 191, 193] (by decide +kernel)
theorem kd6 : ∀ k, k < 5 → kdt (fkd 6 k) (tyX6 k) := by
  intro k hk
  rcases (show k = 0 ∨ k = 1 ∨ k = 2 ∨ k = 3 ∨ k = 4 by omega) with rfl | rfl | rfl | rfl | rfl <;> rfl
theorem cls6 : ClsOk 6 RX6 TX6 5 tyX6 := ⟨rfl, lay6, nmX6, tyX6_ok, kd6, rfl, rfl, fun _ => rfl⟩
set_option maxRecDepth 100000 in
theorem lay7 : ∀ w ∈ u_ws RX7 TX7 3, w ∈ GW := lay_gw [382, 384, 386] (by decide +kernel)
theorem kd7 : ∀ k, k < 3 → kdt (fkd 7 k) (tyX7 k) := by
  intro k hk
  rcases (show k = 0 ∨ k = 1 ∨ k = 2 by omega) with rfl | rfl | rfl <;> rfl
theorem cls7 : ClsOk 7 RX7 TX7 3 tyX7 := ⟨rfl, lay7, nmX7, tyX7_ok, kd7, rfl, rfl, fun _ => rfl⟩
set_option maxRecDepth 100000 in
theorem lay8 : ∀ w ∈ u_ws RX8 TX8 9, w ∈ GW := lay_gw [287, 289, 291, 293, 295, 297, 299, 301, 303] (by decide +kernel)
theorem kd8 : ∀ k, k < 9 → kdt (fkd 8 k) (tyX8 k) := by
  intro k hk
  rcases (show k = 0 ∨ k = 1 ∨ k = 2 ∨ k = 3 ∨ k = 4 ∨ k = 5 ∨ k = 6 ∨ k = 7 ∨ k = 8 by omega) with rfl | rfl | rfl | rfl | rfl | rfl | rfl | rfl | rfl <;> rfl
theorem cls8 : ClsOk 8 RX8 TX8 9 tyX8 := ⟨rfl, lay8, nmX8, tyX8_ok, kd8, rfl, rfl, fun _ => rfl⟩
set_option maxRecDepth 100000 in
theorem lay9 : ∀ w ∈ u_ws RX9 TX9 6, w ∈ GW := lay_gw [136, 138, 140, 142, 144, 146] (by decide +kernel)
theorem kd9 : ∀ k, k < 6 → kdt (fkd 9 k) (tyX9 k) := by
  intro k hk
  rcases (show k = 0 ∨ k = 1 ∨ k = 2 ∨ k = 3 ∨ k = 4 ∨ k = 5 by omega) with rfl | rfl | rfl | rfl | rfl | rfl <;> rfl
theorem cls9 : ClsOk 9 RX9 TX9 6 tyX9 := ⟨rfl, lay9, nmX9, tyX9_ok, kd9, rfl, rfl, fun _ => rfl⟩
set_option maxRecDepth 100000 in
theorem lay10 : ∀ w ∈ u_ws RX10 TX10 17, w ∈ GW := lay_gw [408, 410, 412, 414, 416, 418, 420, 422, 424, 426, 428, 430, 432, 434, 436, 438, 440] (by decide +kernel)
theorem kd10 : ∀ k, k < 17 → kdt (fkd 10 k) (tyX10 k) := by
  intro k hk
  rcases (show k = 0 ∨ k = 1 ∨ k = 2 ∨ k = 3 ∨ k = 4 ∨ k = 5 ∨ k = 6 ∨ k = 7 ∨ k = 8 ∨ k = 9 ∨ k = 10 ∨ k = 11 ∨ k = 12 ∨ k = 13 ∨ k = 14 ∨ k = 15 ∨ k = 16 by omega) with rfl | rfl | rfl | rfl | rfl | rfl | rfl | rfl | rfl | rfl | rfl | rfl | rfl | rfl | rfl | rfl | rfl <;> rfl
theorem cls10 : ClsOk 10 RX10 TX10 17 tyX10 := ⟨rfl, lay10, nmX10, tyX10_ok, kd10, rfl, rfl, fun _ => rfl⟩
set_option maxRecDepth 100000 in
theorem lay11 : ∀ w ∈ u_ws RX11 TX11 53, w ∈ GW := lay_gw [1135, 1137, 1139, 1141, 1143, 1145, 1147, 1149, 1151, 1153, 1155, 1157, 1159, 1161, 1163, 1165, 1167, 1169, 1171, 1173, 1175, 1177, 1179, 1181, 1183, 1185, 1187, 1189, 1191, 1193, 1195, 1197, 1199, 1201, 1203, 1205, 1207, 1209, 1211, 1213, 1215, 1217, 1219, 1221, 1223, 1225, 1227, 1229, 1231, 1233, 1235, 1237, 1239] (by decide +kernel)
theorem kd11 : ∀ k, k < 53 → kdt (fkd 11 k) (tyX11 k) := by
  intro k hk
  rcases (show k = 0 ∨ k = 1 ∨ k = 2 ∨ k = 3 ∨ k = 4 ∨ k = 5 ∨ k = 6 ∨ k = 7 ∨ k = 8 ∨ k = 9 ∨ k = 10 ∨ k = 11 ∨ k = 12 ∨ k = 13 ∨ k = 14 ∨ k = 15 ∨ k = 16 ∨ k = 17 ∨ k = 18 ∨ k = 19 ∨ k = 20 ∨ k = 21 ∨ k = 22 ∨ k = 23 ∨ k = 24 ∨ k = 25 ∨ k = 26 ∨ k = 27 ∨ k = 28 ∨ k = 29 ∨ k = 30 ∨ k = 31 ∨ k = 32 ∨ k = 33 ∨ k = 34 ∨ k = 35 ∨ k = 36 ∨ k = 37 ∨ k = 38 ∨ k = 39 ∨ k = 40 ∨ k = 41 ∨ k = 42 ∨ k = 43 ∨ k = 44 ∨ k = 45 ∨ k = 46 ∨ k = 47 ∨ k = 48 ∨ k = 49 ∨ k = 50 ∨ k = 51 ∨ k = 52 by omega) with rfl | rfl | rfl | rfl | rfl | rfl | rfl | rfl | rfl | rfl | rfl | rfl | rfl | rfl | rfl | rfl | rfl | rfl | rfl | rfl | rfl | rfl | rfl | rfl | rfl | rfl | rfl | rfl | rfl | rfl | rfl | rfl | rfl | rfl | rfl | rfl | rfl | rfl | rfl | rfl | rfl | rfl | rfl | rfl | rfl | rfl | rfl | rfl | rfl | rfl | rfl | rfl | rfl <;> rfl
theorem cls11 : ClsOk 11 RX11 TX11 53 tyX11 := ⟨rfl, lay11, nmX11, tyX11_ok, kd11, rfl, rfl, fun _ => rfl⟩
theorem cls_ok {ci : Nat} (h : ci < 12) : ∃ (C : String) (T : u_T) (N : Nat) (ty : Nat → FieldType), ClsOk ci C T N ty := by
  rcases (show ci = 0 ∨ ci = 1 ∨ ci = 2 ∨ ci = 3 ∨ ci = 4 ∨ ci = 5 ∨ ci = 6 ∨ ci = 7 ∨ ci = 8 ∨ ci = 9 ∨ ci = 10 ∨ ci = 11 by omega) with rfl | rfl | rfl | rfl | rfl | rfl | rfl | rfl | rfl | rfl | rfl | rfl
  · exact ⟨_, _, _, _, cls0⟩
  · exact ⟨_, _, _, _, cls1⟩
  · exact ⟨_, _, _, _, cls2⟩
  · exact ⟨_, _, _, _, cls3⟩
  · exact ⟨_, _, _, _, cls4⟩
  · exact ⟨_, _, _, _, cls5⟩
  · exact ⟨_, _, _, _, cls6⟩
  · exact ⟨_, _, _, _, cls7⟩
  · exact ⟨_, _, _, _, cls8⟩
  · exact ⟨_, _, _, _, cls9⟩
  · exact ⟨_, _, _, _, cls10⟩
  · exact ⟨_, _, _, _, cls11⟩
end
