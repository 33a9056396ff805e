/-! CONCRETE RUNS: the steps -/
def cRcv (r2 ci : Nat) (as : List Value) (c : cH) : Bool := match r2 with
  | 0 => match as with
    | .ref b :: _ => decide (shG c.2.1 b = some (100 + ci, nf ci))
    | _ => false
  | 1 => true
  | 2 => match as with
    | .ref _ :: _ => true
    | _ => false
  | 3 => true
  | 4 => match as with
    | .ref _ :: _ => true
    | _ => false
  | _ => false
theorem cRcv_ok {c : cH} {h : aH} (hr : REL c h) {r2 ci : Nat} {as : List Value} (hc : cRcv r2 ci as c = true) : rcv r2 ci as h := by
  unfold cRcv at hc
  split at hc
  · split at hc
    · rename_i b t
      exact ⟨b, t, rfl, hr.2.1 _ _ (of_decide_eq_true hc)⟩
    · cases hc
  · trivial
  · split at hc
    · rename_i b t; exact ⟨b, t, rfl⟩
    · cases hc
  · trivial
  · split at hc
    · rename_i b t; exact ⟨b, t, rfl⟩
    · cases hc
  · cases hc
def cCall (cc : Nat → List Value → cH → cO) (r1 r2 : Nat) (r3 : Int) (pc : Nat) (ls : List (Nat × Value)) (st : List Value) (c : cH) : cS :=
  if Nat.blt r2 5 then
    (if Nat.ble (catsum (st.drop (r3 % 100).toNat)) 8 && Nat.ble (r3 % 100).toNat st.length && cRcv r2 (r3 / 100).toNat (argc (r3 % 100).toNat st) c && (ls.all fun q => okc c q.2) && ((st.drop (r3 % 100).toNat).all fun v => okc c v) then
      (match cc r1 (argc (r3 % 100).toNat st) c with
      | some (rv, c', a, b) => some (pc + 3, ls, psh rv (st.drop (r3 % 100).toNat), c', a, b)
      | none => none) else none)
  else if Nat.beq r2 14 then (match st with
    | .ref _ :: r => if Nat.ble (catsum r) 8 then some (pc + 3, ls, r, c, 0, 0) else none
    | _ => none)
  else none
/-- one step -/
def cs1 (cc : Nat → List Value → cH → cO) (i : Instr) (r1 r2 : Nat) (r3 : Int) (pc : Nat) (ls : List (Nat × Value)) (st : List Value) (c : cH) : cS := match i with
  | .iconst n => some (pc + 1, ls, .int (Int32.ofInt n) :: st, c, 0, 0)
  | .bipush n => some (pc + 2, ls, .int (Int8.ofInt n).toInt32 :: st, c, 0, 0)
  | .sipush n => some (pc + 3, ls, .int (Int16.ofInt n).toInt32 :: st, c, 0, 0)
  | .iload_n k => match lk ls (k : Nat) with
    | some (.int x) => some (pc + 1, ls, .int x :: st, c, 0, 0)
    | _ => none
  | .aload_n k => match lk ls (k : Nat) with
    | some (.ref x) => some (pc + 1, ls, .ref x :: st, c, 0, 0)
    | _ => none
  | .istore_n k => match st with
    | .int x :: r => some (pc + 1, so1 ls (k : Nat) (.int x), r, c, 0, 0)
    | _ => none
  | .iinc k n => match lk ls k with
    | some (.int x) => some (pc + 3, so1 ls k (.int (x + Int32.ofInt n)), st, c, 0, 0)
    | _ => none
  | .dup => match st with
    | v :: r => if Nat.beq v.category 1 then some (pc + 1, ls, v :: v :: r, c, 0, 0) else none
    | _ => none
  | .goto off => some (tg pc off, ls, st, c, 0, 0)
  | .if_icmp cd off => match st with
    | .int y :: .int x :: r => some (if cD cd x y then tg pc off else pc + 3, ls, r, c, 0, 0)
    | _ => none
  | .getfield _ => match st with
    | .ref a :: r => if Nat.beq r3.toNat 2 && decide (shG c.2.1 a = some (100 + r1, nf r1)) then some (pc + 3, ls, va_rf (rR c.2.2.2 a r2) :: r, c, 0, 0) else none
    | _ => none
  | .putfield _ => match st with
    | .int x :: .ref a :: r => if decide (r3 = 0) && Nat.blt a c.1 && decide (shG c.2.1 a = some (100 + r1, nf r1)) then some (pc + 3, ls, r, (c.1, c.2.1, (a, r2, x) :: c.2.2.1, c.2.2.2), 0, 0) else none
    | .ref x :: .ref a :: r => if decide (r3 = 2) && Nat.blt a c.1 && Nat.blt x c.1 && decide (shG c.2.1 a = some (100 + r1, nf r1)) then some (pc + 3, ls, r, (c.1, c.2.1, c.2.2.1, (a, r2, x) :: c.2.2.2), 0, 0) else none
    | _ => none
  | .iastore => match st with
    | .int v :: .int x :: .ref a :: r => (match shG c.2.1 a with
      | some (0, n) => if ile 0 x.toInt && Nat.blt x.toInt.toNat n && Nat.blt a c.1 then some (pc + 1, ls, r, (c.1, c.2.1, (a, x.toInt.toNat, v) :: c.2.2.1, c.2.2.2), 0, 0) else none
      | _ => none)
    | _ => none
  | .aastore => match st with
    | .ref v :: .int x :: .ref a :: r => (match shG c.2.1 a with
      | some (4, n) => if ile 0 x.toInt && Nat.blt x.toInt.toNat n && Nat.blt a c.1 && decide (shG c.2.1 v = some (108, nf 8)) then some (pc + 1, ls, r, (c.1, c.2.1, c.2.2.1, (a, x.toInt.toNat, v) :: c.2.2.2), 0, 0) else none
      | _ => none)
    | _ => none
  | .arraylength => match st with
    | .ref a :: r => (match shG c.2.1 a with
      | some (t, n) => if Nat.blt t 7 then some (pc + 1, ls, .int (Int32.ofNat n) :: r, c, 0, 0) else none
      | _ => none)
    | _ => none
  | .new _ => if Nat.blt c.1 5000 && Nat.blt r1 12 && (ls.all fun q => okc c q.2) && (st.all fun v => okc c v) then some (pc + 3, ls, .ref c.1 :: st, (c.1 + 1, (c.1, (100 + r1, nf r1)) :: c.2.1, c.2.2.1, c.2.2.2), 1, nf r1) else none
  | .newarray _ => match st with
    | .int x :: r => if Nat.blt c.1 5000 && ile 0 x.toInt && ile x.toInt 100000 && (ls.all fun q => okc c q.2) && (r.all fun v => okc c v) then some (pc + 2, ls, .ref c.1 :: r, (c.1 + 1, (c.1, (r1, x.toInt.toNat)) :: c.2.1, c.2.2.1, c.2.2.2), 1, x.toInt.toNat) else none
    | _ => none
  | .anewarray _ => match st with
    | .int x :: r => if Nat.blt c.1 5000 && ile 0 x.toInt && ile x.toInt 100000 && (ls.all fun q => okc c q.2) && (r.all fun v => okc c v) then some (pc + 3, ls, .ref c.1 :: r, (c.1 + 1, (c.1, (4, x.toInt.toNat)) :: c.2.1, c.2.2.1, c.2.2.2), 1, x.toInt.toNat) else none
    | _ => none
  | .multianewarray _ _ => match st with
    | .int y :: .int x :: r => if Nat.blt c.1 5000 && ile 0 x.toInt && ile x.toInt 1000 && ile 0 y.toInt && ile y.toInt 1000 && (ls.all fun q => okc c q.2) && (r.all fun v => okc c v) then
        some (pc + 4, ls, .ref c.1 :: r, ((cNs (c.1 + 1, (c.1, (r1, x.toInt.toNat)) :: c.2.1, c.2.2) (r1 - 5, y.toInt.toNat) x.toInt.toNat).1, (cNs (c.1 + 1, (c.1, (r1, x.toInt.toNat)) :: c.2.1, c.2.2) (r1 - 5, y.toInt.toNat) x.toInt.toNat).2.1, c.2.2.1, cRs c.1 (c.1 + 1) x.toInt.toNat ++ c.2.2.2), 1 + x.toInt.toNat, x.toInt.toNat + x.toInt.toNat * y.toInt.toNat) else none
    | _ => none
  | .invokespecial _ => cCall cc r1 r2 r3 pc ls st c
  | .invokestatic _ => cCall cc r1 r2 r3 pc ls st c
  | .invokevirtual _ => cCall cc r1 r2 r3 pc ls st c
  | _ => none
/-- the run -/
def cx (cc : Nat → List Value → cH → cO) (ac : AC) (ret : Option FieldType) : Nat → AC → List (Nat × Value) → List Value → cH → cO
  | 0, _, _, _, _ => none
  | n + 1, cur, ls, st, c => match cur with
    | [] => none
    | (pc, i, r1, r2, r3) :: _ => match i with
      | .return_ => if st.isEmpty && ret.isNone then some (none, c, 0, 0) else none
      | _ => match cs1 cc i r1 r2 r3 pc ls st c with
        | none => none
        | some (pc', ls', st', c', a, b) => match cx cc ac ret n (nxt ac cur pc') ls' st' c' with
          | none => none
          | some (rv, c2, uc, us) => some (rv, c2, a + uc, b + us)
/-- calls, by their depth -/
def ccD (fuel : Nat) : Nat → Nat → List Value → cH → cO
  | 0, _, _, _ => none
  | d + 1, mid, as, c => match mtab[mid]? with
    | some mi => if Nat.ble (catsum as) mi.2.2.1 then cx (ccD fuel d) mi.2.2.2.2.1 mi.2.2.2.1 fuel (dropTo mi.2.2.2.2.1 0) (lv_args 0 as) [] c else none
    | none => none
/-- a call's word is kept -/
def CCOK (CL : CT) (cc : Nat → List Value → cH → cO) : Prop := ∀ (mid : Nat) (as : List Value) (c : cH) (rv : Option Value) (c' : cH) (a b : Nat), cc mid as c = some (rv, c', a, b) → ∀ (h : aH) (Q : QT), REL c h → (∀ h', REL c' h' → Q rv h') → CL mid as h a b Q
section CXS
variable {CL : CT} {cc : Nat → List Value → cH → cO} {K : KT} {ret : Option FieldType} {Q : QT}
theorem cCall_ok (hcc : CCOK CL cc) {r1 r2 : Nat} {r3 : Int} {pc : Nat} {ls : List (Nat × Value)} {st : List Value} {c : cH} {pc' : Nat} {ls' : List (Nat × Value)} {st' : List Value} {c' : cH} {a b : Nat} (hs : cCall cc r1 r2 r3 pc ls st c = some (pc', ls', st', c', a, b)) {h : aH} {bc bs : Nat} (hr : REL c h) (h1 : a ≤ bc) (h2 : b ≤ bs) (hk : ∀ h', REL c' h' → K pc' ls' st' h' (bc - a) (bs - b)) : s_call CL K r1 r2 r3 pc ls st h bc bs := by
  unfold cCall at hs
  split at hs
  · rename_i hlt
    have hlt : r2 < 5 := by simpa [Nat.blt_eq] using hlt
    split at hs
    · rename_i hc
      simp only [Bool.and_eq_true] at hc
      obtain ⟨⟨⟨⟨c1, c2⟩, c3⟩, c4⟩, c5⟩ := hc
      split at hs
      · rename_i rv c2' a' b' he
        cases hs
        unfold s_call
        split
        · omega
        · omega
        · omega
        · omega
        · omega
        · exact ⟨Nat.ble_eq.mp c1, Nat.ble_eq.mp c2, cRcv_ok hr c3, a, b, h1, h2, Or.inr ⟨okcl_ok hr c4, okcs_ok hr c5⟩, hcc _ _ _ _ _ _ _ he h _ hr (fun h' hr' => hk h' hr')⟩
      · cases hs
    · cases hs
  · split at hs
    · rename_i he
      have he := Nat.beq_eq.mp he
      subst he
      split at hs
      · rename_i x r
        split at hs
        · rename_i h8
          cases hs
          exact ⟨Nat.ble_eq.mp h8, hk h hr⟩
        · cases hs
      · cases hs
    · cases hs
set_option maxHeartbeats 4000000 in
theorem cs1_ok (hcc : CCOK CL cc) {i : Instr} {r1 r2 : Nat} {r3 : Int} {pc : Nat} {ls : List (Nat × Value)} {st : List Value} {c : cH} {pc' : Nat} {ls' : List (Nat × Value)} {st' : List Value} {c' : cH} {a b : Nat} (hs : cs1 cc i r1 r2 r3 pc ls st c = some (pc', ls', st', c', a, b)) {h : aH} {bc bs : Nat} (hr : REL c h) (h1 : a ≤ bc) (h2 : b ≤ bs) (hk : ∀ h', REL c' h' → K pc' ls' st' h' (bc - a) (bs - b)) : stp CL ret Q K i r1 r2 r3 pc ls st h bc bs := by
  cases i
  case iconst n => cases hs; exact hk h hr
  case bipush n => cases hs; exact hk h hr
  case sipush n => cases hs; exact hk h hr
  case iload_n k =>
    simp only [cs1] at hs
    split at hs
    · rename_i x hx
      cases hs
      show l_i (lk ls (k : Nat)) _
      rw [hx]
      exact hk h hr
    · cases hs
  case aload_n k =>
    simp only [cs1] at hs
    split at hs
    · rename_i x hx
      cases hs
      show l_r (lk ls (k : Nat)) _
      rw [hx]
      exact hk h hr
    · cases hs
  case istore_n k =>
    simp only [cs1] at hs
    split at hs
    · cases hs; exact hk h hr
    · cases hs
  case iinc k n =>
    simp only [cs1] at hs
    split at hs
    · rename_i x hx
      cases hs
      show l_i (lk ls k) _
      rw [hx]
      exact hk h hr
    · cases hs
  case dup =>
    simp only [cs1] at hs
    split at hs
    · split at hs
      · rename_i hc
        cases hs
        exact ⟨Nat.beq_eq.mp hc, hk h hr⟩
      · cases hs
    · cases hs
  case goto off => cases hs; exact hk h hr
  case if_icmp cd off =>
    simp only [cs1] at hs
    split at hs
    · rename_i y x r
      cases hs
      constructor
      · intro hc
        have := hk h hr
        rw [if_pos (cD_ok.mpr hc)] at this
        exact this
      · intro hc
        have := hk h hr
        rw [if_neg (fun q => hc (cD_ok.mp q))] at this
        exact this
    · cases hs
  case getfield n =>
    simp only [cs1] at hs
    split at hs
    · rename_i x r
      split at hs
      · rename_i hc
        rw [Bool.and_eq_true] at hc
        cases hs
        refine ⟨hr.2.1 _ _ (of_decide_eq_true hc.2), ?_⟩
        have e := hr.2.2.2.2.1 x r2
        have e3 := Nat.beq_eq.mp hc.1
        rw [e3]
        show K (pc + 3) ls (va_rf (aR h x r2) :: r) h bc bs
        rw [e]
        exact hk h hr
      · cases hs
    · cases hs
  case putfield n =>
    simp only [cs1] at hs
    split at hs
    · rename_i x y r
      split at hs
      · rename_i hc
        simp only [Bool.and_eq_true] at hc
        obtain ⟨⟨c1, c2⟩, c3⟩ := hc
        obtain rfl := of_decide_eq_true c1
        have c2 : y < c.1 := by simpa [Nat.blt_eq] using c2
        cases hs
        exact ⟨hr.2.1 _ _ (of_decide_eq_true c3), hk _ (hr.wI c2 _ _)⟩
      · cases hs
    · rename_i x y r
      split at hs
      · rename_i hc
        simp only [Bool.and_eq_true] at hc
        obtain ⟨⟨⟨c1, c2⟩, c3⟩, c4⟩ := hc
        obtain rfl := of_decide_eq_true c1
        have c2 : y < c.1 := by simpa [Nat.blt_eq] using c2
        have c3 : x < c.1 := by simpa [Nat.blt_eq] using c3
        cases hs
        exact ⟨hr.2.1 _ _ (of_decide_eq_true c4), by rw [hr.1]; exact c3, hk _ (hr.wR c2 _ _)⟩
      · cases hs
    · cases hs
  case iastore =>
    simp only [cs1] at hs
    split at hs
    · rename_i v x y r
      split at hs
      · rename_i n hsh
        split at hs
        · rename_i hc
          simp only [Bool.and_eq_true] at hc
          obtain ⟨⟨c1, c2⟩, c3⟩ := hc
          have c1 := ile_t c1
          have c2 : x.toInt.toNat < n := by simpa [Nat.blt_eq] using c2
          have c3 : y < c.1 := by simpa [Nat.blt_eq] using c3
          cases hs
          have w := vin_of c1 c2
          refine ⟨⟨n, hr.2.1 _ _ hsh, w.1⟩, ?_⟩
          rw [w.2]
          exact hk _ (hr.wI c3 _ _)
        · cases hs
      · cases hs
    · cases hs
  case aastore =>
    simp only [cs1] at hs
    split at hs
    · rename_i v x y r
      split at hs
      · rename_i n hsh
        split at hs
        · rename_i hc
          simp only [Bool.and_eq_true] at hc
          obtain ⟨⟨⟨c1, c2⟩, c3⟩, c4⟩ := hc
          have c1 := ile_t c1
          have c2 : x.toInt.toNat < n := by simpa [Nat.blt_eq] using c2
          have c3 : y < c.1 := by simpa [Nat.blt_eq] using c3
          cases hs
          have w := vin_of c1 c2
          refine ⟨⟨n, hr.2.1 _ _ hsh, w.1⟩, hr.2.1 _ _ (of_decide_eq_true c4), ?_⟩
          rw [w.2]
          exact hk _ (hr.wR c3 _ _)
        · cases hs
      · cases hs
    · cases hs
  case arraylength =>
    simp only [cs1] at hs
    split at hs
    · rename_i y r
      split at hs
      · rename_i t n hsh
        split at hs
        · rename_i hc
          cases hs
          exact ⟨t, n, hr.2.1 _ _ hsh, by simpa [Nat.blt_eq] using hc, hk h hr⟩
        · cases hs
      · cases hs
    · cases hs
  case new n =>
    simp only [cs1] at hs
    split at hs
    · rename_i hc
      simp only [Bool.and_eq_true] at hc
      obtain ⟨⟨⟨c1, c2⟩, c3⟩, c4⟩ := hc
      cases hs
      refine ⟨by rw [hr.1]; simpa [Nat.blt_eq] using c1, h1, h2, by simpa [Nat.blt_eq] using c2, okcl_ok hr c3, okcs_ok hr c4, ?_⟩
      rw [hr.1]
      exact hk _ (hr.new _)
    · cases hs
  case newarray n =>
    simp only [cs1] at hs
    split at hs
    · rename_i x r
      split at hs
      · rename_i hc
        simp only [Bool.and_eq_true] at hc
        obtain ⟨⟨⟨⟨c1, c2⟩, c3⟩, c4⟩, c5⟩ := hc
        have c2 := ile_t c2
        have c3 := ile_t c3
        cases hs
        have w := (vin_of (x := x) (n := x.toInt.toNat + 1) c2 (Nat.lt_succ_self _))
        refine ⟨by rw [hr.1]; simpa [Nat.blt_eq] using c1, fun q => w.1 (Or.inl q), by rw [w.2]; omega, h1, by rw [w.2]; exact h2, okcl_ok hr c4, okcs_ok hr c5, ?_⟩
        rw [hr.1, w.2]
        exact hk _ (hr.new _)
      · cases hs
    · cases hs
  case anewarray n =>
    simp only [cs1] at hs
    split at hs
    · rename_i x r
      split at hs
      · rename_i hc
        simp only [Bool.and_eq_true] at hc
        obtain ⟨⟨⟨⟨c1, c2⟩, c3⟩, c4⟩, c5⟩ := hc
        have c2 := ile_t c2
        have c3 := ile_t c3
        cases hs
        have w := (vin_of (x := x) (n := x.toInt.toNat + 1) c2 (Nat.lt_succ_self _))
        refine ⟨by rw [hr.1]; simpa [Nat.blt_eq] using c1, fun q => w.1 (Or.inl q), by rw [w.2]; omega, h1, by rw [w.2]; exact h2, okcl_ok hr c4, okcs_ok hr c5, ?_⟩
        rw [hr.1, w.2]
        exact hk _ (hr.new _)
      · cases hs
    · cases hs
  case multianewarray n z =>
    simp only [cs1] at hs
    split at hs
    · rename_i y x r
      split at hs
      · rename_i hc
        simp only [Bool.and_eq_true] at hc
        obtain ⟨⟨⟨⟨⟨⟨c1, c2⟩, c3⟩, c4⟩, c5⟩, c6⟩, c7⟩ := hc
        have c2 := ile_t c2
        have c3 := ile_t c3
        have c4 := ile_t c4
        have c5 := ile_t c5
        cases hs
        have w := (vin_of (x := x) (n := x.toInt.toNat + 1) c2 (Nat.lt_succ_self _))
        have w2 := (vin_of (x := y) (n := y.toInt.toNat + 1) c4 (Nat.lt_succ_self _))
        refine ⟨by rw [hr.1]; simpa [Nat.blt_eq] using c1, fun q => w.1 (Or.inl q), fun q => w2.1 (Or.inl q), by rw [w.2]; omega, by rw [w2.2]; omega, by rw [w.2]; exact h1, by rw [w.2, w2.2]; exact h2, okcl_ok hr c6, okcs_ok hr c7, ?_⟩
        rw [hr.1, w.2, w2.2]
        exact hk _ (hr.newM _ _ _ _)
      · cases hs
    · cases hs
  case invokespecial n => exact cCall_ok hcc hs hr h1 h2 hk
  case invokestatic n => exact cCall_ok hcc hs hr h1 h2 hk
  case invokevirtual n => exact cCall_ok hcc hs hr h1 h2 hk
  all_goals cases hs
end CXS
