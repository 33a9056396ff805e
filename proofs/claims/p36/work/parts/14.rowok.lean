/-! EVERY ROW OF EVERY METHOD IS IN ORDER: a check by computation, with hints (places in lw_tbl, a switch's length) -/
def gI0 (hs : List Nat) (k : Nat) : Nat := hs.getD k 0
def lenB (cc : ByteArray) (pc : Nat) (i : Instr) (h : Nat) : Bool := match isSw i with
  | true => decide (decode cc pc = .ok (i, h))
  | false => decide (decode cc pc = .ok (i, lenI i))
def cfxB (own : String) (isI : Bool) (pc : Nat) (i : Instr) (r1 r2 : Nat) (r3 : Int) (hs : List Nat) : Bool := match i with
  | .getfield idx => Nat.blt r1 12 && Nat.blt r2 (nf r1) && decide (r3 = (fkd r1 r2 : Int)) && atT (gI0 hs 0) (Jvm.Cond.fieldLink own idx (wdC r1 r2).1 (wdC r1 r2).2.1 (wdC r1 r2).2.2.1)
  | .putfield idx => Nat.blt r1 12 && Nat.blt r2 (nf r1) && decide (r3 = (fkd r1 r2 : Int)) && atT (gI0 hs 0) (Jvm.Cond.fieldLink own idx (wdC r1 r2).1 (wdC r1 r2).2.1 (wdC r1 r2).2.2.1) && (decide ((wdC r1 r2).2.2.2 = false) || (isI && decide ((wdC r1 r2).1 = own)))
  | .ldc idx => if Nat.beq r1 0 then atT (gI0 hs 0) (Jvm.Cond.constant own idx (Int32.ofInt r3)) else (Nat.beq r1 1 && Nat.blt r2 6 && decide (own = RX11) && decide (sidx.getD r2 0 = idx))
  | .ldc_w idx => if Nat.beq r1 0 then atT (gI0 hs 0) (Jvm.Cond.constant own idx (Int32.ofInt r3)) else (Nat.beq r1 1 && Nat.blt r2 6 && decide (own = RX11) && decide (sidx.getD r2 0 = idx))
  | .ldc2_w idx => atT (gI0 hs 0) (Jvm.Cond.constantLong own idx (Int64.ofInt r3))
  | .new idx => atT (gI0 hs 0) (Jvm.Cond.classLink own idx (wdN r1)) && atT (gI0 hs 1) (Jvm.Cond.instantiable (wdN r1) (nf r1)) && atT (gI0 hs 2) (Jvm.Cond.initialized (wdN r1))
  | .newarray at_ => Nat.blt r1 4 && decide (fty r1 = newarray.typeOf at_) && atT (gI0 hs 0) (Jvm.Cond.arrayClass (newarray.typeOf at_))
  | .anewarray idx => atT (gI0 hs 0) (Jvm.Cond.classLink own idx RX8)
  | .multianewarray idx d => decide (d = 2) && (Nat.beq r1 5 || Nat.beq r1 6) && atT (gI0 hs 0) (Jvm.Cond.classLink own idx ("[" ++ (FieldType.array (fty (r1 - 5))).toString)) && atT (gI0 hs 1) (Jvm.Cond.arrayClass (fty (r1 - 5)))
  | .ifCond _ off => decide (0 ≤ (pc : Int) + off)
  | .if_icmp _ off => decide (0 ≤ (pc : Int) + off)
  | .goto off => decide (0 ≤ (pc : Int) + off)
  | .tableswitch dflt lo hi offs => decide (hi = lo + offs.size - 1) && decide (0 ≤ (pc : Int) + dflt) && offs.toList.all fun o => decide (0 ≤ (pc : Int) + o)
  | .lookupswitch dflt ps => (ps.toList.zip (ps.toList.drop 1)).all (fun (a, next) => a.1 < next.1) && decide (0 ≤ (pc : Int) + dflt) && ps.toList.all fun o => decide (0 ≤ (pc : Int) + o.2)
  | _ => true
/-- the instance methods of the table: instanceMethod and selects stand in the tables -/
def instOk (mi : MI) : Prop := Jvm.Cond.instanceMethod mi.1 ∈ GW
def cfcB (own : String) (k idx : Nat) (r1 r2 : Nat) (r3 : Int) (hs : List Nat) : Bool := match r2 with
  | 10 => Nat.beq k 2 && atT (gI0 hs 0) (Jvm.Cond.methodLink own idx Lib.Math.max.name)
  | 11 => Nat.beq k 2 && atT (gI0 hs 0) (Jvm.Cond.methodLink own idx Lib.Math.min.name)
  | 12 => Nat.beq k 2 && atT (gI0 hs 0) (Jvm.Cond.methodLink own idx Lib.Math.abs.name)
  | 13 => Nat.beq k 2 && atT (gI0 hs 0) (Jvm.Cond.methodLink own idx arraycopyName)
  | 14 => Nat.beq k 1 && atT (gI0 hs 0) (Jvm.Cond.methodLink own idx objectInit)
  | 0 => match mtab[r1]? with
    | some mi => Nat.beq k 0 && atT (gI0 hs 0) (Jvm.Cond.methodLink own idx mi.1) && atT (gI0 hs 1) (Jvm.Cond.instanceMethod mi.1) && atT (gI0 hs 2) (Jvm.Cond.selects mi.1.cls mi.1 mi.1) && Nat.blt (r3 / 100).toNat 12 && decide (mi.1.cls = wdN (r3 / 100).toNat) && minst.getD r1 false && Nat.beq (r3 % 100).toNat mi.2.2.2.2.2.2
    | none => false
  | 5 => match mtab[r1]? with
    | some mi => Nat.beq k 0 && atT (gI0 hs 0) (Jvm.Cond.methodLink own idx mi.1) && atT (gI0 hs 1) (Jvm.Cond.instanceMethod mi.1) && atT (gI0 hs 2) (Jvm.Cond.selects mi.1.cls mi.1 mi.1) && decide (mi.1.cls = "java/lang/String") && minst.getD r1 false && Nat.beq (r3 % 100).toNat mi.2.2.2.2.2.2
    | none => false
  | 1 => match mtab[r1]? with
    | some mi => Nat.beq k 2 && atT (gI0 hs 0) (Jvm.Cond.methodLink own idx mi.1) && atT (gI0 hs 1) (Jvm.Cond.static mi.1) && !(minst.getD r1 false) && Nat.beq (r3 % 100).toNat mi.2.2.2.2.2.2
    | none => false
  | 3 => match mtab[r1]? with
    | some mi => Nat.beq k 2 && decide (Jvm.Cond.methodLinkNest own idx mi.1 RX10 ∈ nestW) && atT (gI0 hs 1) (Jvm.Cond.static mi.1) && !(minst.getD r1 false) && Nat.beq (r3 % 100).toNat mi.2.2.2.2.2.2
    | none => false
  | 2 => match mtab[r1]? with
    | some mi => Nat.beq k 1 && atT (gI0 hs 0) (Jvm.Cond.methodLink own idx mi.1) && atT (gI0 hs 1) (Jvm.Cond.instanceMethod mi.1) && decide (mi.1.name = "<init>") && decide (mi.2.2.2.1 = none) && minst.getD r1 false && Nat.beq (r3 % 100).toNat mi.2.2.2.2.2.2
    | none => false
  | 4 => match mtab[r1]? with
    | some mi => Nat.beq k 1 && decide (Jvm.Cond.methodLinkNest own idx mi.1 RX10 ∈ nestW) && atT (gI0 hs 1) (Jvm.Cond.instanceMethod mi.1) && decide (mi.1.name = "<init>") && decide (mi.2.2.2.1 = none) && minst.getD r1 false && Nat.beq (r3 % 100).toNat mi.2.2.2.2.2.2
    | none => false
  | _ => false
def thB (own : String) (nL : Nat) (i : Instr) (r1 r2 : Nat) (r3 : Int) (hs : List Nat) : Bool := match i with
  | .invokevirtual idx => cfcB own 0 idx r1 r2 r3 hs
  | .invokespecial idx => cfcB own 1 idx r1 r2 r3 hs
  | .invokestatic idx => cfcB own 2 idx r1 r2 r3 hs
  | .istore k => Nat.blt k nL
  | .astore k => Nat.blt k nL
  | .iinc k _ => Nat.blt k nL
  | .lstore k => Nat.blt (k + 1) nL
  | .istore_n k => Nat.blt k nL
  | .astore_n k => Nat.blt k nL
  | .lstore_n k => Nat.blt ((k : Nat) + 1) nL
  | _ => true
def rokB (own : String) (isI : Bool) (nL : Nat) (cc : ByteArray) (q : Nat × Instr × Nat × Nat × Int) (hs : List Nat) : Bool :=
  lenB cc q.1 q.2.1 (gI0 hs 0) && cfxB own isI q.1 q.2.1 q.2.2.1 q.2.2.2.1 q.2.2.2.2 hs && thB own nL q.2.1 q.2.2.1 q.2.2.2.1 q.2.2.2.2 hs
theorem bt {a b : Nat} (h : Nat.blt a b = true) : a < b := Nat.le_of_ble_eq_true h
theorem lenB_ok {cc : ByteArray} {pc : Nat} {i : Instr} {h : Nat} (hb : lenB cc pc i h = true) : ∃ len, decode cc pc = .ok (i, len) ∧ (isSw i = true ∨ len = lenI i) := by
  unfold lenB at hb
  split at hb
  · rename_i hs; exact ⟨h, of_decide_eq_true hb, Or.inl hs⟩
  · exact ⟨_, of_decide_eq_true hb, Or.inr rfl⟩
theorem cfxB_ok {own : String} {isI : Bool} {pc : Nat} {i : Instr} {r1 r2 : Nat} {r3 : Int} {hs : List Nat} (h : cfxB own isI pc i r1 r2 r3 hs = true) : cfx own isI pc i r1 r2 r3 := by
  cases i
  case getfield idx =>
    simp only [cfxB, Bool.and_eq_true] at h
    exact ⟨bt h.1.1.1, bt h.1.1.2, of_decide_eq_true h.1.2, atT_gw h.2⟩
  case putfield idx =>
    simp only [cfxB, Bool.and_eq_true, Bool.or_eq_true] at h
    exact ⟨bt h.1.1.1.1, bt h.1.1.1.2, of_decide_eq_true h.1.1.2, atT_gw h.1.2, h.2.imp of_decide_eq_true fun z => ⟨z.1, of_decide_eq_true z.2⟩⟩
  case ldc idx =>
    simp only [cfxB] at h
    split at h
    · rename_i e; exact Or.inl ⟨Nat.beq_eq.mp e, atT_gw h⟩
    · simp only [Bool.and_eq_true] at h
      exact Or.inr ⟨Nat.beq_eq.mp h.1.1.1, bt h.1.1.2, of_decide_eq_true h.1.2, of_decide_eq_true h.2⟩
  case ldc_w idx =>
    simp only [cfxB] at h
    split at h
    · rename_i e; exact Or.inl ⟨Nat.beq_eq.mp e, atT_gw h⟩
    · simp only [Bool.and_eq_true] at h
      exact Or.inr ⟨Nat.beq_eq.mp h.1.1.1, bt h.1.1.2, of_decide_eq_true h.1.2, of_decide_eq_true h.2⟩
  case ldc2_w idx => exact atT_gw h
  case new idx =>
    simp only [cfxB, Bool.and_eq_true] at h
    exact ⟨atT_gw h.1.1, atT_gw h.1.2, atT_gw h.2⟩
  case newarray a =>
    simp only [cfxB, Bool.and_eq_true] at h
    exact ⟨bt h.1.1, of_decide_eq_true h.1.2, atT_gw h.2⟩
  case anewarray idx => exact atT_gw h
  case multianewarray idx d =>
    simp only [cfxB, Bool.and_eq_true, Bool.or_eq_true] at h
    exact ⟨of_decide_eq_true h.1.1.1, h.1.1.2.imp Nat.beq_eq.mp Nat.beq_eq.mp, atT_gw h.1.2, atT_gw h.2⟩
  case ifCond c off => exact of_decide_eq_true (p := 0 ≤ (pc : Int) + off) h
  case if_icmp c off => exact of_decide_eq_true (p := 0 ≤ (pc : Int) + off) h
  case goto off => exact of_decide_eq_true (p := 0 ≤ (pc : Int) + off) h
  case tableswitch dflt lo hi offs =>
    simp only [cfxB, Bool.and_eq_true] at h
    exact ⟨of_decide_eq_true h.1.1, of_decide_eq_true h.1.2, fun o ho => of_decide_eq_true (List.all_eq_true.mp h.2 o ho)⟩
  case lookupswitch dflt ps =>
    simp only [cfxB, Bool.and_eq_true] at h
    exact ⟨h.1.1, of_decide_eq_true h.1.2, fun o ho => of_decide_eq_true (List.all_eq_true.mp h.2 o ho)⟩
  all_goals exact trivial
theorem cfcB_ok {own : String} {k idx : Nat} {r1 r2 : Nat} {r3 : Int} {hs : List Nat} {i : Instr} (hi : (k = 0 ∧ i = .invokevirtual idx) ∨ (k = 1 ∧ i = .invokespecial idx) ∨ (k = 2 ∧ i = .invokestatic idx)) (h : cfcB own k idx r1 r2 r3 hs = true) : cfc own i r1 r2 r3 ∧ ∀ mi, mtab[r1]? = some mi → r2 < 10 → (r3 % 100).toNat = mi.2.2.2.2.2.2 := by
  have i0 : k = 0 → i = .invokevirtual idx := fun e => by rcases hi with h | h | h <;> first | exact h.2 | omega
  have i1 : k = 1 → i = .invokespecial idx := fun e => by rcases hi with h | h | h <;> first | exact h.2 | omega
  have i2 : k = 2 → i = .invokestatic idx := fun e => by rcases hi with h | h | h <;> first | exact h.2 | omega
  unfold cfcB at h
  split at h
  · rw [Bool.and_eq_true] at h; exact ⟨⟨idx, i2 (Nat.beq_eq.mp h.1), atT_gw h.2⟩, fun _ _ h => by omega⟩
  · rw [Bool.and_eq_true] at h; exact ⟨⟨idx, i2 (Nat.beq_eq.mp h.1), atT_gw h.2⟩, fun _ _ h => by omega⟩
  · rw [Bool.and_eq_true] at h; exact ⟨⟨idx, i2 (Nat.beq_eq.mp h.1), atT_gw h.2⟩, fun _ _ h => by omega⟩
  · rw [Bool.and_eq_true] at h; exact ⟨⟨idx, i2 (Nat.beq_eq.mp h.1), atT_gw h.2⟩, fun _ _ h => by omega⟩
  · rw [Bool.and_eq_true] at h; exact ⟨⟨idx, i1 (Nat.beq_eq.mp h.1), atT_gw h.2⟩, fun _ _ h => by omega⟩
  · split at h
    · rename_i mi hmi
      simp only [Bool.and_eq_true] at h
      refine ⟨⟨idx, mi, i0 (Nat.beq_eq.mp h.1.1.1.1.1.1.1), hmi, atT_gw h.1.1.1.1.1.1.2, atT_gw h.1.1.1.1.1.2, atT_gw h.1.1.1.1.2, bt h.1.1.1.2, of_decide_eq_true h.1.1.2, h.1.2⟩, fun mi' hm _ => ?_⟩
      rw [hmi] at hm; cases hm; exact Nat.beq_eq.mp h.2
    · cases h
  · split at h
    · rename_i mi hmi
      simp only [Bool.and_eq_true] at h
      refine ⟨⟨idx, mi, i0 (Nat.beq_eq.mp h.1.1.1.1.1.1), hmi, atT_gw h.1.1.1.1.1.2, atT_gw h.1.1.1.1.2, atT_gw h.1.1.1.2, of_decide_eq_true h.1.1.2, h.1.2⟩, fun mi' hm _ => ?_⟩
      rw [hmi] at hm; cases hm; exact Nat.beq_eq.mp h.2
    · cases h
  · split at h
    · rename_i mi hmi
      simp only [Bool.and_eq_true, Bool.not_eq_true'] at h
      refine ⟨⟨idx, mi, i2 (Nat.beq_eq.mp h.1.1.1.1), hmi, atT_gw h.1.1.1.2, atT_gw h.1.1.2, h.1.2⟩, fun mi' hm _ => ?_⟩
      rw [hmi] at hm; cases hm; exact Nat.beq_eq.mp h.2
    · cases h
  · split at h
    · rename_i mi hmi
      simp only [Bool.and_eq_true, Bool.not_eq_true'] at h
      refine ⟨⟨idx, mi, i2 (Nat.beq_eq.mp h.1.1.1.1), hmi, of_decide_eq_true h.1.1.1.2, atT_gw h.1.1.2, h.1.2⟩, fun mi' hm _ => ?_⟩
      rw [hmi] at hm; cases hm; exact Nat.beq_eq.mp h.2
    · cases h
  · split at h
    · rename_i mi hmi
      simp only [Bool.and_eq_true] at h
      refine ⟨⟨idx, mi, i1 (Nat.beq_eq.mp h.1.1.1.1.1.1), hmi, atT_gw h.1.1.1.1.1.2, atT_gw h.1.1.1.1.2, of_decide_eq_true h.1.1.1.2, of_decide_eq_true h.1.1.2, h.1.2⟩, fun mi' hm _ => ?_⟩
      rw [hmi] at hm; cases hm; exact Nat.beq_eq.mp h.2
    · cases h
  · split at h
    · rename_i mi hmi
      simp only [Bool.and_eq_true] at h
      refine ⟨⟨idx, mi, i1 (Nat.beq_eq.mp h.1.1.1.1.1.1), hmi, of_decide_eq_true h.1.1.1.1.1.2, atT_gw h.1.1.1.1.2, of_decide_eq_true h.1.1.1.2, of_decide_eq_true h.1.1.2, h.1.2⟩, fun mi' hm _ => ?_⟩
      rw [hmi] at hm; cases hm; exact Nat.beq_eq.mp h.2
    · cases h
  · cases h
theorem rokB_ok {own : String} {isI : Bool} {nL : Nat} {cc : ByteArray} {q : Nat × Instr × Nat × Nat × Int} {hs : List Nat} (h : rokB own isI nL cc q hs = true) : rok own isI nL cc q := by
  obtain ⟨pc, i, r1, r2, r3⟩ := q
  simp only [rokB, Bool.and_eq_true] at h
  refine ⟨lenB_ok h.1.1, cfxB_ok h.1.2, ?_⟩
  have h3 := h.2
  cases i <;> first
    | exact trivial
    | exact cfcB_ok (Or.inl ⟨rfl, rfl⟩) h3
    | exact cfcB_ok (Or.inr (Or.inl ⟨rfl, rfl⟩)) h3
    | exact cfcB_ok (Or.inr (Or.inr ⟨rfl, rfl⟩)) h3
    | exact bt h3
def allB (own : String) (isI : Bool) (nL : Nat) (cc : ByteArray) : AC → List (List Nat) → Bool
  | [], _ => true
  | q :: t, [] => rokB own isI nL cc q [] && allB own isI nL cc t []
  | q :: t, hs :: ht => rokB own isI nL cc q hs && allB own isI nL cc t ht
theorem allB_ok {own : String} {isI : Bool} {nL : Nat} {cc : ByteArray} : ∀ {ac : AC} {hs : List (List Nat)}, allB own isI nL cc ac hs = true → ∀ q ∈ ac, rok own isI nL cc q
  | [], _, _, q, hq => absurd hq List.not_mem_nil
  | q :: t, [], h, q', hq => by
    unfold allB at h
    rw [Bool.and_eq_true] at h
    rcases List.mem_cons.mp hq with rfl | hq
    · exact rokB_ok h.1
    · exact allB_ok h.2 q' hq
  | q :: t, hs :: ht, h, q', hq => by
    unfold allB at h
    rw [Bool.and_eq_true] at h
    rcases List.mem_cons.mp hq with rfl | hq
    · exact rokB_ok h.1
    · exact allB_ok h.2 q' hq
def acokB (mi : MI) (hs : List (List Nat)) : Bool := allB mi.1.cls (decide (mi.1.name = "<init>")) mi.2.2.1 mi.2.1 mi.2.2.2.2.1 hs
theorem acokB_ok {mi : MI} {hs : List (List Nat)} (h : acokB mi hs = true) : acok mi := allB_ok h
def mokB (mi : MI) (n : Nat) (hs : List Nat) : Bool := atT (gI0 hs 0) (Jvm.Cond.code mi.1 mi.2.1 mi.2.2.1 mi.2.2.2.1) && atT (gI0 hs 1) (Jvm.Cond.initialized mi.1.cls) && plainName mi.1.cls && decide (mi.1.cls ≠ "java/lang/invoke/MethodHandle") && decide (mi.1.cls ≠ "java/lang/invoke/VarHandle") && decide ((parseMethodDescriptor mi.1.desc).map (fun d => d.parameters.length) = some n) && Nat.ble mi.2.2.1 40
theorem mokB_ok {mi : MI} {n : Nat} {hs : List Nat} (h : mokB mi n hs = true) : mok mi n := by
  simp only [mokB, Bool.and_eq_true] at h
  exact ⟨atT_gw h.1.1.1.1.1.1, atT_gw h.1.1.1.1.1.2, h.1.1.1.1.2, of_decide_eq_true h.1.1.1.2, of_decide_eq_true h.1.1.2, of_decide_eq_true h.1.2, Nat.ble_eq.mp h.2⟩
def allM : List MI → List Bool → List (Nat × List Nat) → Bool
  | [], _, _ => true
  | mi :: t, b :: bt, q :: qt => mokB mi q.1 q.2 && Nat.beq mi.2.2.2.2.2.2 (if b then q.1 + 1 else q.1) && allM t bt qt
  | _, _, _ => false
theorem allM_ok : ∀ {l : List MI} {bs : List Bool} {qs : List (Nat × List Nat)}, allM l bs qs = true → ∀ (k : Nat) (mi : MI), l[k]? = some mi → ∃ n, mok mi n ∧ mi.2.2.2.2.2.2 = if bs.getD k false = true then n + 1 else n
  | [], _, _, _, k, mi, h => by simp at h
  | m :: t, b :: bt, q :: qt, h, k, mi, hk => by
    simp only [allM, Bool.and_eq_true] at h
    cases k with
    | zero => cases hk; exact ⟨q.1, mokB_ok h.1.1, Nat.beq_eq.mp h.1.2⟩
    | succ k => exact allM_ok h.2 k mi (by simpa using hk)
  | _ :: _, [], _, h, _, _, _ => by cases h
  | _ :: _, _ :: _, [], h, _, _, _ => by cases h
