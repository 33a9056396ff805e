section
/-! RUNS STEP BY STEP: ints as I e, e a whole number; K closed under the rows of a method (CLO) -/
noncomputable def I (e : Int) : Int32 := Int32.ofInt e
noncomputable def J (e : Int) : Int64 := Int64.ofInt e
noncomputable abbrev r32 (e : Int) : Prop := -2147483648 ≤ e ∧ e ≤ 2147483647
noncomputable abbrev r64 (e : Int) : Prop := -9223372036854775808 ≤ e ∧ e ≤ 9223372036854775807
theorem I_t {e : Int} (h : r32 e) : (I e).toInt = e := Int32.toInt_ofInt_of_le (by unfold r32 at h; omega) (by unfold r32 at h; omega)
theorem J_t {e : Int} (h : r64 e) : (J e).toInt = e := Int64.toInt_ofInt_of_le (by unfold r64 at h; omega) (by unfold r64 at h; omega)
theorem t_I (x : Int32) : I x.toInt = x := Int32.ofInt_toInt x
theorem t_J (x : Int64) : J x.toInt = x := Int64.ofInt_toInt x
theorem r_I (x : Int32) : r32 x.toInt := ⟨i32_lo x, i32_hi x⟩
theorem r_J (x : Int64) : r64 x.toInt := ⟨i64_lo x, i64_hi x⟩
theorem I_add (a b : Int) : I a + I b = I (a + b) := (Int32.ofInt_add a b).symm
theorem I_sub (a b : Int) : I a - I b = I (a - b) := (Int32.ofInt_sub a b).symm
theorem I_mul (a b : Int) : I a * I b = I (a * b) := (Int32.ofInt_mul a b).symm
theorem I_neg (a : Int) : -I a = I (-a) := (Int32.ofInt_neg a).symm
theorem J_add (a b : Int) : J a + J b = J (a + b) := (Int64.ofInt_add a b).symm
theorem J_sub (a b : Int) : J a - J b = J (a - b) := (Int64.ofInt_sub a b).symm
theorem J_mul (a b : Int) : J a * J b = J (a * b) := (Int64.ofInt_mul a b).symm
theorem I_inj {a b : Int} (ha : r32 a) (hb : r32 b) : I a = I b ↔ a = b := ⟨fun h => by have := congrArg Int32.toInt h; rwa [I_t ha, I_t hb] at this, fun h => by rw [h]⟩
theorem I_lt {a b : Int} (ha : r32 a) (hb : r32 b) : I a < I b ↔ a < b := by rw [Int32.lt_iff_toInt_lt, I_t ha, I_t hb]
theorem I_le {a b : Int} (ha : r32 a) (hb : r32 b) : I a ≤ I b ↔ a ≤ b := by rw [Int32.le_iff_toInt_le, I_t ha, I_t hb]
theorem J_lt {a b : Int} (ha : r64 a) (hb : r64 b) : J a < J b ↔ a < b := by rw [Int64.lt_iff_toInt_lt, J_t ha, J_t hb]
theorem I_nat {a : Int} (h0 : 0 ≤ a) (h1 : a ≤ 2147483647) : (I a).toNatClampNeg = a.toNat := by
  show (I a).toInt.toNat = a.toNat
  rw [I_t ⟨by omega, h1⟩]
theorem z_I : (0 : Int32) = I 0 := rfl
theorem vp_I {a : Int} {n : Nat} (h0 : 0 ≤ a) (h1 : a < n) (h2 : a ≤ 2147483647) : vp_in (I a) n := by
  unfold vp_in
  rw [I_nat h0 h2]
  rintro (h | h)
  · rw [z_I, I_lt ⟨by omega, h2⟩ ⟨by omega, by omega⟩] at h; omega
  · omega
theorem I_div {a b : Int} (ha : r32 a) (hb : r32 b) (hm : b ≠ -1 ∨ a ≠ -2147483648) : I a / I b = I (a.tdiv b) := by
  apply Int32.toInt.inj
  have h1 : r32 (a.tdiv b) := by
    unfold r32 at *
    have hle : (a.tdiv b).natAbs ≤ a.natAbs := by rw [Int.natAbs_tdiv]; exact Nat.div_le_self _ _
    have hx : a.natAbs ≤ 2147483648 := by omega
    by_cases hq : a.tdiv b = 2147483648
    · exfalso
      have h2 : a = -2147483648 := by omega
      rcases hm with hm | hm
      · rw [h2] at hq
        have h3 := congrArg Int.natAbs hq
        rw [Int.natAbs_tdiv] at h3
        have h4 : b.natAbs = 1 := by
          have h5 : (2147483648 : Nat) / b.natAbs = 2147483648 := h3
          have h6 : b.natAbs * 2147483648 ≤ 2147483648 := by
            have := Nat.div_mul_le_self 2147483648 b.natAbs
            rw [h5] at this; omega
          have h7 : b.natAbs ≠ 0 := by intro h; rw [h] at h5; simp at h5
          omega
        have h8 : b = 1 := by omega
        rw [h8] at hq
        simp at hq
      · exact hm h2
    · omega
  rcases hm with hm | hm
  · rw [Int32.toInt_div_of_ne_right _ _ (fun h => hm (by have := congrArg Int32.toInt h; rwa [I_t hb] at this)), I_t ha, I_t hb, I_t h1]
  · rw [Int32.toInt_div_of_ne_left _ _ (fun h => hm (by have := congrArg Int32.toInt h; rwa [I_t ha] at this)), I_t ha, I_t hb, I_t h1]
theorem I_divp {a b : Int} (ha : r32 a) (hb : r32 b) (h0 : 0 ≤ a) (h1 : 0 < b) : I a / I b = I (a / b) := by
  rw [I_div ha hb (Or.inl (by omega)), Int.tdiv_eq_ediv_of_nonneg h0]
theorem I_remp {a b : Int} (ha : r32 a) (hb : r32 b) (h0 : 0 ≤ a) (h1 : 0 < b) : I a - I a / I b * I b = I (a % b) := by
  rw [I_divp ha hb h0 h1, I_mul, I_sub]
  congr 1
  have := Int.emod_add_mul_ediv a b
  have e : b * (a / b) = a / b * b := Int.mul_comm _ _
  omega
theorem I_rem {a b : Int} (ha : r32 a) (hb : r32 b) (hm : b ≠ -1 ∨ a ≠ -2147483648) : I a - I a / I b * I b = I (a.tmod b) := by
  rw [I_div ha hb hm, I_mul, I_sub]
  congr 1
  have := Int.tmod_add_mul_tdiv a b
  have e : b * (a.tdiv b) = a.tdiv b * b := Int.mul_comm _ _
  omega
/-- ints of the heap, as whole numbers -/
noncomputable def gi (h : aH) (a k : Nat) : Int := (aI h a k).toInt
noncomputable def wI (h : aH) (a k : Nat) (e : Int) : aH := sI h a k (I e)
theorem gi_r (h : aH) (a k : Nat) : r32 (gi h a k) := r_I _
theorem gi_I (h : aH) (a k : Nat) : aI h a k = I (gi h a k) := (t_I _).symm
theorem gi_same {h : aH} {a k : Nat} {e : Int} (hr : r32 e) : gi (wI h a k e) a k = e := by
  show (aI (sI h a k (I e)) a k).toInt = e
  have : aI (sI h a k (I e)) a k = I e := by simp [aI, sI, up_s, upd]
  rw [this, I_t hr]
theorem gi_k {h : aH} {a k j : Nat} {e : Int} (hj : j ≠ k) (b : Nat) : gi (wI h a k e) b j = gi h b j := by
  have : aI (sI h a k (I e)) b j = aI h b j := by
    by_cases hb : b = a
    · subst hb; simp [aI, sI, up_s, upd, hj]
    · simp [aI, sI, up_n hb]
  show (aI (sI h a k (I e)) b j).toInt = _
  rw [this]; rfl
theorem gi_a {h : aH} {a b k : Nat} {e : Int} (hb : b ≠ a) (j : Nat) : gi (wI h a k e) b j = gi h b j := by
  have : aI (sI h a k (I e)) b j = aI h b j := by simp [aI, sI, up_n hb]
  show (aI (sI h a k (I e)) b j).toInt = _
  rw [this]; rfl
/-- a row of a method's code -/
noncomputable def fr (ac : AC) (pc : Nat) : Option (Instr × Nat × Nat × Int) := match ac with
  | [] => none
  | q :: t => if Nat.beq q.1 pc then some q.2 else fr t pc
theorem fr_mem : ∀ {ac : AC} {pc : Nat} {q : Instr × Nat × Nat × Int}, fr ac pc = some q → (pc, q) ∈ ac
  | [], _, _, h => by cases h
  | z :: t, pc, q, h => by
    unfold fr at h
    split at h
    · rename_i e
      cases h
      rw [← Nat.beq_eq.mp e]
      exact List.mem_cons_self
    · exact List.mem_cons_of_mem _ (fr_mem h)
section SX
variable {CL : CT} {ac : AC} {ret : Option FieldType} {Q : QT} {K : KT} (hK : CLO CL ac ret Q K)
variable {i : Instr} {r1 r2 : Nat} {r3 : Int} {pc : Nat} {ls : List (Nat × Value)} {st : List Value} {h : aH} {bc bs : Nat}
theorem x_row (hK : CLO CL ac ret Q K) (hf : fr ac pc = some (i, r1, r2, r3)) (hs : stp CL ret Q K i r1 r2 r3 pc ls st h bc bs) : K pc ls st h bc bs := hK _ _ _ _ _ _ ⟨i, r1, r2, r3, fr_mem hf, hs⟩

theorem x_iconst (p : Nat) {n : Int} (hK : CLO CL ac ret Q K) (hf : fr ac pc = some (.iconst n, r1, r2, r3)) (hp : pc + 1 = p) (hk : K p ls (.int (I n) :: st) h bc bs) : K pc ls st h bc bs := by
  subst hp; exact x_row hK hf hk
theorem i8 {n : Int} (h1 : -128 ≤ n) (h2 : n ≤ 127) : (Int8.ofInt n).toInt32 = I n := by
  apply Int32.toInt.inj
  rw [I_t ⟨by omega, by omega⟩, Int8.toInt_toInt32, Int8.toInt_ofInt_of_le (by omega) (by omega)]
theorem i16 {n : Int} (h1 : -32768 ≤ n) (h2 : n ≤ 32767) : (Int16.ofInt n).toInt32 = I n := by
  apply Int32.toInt.inj
  rw [I_t ⟨by omega, by omega⟩, Int16.toInt_toInt32, Int16.toInt_ofInt_of_le (by omega) (by omega)]
theorem x_bipush (p : Nat) {n : Int} (hK : CLO CL ac ret Q K) (hf : fr ac pc = some (.bipush n, r1, r2, r3)) (hp : pc + 2 = p) (hn : (decide (-128 ≤ n) && decide (n ≤ 127)) = true) (hk : K p ls (.int (I n) :: st) h bc bs) : K pc ls st h bc bs := by
  subst hp
  rw [Bool.and_eq_true, decide_eq_true_eq, decide_eq_true_eq] at hn
  rw [← i8 hn.1 hn.2] at hk
  exact x_row hK hf hk
theorem x_sipush (p : Nat) {n : Int} (hK : CLO CL ac ret Q K) (hf : fr ac pc = some (.sipush n, r1, r2, r3)) (hp : pc + 3 = p) (hn : (decide (-32768 ≤ n) && decide (n ≤ 32767)) = true) (hk : K p ls (.int (I n) :: st) h bc bs) : K pc ls st h bc bs := by
  subst hp
  rw [Bool.and_eq_true, decide_eq_true_eq, decide_eq_true_eq] at hn
  rw [← i16 hn.1 hn.2] at hk
  exact x_row hK hf hk
theorem x_ldcS (p : Nat) {n : Nat} (hK : CLO CL ac ret Q K) (hf : fr ac pc = some (.ldc n, 1, r2, r3)) (hp : pc + 2 = p) (hk : K p ls (.ref (1000000 + r2) :: st) h bc bs) : K pc ls st h bc bs := by
  subst hp; exact x_row hK hf hk
theorem x_ldc_w (p : Nat) {n : Nat} (hK : CLO CL ac ret Q K) (hf : fr ac pc = some (.ldc_w n, 0, r2, r3)) (hp : pc + 3 = p) (hk : K p ls (.int (I r3) :: st) h bc bs) : K pc ls st h bc bs := by
  subst hp; exact x_row hK hf hk
theorem x_ldc_wS (p : Nat) {n : Nat} (hK : CLO CL ac ret Q K) (hf : fr ac pc = some (.ldc_w n, 1, r2, r3)) (hp : pc + 3 = p) (hk : K p ls (.ref (1000000 + r2) :: st) h bc bs) : K pc ls st h bc bs := by
  subst hp; exact x_row hK hf hk
theorem x_ldc2_w (p : Nat) {n : Nat} (hK : CLO CL ac ret Q K) (hf : fr ac pc = some (.ldc2_w n, r1, r2, r3)) (hp : pc + 3 = p) (hk : K p ls (.long (J r3) :: st) h bc bs) : K pc ls st h bc bs := by
  subst hp; exact x_row hK hf hk
theorem x_lconst (p : Nat) {n : Fin 2} (hK : CLO CL ac ret Q K) (hf : fr ac pc = some (.lconst n, r1, r2, r3)) (hp : pc + 1 = p) (hk : K p ls (.long (J (n : Nat)) :: st) h bc bs) : K pc ls st h bc bs := by
  subst hp
  have e : J (n : Nat) = Int64.ofNat (n : Nat) := Int64.ofInt_eq_ofNat
  rw [e] at hk
  exact x_row hK hf hk
theorem x_iload_n (p : Nat) {k : Fin 4} {x : Int32} (hK : CLO CL ac ret Q K) (hf : fr ac pc = some (.iload_n k, r1, r2, r3)) (hp : pc + 1 = p) (hl : lk ls (k : Nat) = some (.int x)) (hk : K p ls (.int x :: st) h bc bs) : K pc ls st h bc bs := by
  subst hp
  refine x_row hK hf ?_
  show l_i (lk ls (k : Nat)) _
  rw [hl]
  exact hk
theorem x_istore_n (p : Nat) {k : Fin 4} {x : Int32} (hK : CLO CL ac ret Q K) (hf : fr ac pc = some (.istore_n k, r1, r2, r3)) (hp : pc + 1 = p) (ls' : List (Nat × Value)) (hl : so1 ls (k : Nat) (.int x) = ls') (hk : K p ls' st h bc bs) : K pc ls (.int x :: st) h bc bs := by
  subst hp hl; exact x_row hK hf hk
theorem x_iload (p : Nat) {k : Nat} {x : Int32} (hK : CLO CL ac ret Q K) (hf : fr ac pc = some (.iload k, r1, r2, r3)) (hp : pc + 2 = p) (hl : lk ls k = some (.int x)) (hk : K p ls (.int x :: st) h bc bs) : K pc ls st h bc bs := by
  subst hp
  refine x_row hK hf ?_
  show l_i (lk ls k) _
  rw [hl]
  exact hk
theorem x_istore (p : Nat) {k : Nat} {x : Int32} (hK : CLO CL ac ret Q K) (hf : fr ac pc = some (.istore k, r1, r2, r3)) (hp : pc + 2 = p) (ls' : List (Nat × Value)) (hl : so1 ls k (.int x) = ls') (hk : K p ls' st h bc bs) : K pc ls (.int x :: st) h bc bs := by
  subst hp hl; exact x_row hK hf hk
theorem x_lload_n (p : Nat) {k : Fin 4} {x : Int64} (hK : CLO CL ac ret Q K) (hf : fr ac pc = some (.lload_n k, r1, r2, r3)) (hp : pc + 1 = p) (hl : lk ls (k : Nat) = some (.long x)) (hk : K p ls (.long x :: st) h bc bs) : K pc ls st h bc bs := by
  subst hp
  refine x_row hK hf ?_
  show l_l (lk ls (k : Nat)) _
  rw [hl]
  exact hk
theorem x_lstore_n (p : Nat) {k : Fin 4} {x : Int64} (hK : CLO CL ac ret Q K) (hf : fr ac pc = some (.lstore_n k, r1, r2, r3)) (hp : pc + 1 = p) (ls' : List (Nat × Value)) (hl : so2 ls (k : Nat) (.long x) = ls') (hk : K p ls' st h bc bs) : K pc ls (.long x :: st) h bc bs := by
  subst hp hl; exact x_row hK hf hk
theorem x_lload (p : Nat) {k : Nat} {x : Int64} (hK : CLO CL ac ret Q K) (hf : fr ac pc = some (.lload k, r1, r2, r3)) (hp : pc + 2 = p) (hl : lk ls k = some (.long x)) (hk : K p ls (.long x :: st) h bc bs) : K pc ls st h bc bs := by
  subst hp
  refine x_row hK hf ?_
  show l_l (lk ls k) _
  rw [hl]
  exact hk
theorem x_lstore (p : Nat) {k : Nat} {x : Int64} (hK : CLO CL ac ret Q K) (hf : fr ac pc = some (.lstore k, r1, r2, r3)) (hp : pc + 2 = p) (ls' : List (Nat × Value)) (hl : so2 ls k (.long x) = ls') (hk : K p ls' st h bc bs) : K pc ls (.long x :: st) h bc bs := by
  subst hp hl; exact x_row hK hf hk
theorem x_aload_n (p : Nat) {k : Fin 4} {x : Nat} (hK : CLO CL ac ret Q K) (hf : fr ac pc = some (.aload_n k, r1, r2, r3)) (hp : pc + 1 = p) (hl : lk ls (k : Nat) = some (.ref x)) (hk : K p ls (.ref x :: st) h bc bs) : K pc ls st h bc bs := by
  subst hp
  refine x_row hK hf ?_
  show l_r (lk ls (k : Nat)) _
  rw [hl]
  exact hk
theorem x_astore_n (p : Nat) {k : Fin 4} {x : Nat} (hK : CLO CL ac ret Q K) (hf : fr ac pc = some (.astore_n k, r1, r2, r3)) (hp : pc + 1 = p) (ls' : List (Nat × Value)) (hl : so1 ls (k : Nat) (.ref x) = ls') (hk : K p ls' st h bc bs) : K pc ls (.ref x :: st) h bc bs := by
  subst hp hl; exact x_row hK hf hk
theorem x_iinc (p : Nat) {k : Nat} {n e : Int} (hK : CLO CL ac ret Q K) (hf : fr ac pc = some (.iinc k n, r1, r2, r3)) (hp : pc + 3 = p) (hl : lk ls k = some (.int (I e))) (ls' : List (Nat × Value)) (hs : so1 ls k (.int (I (e + n))) = ls') (hk : K p ls' st h bc bs) : K pc ls st h bc bs := by
  subst hp hs
  refine x_row hK hf ?_
  show l_i (lk ls k) _
  rw [hl]
  show K _ (so1 ls k (.int (I e + I n))) _ _ _ _
  rw [I_add]
  exact hk
theorem x_iadd (p : Nat) {a b : Int} (hK : CLO CL ac ret Q K) (hf : fr ac pc = some (.iadd, r1, r2, r3)) (hp : pc + 1 = p) (hk : K p ls (.int (I (a + b)) :: st) h bc bs) : K pc ls (.int (I b) :: .int (I a) :: st) h bc bs := by
  subst hp
  rw [← I_add] at hk
  exact x_row hK hf hk
theorem x_ladd (p : Nat) {a b : Int} (hK : CLO CL ac ret Q K) (hf : fr ac pc = some (.ladd, r1, r2, r3)) (hp : pc + 1 = p) (hk : K p ls (.long (J (a + b)) :: st) h bc bs) : K pc ls (.long (J b) :: .long (J a) :: st) h bc bs := by
  subst hp
  rw [← J_add] at hk
  exact x_row hK hf hk
theorem x_isub (p : Nat) {a b : Int} (hK : CLO CL ac ret Q K) (hf : fr ac pc = some (.isub, r1, r2, r3)) (hp : pc + 1 = p) (hk : K p ls (.int (I (a - b)) :: st) h bc bs) : K pc ls (.int (I b) :: .int (I a) :: st) h bc bs := by
  subst hp
  rw [← I_sub] at hk
  exact x_row hK hf hk
theorem x_imul (p : Nat) {a b : Int} (hK : CLO CL ac ret Q K) (hf : fr ac pc = some (.imul, r1, r2, r3)) (hp : pc + 1 = p) (hk : K p ls (.int (I (a * b)) :: st) h bc bs) : K pc ls (.int (I b) :: .int (I a) :: st) h bc bs := by
  subst hp
  rw [← I_mul] at hk
  exact x_row hK hf hk
theorem x_lmul (p : Nat) {a b : Int} (hK : CLO CL ac ret Q K) (hf : fr ac pc = some (.lmul, r1, r2, r3)) (hp : pc + 1 = p) (hk : K p ls (.long (J (a * b)) :: st) h bc bs) : K pc ls (.long (J b) :: .long (J a) :: st) h bc bs := by
  subst hp
  rw [← J_mul] at hk
  exact x_row hK hf hk
theorem x_ineg (p : Nat) {a : Int} (hK : CLO CL ac ret Q K) (hf : fr ac pc = some (.ineg, r1, r2, r3)) (hp : pc + 1 = p) (hk : K p ls (.int (I (-a)) :: st) h bc bs) : K pc ls (.int (I a) :: st) h bc bs := by
  subst hp
  rw [← I_neg] at hk
  exact x_row hK hf hk
theorem I_ne0 {b : Int} (hb : r32 b) (h0 : b ≠ 0) : ¬ I b = 0 := by
  rw [z_I, I_inj hb ⟨by omega, by omega⟩]; exact h0
/-- division: of any two (tdiv), of one that isn't negative by one above 0 (/) -/
theorem x_idiv (p : Nat) {a b : Int} (hK : CLO CL ac ret Q K) (hf : fr ac pc = some (.idiv, r1, r2, r3)) (hp : pc + 1 = p) (ha : r32 a) (hb : r32 b) (h0 : b ≠ 0) (hm : b ≠ -1 ∨ a ≠ -2147483648) (hk : K p ls (.int (I (a.tdiv b)) :: st) h bc bs) : K pc ls (.int (I b) :: .int (I a) :: st) h bc bs := by
  subst hp
  rw [← I_div ha hb hm] at hk
  exact x_row hK hf ⟨I_ne0 hb h0, hk⟩
theorem x_idivp (p : Nat) {a b : Int} (hK : CLO CL ac ret Q K) (hf : fr ac pc = some (.idiv, r1, r2, r3)) (hp : pc + 1 = p) (ha : r32 a) (hb : r32 b) (h0 : 0 ≤ a) (h1 : 0 < b) (hk : K p ls (.int (I (a / b)) :: st) h bc bs) : K pc ls (.int (I b) :: .int (I a) :: st) h bc bs := by
  subst hp
  rw [← I_divp ha hb h0 h1] at hk
  exact x_row hK hf ⟨I_ne0 hb (by omega), hk⟩
theorem x_irem (p : Nat) {a b : Int} (hK : CLO CL ac ret Q K) (hf : fr ac pc = some (.irem, r1, r2, r3)) (hp : pc + 1 = p) (ha : r32 a) (hb : r32 b) (h0 : b ≠ 0) (hm : b ≠ -1 ∨ a ≠ -2147483648) (hk : K p ls (.int (I (a.tmod b)) :: st) h bc bs) : K pc ls (.int (I b) :: .int (I a) :: st) h bc bs := by
  subst hp
  rw [← I_rem ha hb hm] at hk
  exact x_row hK hf ⟨I_ne0 hb h0, hk⟩
theorem x_iremp (p : Nat) {a b : Int} (hK : CLO CL ac ret Q K) (hf : fr ac pc = some (.irem, r1, r2, r3)) (hp : pc + 1 = p) (ha : r32 a) (hb : r32 b) (h0 : 0 ≤ a) (h1 : 0 < b) (hk : K p ls (.int (I (a % b)) :: st) h bc bs) : K pc ls (.int (I b) :: .int (I a) :: st) h bc bs := by
  subst hp
  rw [← I_remp ha hb h0 h1] at hk
  exact x_row hK hf ⟨I_ne0 hb (by omega), hk⟩
theorem x_iand (p : Nat) {a b c : Int} (hK : CLO CL ac ret Q K) (hf : fr ac pc = some (.iand, r1, r2, r3)) (hp : pc + 1 = p) (hc : I a &&& I b = I c) (hk : K p ls (.int (I c) :: st) h bc bs) : K pc ls (.int (I b) :: .int (I a) :: st) h bc bs := by
  subst hp
  rw [← hc] at hk
  exact x_row hK hf hk
theorem x_ior (p : Nat) {a b c : Int} (hK : CLO CL ac ret Q K) (hf : fr ac pc = some (.ior, r1, r2, r3)) (hp : pc + 1 = p) (hc : I a ||| I b = I c) (hk : K p ls (.int (I c) :: st) h bc bs) : K pc ls (.int (I b) :: .int (I a) :: st) h bc bs := by
  subst hp
  rw [← hc] at hk
  exact x_row hK hf hk
theorem x_ixor (p : Nat) {a b c : Int} (hK : CLO CL ac ret Q K) (hf : fr ac pc = some (.ixor, r1, r2, r3)) (hp : pc + 1 = p) (hc : I a ^^^ I b = I c) (hk : K p ls (.int (I c) :: st) h bc bs) : K pc ls (.int (I b) :: .int (I a) :: st) h bc bs := by
  subst hp
  rw [← hc] at hk
  exact x_row hK hf hk
theorem x_ishl (p : Nat) {a b c : Int} (hK : CLO CL ac ret Q K) (hf : fr ac pc = some (.ishl, r1, r2, r3)) (hp : pc + 1 = p) (hc : I a <<< (I b &&& 31) = I c) (hk : K p ls (.int (I c) :: st) h bc bs) : K pc ls (.int (I b) :: .int (I a) :: st) h bc bs := by
  subst hp
  rw [← hc] at hk
  exact x_row hK hf hk
theorem x_ishr (p : Nat) {a b c : Int} (hK : CLO CL ac ret Q K) (hf : fr ac pc = some (.ishr, r1, r2, r3)) (hp : pc + 1 = p) (hc : I a >>> (I b &&& 31) = I c) (hk : K p ls (.int (I c) :: st) h bc bs) : K pc ls (.int (I b) :: .int (I a) :: st) h bc bs := by
  subst hp
  rw [← hc] at hk
  exact x_row hK hf hk
theorem x_iushr (p : Nat) {a b c : Int} (hK : CLO CL ac ret Q K) (hf : fr ac pc = some (.iushr, r1, r2, r3)) (hp : pc + 1 = p) (hc : ((I a).toUInt32 >>> ((I b).toUInt32 &&& Int32.toUInt32 31)).toInt32 = I c) (hk : K p ls (.int (I c) :: st) h bc bs) : K pc ls (.int (I b) :: .int (I a) :: st) h bc bs := by
  subst hp
  rw [← hc] at hk
  exact x_row hK hf hk
theorem x_i2l (p : Nat) {a : Int} (hK : CLO CL ac ret Q K) (hf : fr ac pc = some (.i2l, r1, r2, r3)) (hp : pc + 1 = p) (ha : r32 a) (hk : K p ls (.long (J a) :: st) h bc bs) : K pc ls (.int (I a) :: st) h bc bs := by
  subst hp
  have e : J a = (I a).toInt64 := by
    apply Int64.toInt.inj
    unfold r32 at ha
    rw [Int32.toInt_toInt64, I_t ha, J_t ⟨by omega, by omega⟩]
  rw [e] at hk
  exact x_row hK hf hk
theorem x_l2i (p : Nat) {a : Int} (hK : CLO CL ac ret Q K) (hf : fr ac pc = some (.l2i, r1, r2, r3)) (hp : pc + 1 = p) (hk : K p ls (.int (I a) :: st) h bc bs) : K pc ls (.long (J a) :: st) h bc bs := by
  subst hp
  have e : I a = (J a).toInt32 := by
    apply Int32.toInt.inj
    show (Int32.ofInt a).toInt = (Int64.ofInt a).toInt32.toInt
    rw [Int64.toInt32_ofInt]
  rw [e] at hk
  exact x_row hK hf hk
theorem x_i2c (p : Nat) {a c : Int} (hK : CLO CL ac ret Q K) (hf : fr ac pc = some (.i2c, r1, r2, r3)) (hp : pc + 1 = p) (hc : ((I a).toUInt32 % 65536).toInt32 = I c) (hk : K p ls (.int (I c) :: st) h bc bs) : K pc ls (.int (I a) :: st) h bc bs := by
  subst hp
  rw [← hc] at hk
  exact x_row hK hf hk
theorem lg_J {a b : Int} (ha : r64 a) (hb : r64 b) : lg_cmp (J a) (J b) = I (if a < b then -1 else if b < a then 1 else 0) := by
  have h1 := J_lt ha hb
  have h2 := J_lt hb ha
  have h3 : J a = J b ↔ a = b := ⟨fun h => by have := congrArg Int64.toInt h; rwa [J_t ha, J_t hb] at this, fun h => by rw [h]⟩
  have e : lg_cmp (J a) (J b) = if J a > J b then 1 else if J a = J b then 0 else -1 := rfl
  rw [e]
  by_cases c1 : a < b
  · rw [if_pos c1, if_neg (fun h => by have := h2.mp h; omega), if_neg (fun h => by have := h3.mp h; omega)]; rfl
  · rw [if_neg c1]
    by_cases c2 : b < a
    · rw [if_pos c2, if_pos (h2.mpr c2)]; rfl
    · rw [if_neg c2, if_neg (fun h => c2 (h2.mp h)), if_pos (h3.mpr (by omega))]; rfl
theorem x_lcmp (p : Nat) {a b : Int} (hK : CLO CL ac ret Q K) (hf : fr ac pc = some (.lcmp, r1, r2, r3)) (hp : pc + 1 = p) (ha : r64 a) (hb : r64 b) (hk : K p ls (.int (I (if a < b then -1 else if b < a then 1 else 0)) :: st) h bc bs) : K pc ls (.long (J b) :: .long (J a) :: st) h bc bs := by
  subst hp
  rw [← lg_J ha hb] at hk
  exact x_row hK hf hk
theorem x_dup (p : Nat) {v : Value} (hK : CLO CL ac ret Q K) (hf : fr ac pc = some (.dup, r1, r2, r3)) (hp : pc + 1 = p) (hc : v.category = 1) (hk : K p ls (v :: v :: st) h bc bs) : K pc ls (v :: st) h bc bs := by
  subst hp; exact x_row hK hf ⟨hc, hk⟩
theorem x_pop (p : Nat) {v : Value} (hK : CLO CL ac ret Q K) (hf : fr ac pc = some (.pop, r1, r2, r3)) (hp : pc + 1 = p) (hc : v.category = 1) (hk : K p ls st h bc bs) : K pc ls (v :: st) h bc bs := by
  subst hp; exact x_row hK hf ⟨hc, hk⟩
theorem x_dup2 (p : Nat) {v w : Value} (hK : CLO CL ac ret Q K) (hf : fr ac pc = some (.dup2, r1, r2, r3)) (hp : pc + 1 = p) (hc : v.category = 1) (hd : w.category = 1) (hk : K p ls (v :: w :: v :: w :: st) h bc bs) : K pc ls (v :: w :: st) h bc bs := by
  subst hp; exact x_row hK hf ⟨hc, hd, hk⟩
theorem x_goto (p : Nat) {off : Int} (hK : CLO CL ac ret Q K) (hf : fr ac pc = some (.goto off, r1, r2, r3)) (hp : tg pc off = p) (hk : K p ls st h bc bs) : K pc ls st h bc bs := by
  subst hp; exact x_row hK hf hk
theorem x_if_icmp_eq (p q : Nat) {a b : Int} {off : Int} (hK : CLO CL ac ret Q K) (hf : fr ac pc = some (.if_icmp .eq off, r1, r2, r3)) (hp : tg pc off = p) (hq : pc + 3 = q) (ha : r32 a) (hb : r32 b) (h1 : a = b → K p ls st h bc bs) (h2 : ¬ (a = b) → K q ls st h bc bs) : K pc ls (.int (I b) :: .int (I a) :: st) h bc bs := by
  subst hp hq
  have e : icd .eq (I a) (I b) ↔ a = b := I_inj ha hb
  exact x_row hK hf ⟨fun z => h1 (e.mp z), fun z => h2 fun y => z (e.mpr y)⟩
theorem x_if_eq (p q : Nat) {a : Int} {off : Int} (hK : CLO CL ac ret Q K) (hf : fr ac pc = some (.ifCond .eq off, r1, r2, r3)) (hp : tg pc off = p) (hq : pc + 3 = q) (ha : r32 a) (h1 : a = 0 → K p ls st h bc bs) (h2 : ¬ (a = 0) → K q ls st h bc bs) : K pc ls (.int (I a) :: st) h bc bs := by
  subst hp hq
  have hb : r32 0 := ⟨by omega, by omega⟩
  have e : icd .eq (I a) (I 0) ↔ a = 0 := I_inj ha hb
  exact x_row hK hf ⟨fun z => h1 (e.mp z), fun z => h2 fun y => z (e.mpr y)⟩
theorem x_if_icmp_ne (p q : Nat) {a b : Int} {off : Int} (hK : CLO CL ac ret Q K) (hf : fr ac pc = some (.if_icmp .ne off, r1, r2, r3)) (hp : tg pc off = p) (hq : pc + 3 = q) (ha : r32 a) (hb : r32 b) (h1 : a ≠ b → K p ls st h bc bs) (h2 : ¬ (a ≠ b) → K q ls st h bc bs) : K pc ls (.int (I b) :: .int (I a) :: st) h bc bs := by
  subst hp hq
  have e : icd .ne (I a) (I b) ↔ a ≠ b := not_congr (I_inj ha hb)
  exact x_row hK hf ⟨fun z => h1 (e.mp z), fun z => h2 fun y => z (e.mpr y)⟩
theorem x_if_ne (p q : Nat) {a : Int} {off : Int} (hK : CLO CL ac ret Q K) (hf : fr ac pc = some (.ifCond .ne off, r1, r2, r3)) (hp : tg pc off = p) (hq : pc + 3 = q) (ha : r32 a) (h1 : a ≠ 0 → K p ls st h bc bs) (h2 : ¬ (a ≠ 0) → K q ls st h bc bs) : K pc ls (.int (I a) :: st) h bc bs := by
  subst hp hq
  have hb : r32 0 := ⟨by omega, by omega⟩
  have e : icd .ne (I a) (I 0) ↔ a ≠ 0 := not_congr (I_inj ha hb)
  exact x_row hK hf ⟨fun z => h1 (e.mp z), fun z => h2 fun y => z (e.mpr y)⟩
theorem x_if_icmp_lt (p q : Nat) {a b : Int} {off : Int} (hK : CLO CL ac ret Q K) (hf : fr ac pc = some (.if_icmp .lt off, r1, r2, r3)) (hp : tg pc off = p) (hq : pc + 3 = q) (ha : r32 a) (hb : r32 b) (h1 : a < b → K p ls st h bc bs) (h2 : ¬ (a < b) → K q ls st h bc bs) : K pc ls (.int (I b) :: .int (I a) :: st) h bc bs := by
  subst hp hq
  have e : icd .lt (I a) (I b) ↔ a < b := I_lt ha hb
  exact x_row hK hf ⟨fun z => h1 (e.mp z), fun z => h2 fun y => z (e.mpr y)⟩
theorem x_if_lt (p q : Nat) {a : Int} {off : Int} (hK : CLO CL ac ret Q K) (hf : fr ac pc = some (.ifCond .lt off, r1, r2, r3)) (hp : tg pc off = p) (hq : pc + 3 = q) (ha : r32 a) (h1 : a < 0 → K p ls st h bc bs) (h2 : ¬ (a < 0) → K q ls st h bc bs) : K pc ls (.int (I a) :: st) h bc bs := by
  subst hp hq
  have hb : r32 0 := ⟨by omega, by omega⟩
  have e : icd .lt (I a) (I 0) ↔ a < 0 := I_lt ha hb
  exact x_row hK hf ⟨fun z => h1 (e.mp z), fun z => h2 fun y => z (e.mpr y)⟩
theorem x_if_icmp_ge (p q : Nat) {a b : Int} {off : Int} (hK : CLO CL ac ret Q K) (hf : fr ac pc = some (.if_icmp .ge off, r1, r2, r3)) (hp : tg pc off = p) (hq : pc + 3 = q) (ha : r32 a) (hb : r32 b) (h1 : b ≤ a → K p ls st h bc bs) (h2 : ¬ (b ≤ a) → K q ls st h bc bs) : K pc ls (.int (I b) :: .int (I a) :: st) h bc bs := by
  subst hp hq
  have e : icd .ge (I a) (I b) ↔ b ≤ a := I_le hb ha
  exact x_row hK hf ⟨fun z => h1 (e.mp z), fun z => h2 fun y => z (e.mpr y)⟩
theorem x_if_ge (p q : Nat) {a : Int} {off : Int} (hK : CLO CL ac ret Q K) (hf : fr ac pc = some (.ifCond .ge off, r1, r2, r3)) (hp : tg pc off = p) (hq : pc + 3 = q) (ha : r32 a) (h1 : 0 ≤ a → K p ls st h bc bs) (h2 : ¬ (0 ≤ a) → K q ls st h bc bs) : K pc ls (.int (I a) :: st) h bc bs := by
  subst hp hq
  have hb : r32 0 := ⟨by omega, by omega⟩
  have e : icd .ge (I a) (I 0) ↔ 0 ≤ a := I_le hb ha
  exact x_row hK hf ⟨fun z => h1 (e.mp z), fun z => h2 fun y => z (e.mpr y)⟩
theorem x_if_icmp_gt (p q : Nat) {a b : Int} {off : Int} (hK : CLO CL ac ret Q K) (hf : fr ac pc = some (.if_icmp .gt off, r1, r2, r3)) (hp : tg pc off = p) (hq : pc + 3 = q) (ha : r32 a) (hb : r32 b) (h1 : b < a → K p ls st h bc bs) (h2 : ¬ (b < a) → K q ls st h bc bs) : K pc ls (.int (I b) :: .int (I a) :: st) h bc bs := by
  subst hp hq
  have e : icd .gt (I a) (I b) ↔ b < a := I_lt hb ha
  exact x_row hK hf ⟨fun z => h1 (e.mp z), fun z => h2 fun y => z (e.mpr y)⟩
theorem x_if_gt (p q : Nat) {a : Int} {off : Int} (hK : CLO CL ac ret Q K) (hf : fr ac pc = some (.ifCond .gt off, r1, r2, r3)) (hp : tg pc off = p) (hq : pc + 3 = q) (ha : r32 a) (h1 : 0 < a → K p ls st h bc bs) (h2 : ¬ (0 < a) → K q ls st h bc bs) : K pc ls (.int (I a) :: st) h bc bs := by
  subst hp hq
  have hb : r32 0 := ⟨by omega, by omega⟩
  have e : icd .gt (I a) (I 0) ↔ 0 < a := I_lt hb ha
  exact x_row hK hf ⟨fun z => h1 (e.mp z), fun z => h2 fun y => z (e.mpr y)⟩
theorem x_if_icmp_le (p q : Nat) {a b : Int} {off : Int} (hK : CLO CL ac ret Q K) (hf : fr ac pc = some (.if_icmp .le off, r1, r2, r3)) (hp : tg pc off = p) (hq : pc + 3 = q) (ha : r32 a) (hb : r32 b) (h1 : a ≤ b → K p ls st h bc bs) (h2 : ¬ (a ≤ b) → K q ls st h bc bs) : K pc ls (.int (I b) :: .int (I a) :: st) h bc bs := by
  subst hp hq
  have e : icd .le (I a) (I b) ↔ a ≤ b := I_le ha hb
  exact x_row hK hf ⟨fun z => h1 (e.mp z), fun z => h2 fun y => z (e.mpr y)⟩
theorem x_if_le (p q : Nat) {a : Int} {off : Int} (hK : CLO CL ac ret Q K) (hf : fr ac pc = some (.ifCond .le off, r1, r2, r3)) (hp : tg pc off = p) (hq : pc + 3 = q) (ha : r32 a) (h1 : a ≤ 0 → K p ls st h bc bs) (h2 : ¬ (a ≤ 0) → K q ls st h bc bs) : K pc ls (.int (I a) :: st) h bc bs := by
  subst hp hq
  have hb : r32 0 := ⟨by omega, by omega⟩
  have e : icd .le (I a) (I 0) ↔ a ≤ 0 := I_le ha hb
  exact x_row hK hf ⟨fun z => h1 (e.mp z), fun z => h2 fun y => z (e.mpr y)⟩
/-! fields -/
theorem x_getI (p : Nat) {n a : Nat} (hK : CLO CL ac ret Q K) (hf : fr ac pc = some (.getfield n, r1, r2, r3)) (hz : r3 = 0 ∨ r3 = 3) (hp : pc + 3 = p) (hs : h.1[a]? = some (100 + r1, nf r1)) (hk : K p ls (.int (I (gi h a r2)) :: st) h bc bs) : K pc ls (.ref a :: st) h bc bs := by
  subst hp
  rw [← gi_I] at hk
  refine x_row hK hf ⟨hs, ?_⟩
  rcases hz with rfl | rfl <;> exact hk
theorem x_getE (p : Nat) {n a : Nat} (hK : CLO CL ac ret Q K) (hf : fr ac pc = some (.getfield n, r1, r2, r3)) (hz : r3 = 0 ∨ r3 = 3) (hp : pc + 3 = p) (hs : h.1[a]? = some (100 + r1, nf r1)) {e : Int} (he : gi h a r2 = e) (hk : K p ls (.int (I e) :: st) h bc bs) : K pc ls (.ref a :: st) h bc bs := by
  subst he; exact x_getI p hK hf hz hp hs hk
theorem x_getJ (p : Nat) {n a : Nat} (hK : CLO CL ac ret Q K) (hf : fr ac pc = some (.getfield n, r1, r2, 1)) (hp : pc + 3 = p) (hs : h.1[a]? = some (100 + r1, nf r1)) (hk : K p ls (.long (J (aJ h a r2).toInt) :: st) h bc bs) : K pc ls (.ref a :: st) h bc bs := by
  subst hp
  rw [t_J] at hk
  exact x_row hK hf ⟨hs, hk⟩
theorem x_getR (p : Nat) {n a b : Nat} (hK : CLO CL ac ret Q K) (hf : fr ac pc = some (.getfield n, r1, r2, 2)) (hp : pc + 3 = p) (hs : h.1[a]? = some (100 + r1, nf r1)) (hr : aR h a r2 = some b) (hk : K p ls (.ref b :: st) h bc bs) : K pc ls (.ref a :: st) h bc bs := by
  subst hp
  refine x_row hK hf ⟨hs, ?_⟩
  show K _ _ (va_rf (aR h a r2) :: st) _ _ _
  rw [hr]
  exact hk
theorem x_putI (p : Nat) {n a : Nat} {e : Int} (hK : CLO CL ac ret Q K) (hf : fr ac pc = some (.putfield n, r1, r2, 0)) (hp : pc + 3 = p) (hs : h.1[a]? = some (100 + r1, nf r1)) (hk : K p ls st (wI h a r2 e) bc bs) : K pc ls (.int (I e) :: .ref a :: st) h bc bs := by
  subst hp; exact x_row hK hf ⟨hs, hk⟩
theorem x_putZ (p : Nat) {n a : Nat} {e : Int} (hK : CLO CL ac ret Q K) (hf : fr ac pc = some (.putfield n, r1, r2, 3)) (hp : pc + 3 = p) (hs : h.1[a]? = some (100 + r1, nf r1)) (he : e = 0 ∨ e = 1) (hk : K p ls st (wI h a r2 e) bc bs) : K pc ls (.int (I e) :: .ref a :: st) h bc bs := by
  subst hp; exact x_row hK hf ⟨hs, he.imp (fun z => by rw [z]; rfl) (fun z => by rw [z]; rfl), hk⟩
theorem x_putJ (p : Nat) {n a : Nat} {x : Int64} (hK : CLO CL ac ret Q K) (hf : fr ac pc = some (.putfield n, r1, r2, 1)) (hp : pc + 3 = p) (hs : h.1[a]? = some (100 + r1, nf r1)) (hk : K p ls st (sJ h a r2 x) bc bs) : K pc ls (.long x :: .ref a :: st) h bc bs := by
  subst hp; exact x_row hK hf ⟨hs, hk⟩
theorem x_putR (p : Nat) {n a b : Nat} (hK : CLO CL ac ret Q K) (hf : fr ac pc = some (.putfield n, r1, r2, 2)) (hp : pc + 3 = p) (hs : h.1[a]? = some (100 + r1, nf r1)) (hb : b < h.1.length) (hk : K p ls st (sR h a r2 (some b)) bc bs) : K pc ls (.ref b :: .ref a :: st) h bc bs := by
  subst hp; exact x_row hK hf ⟨hs, hb, hk⟩
/-! arrays -/
theorem x_iaload (p : Nat) {a n : Nat} {e : Int} (hK : CLO CL ac ret Q K) (hf : fr ac pc = some (.iaload, r1, r2, r3)) (hp : pc + 1 = p) (hs : h.1[a]? = some (0, n)) (h0 : 0 ≤ e) (h1 : e < n) (h2 : e ≤ 2147483647) (hk : K p ls (.int (I (gi h a e.toNat)) :: st) h bc bs) : K pc ls (.int (I e) :: .ref a :: st) h bc bs := by
  subst hp
  rw [← gi_I, ← I_nat h0 h2] at hk
  exact x_row hK hf ⟨⟨n, hs, vp_I h0 h1 h2⟩, hk⟩
theorem x_caload (p : Nat) {a n : Nat} {e : Int} (hK : CLO CL ac ret Q K) (hf : fr ac pc = some (.caload, r1, r2, r3)) (hp : pc + 1 = p) (hs : h.1[a]? = some (2, n)) (h0 : 0 ≤ e) (h1 : e < n) (h2 : e ≤ 2147483647) (hk : K p ls (.int (I (gi h a e.toNat)) :: st) h bc bs) : K pc ls (.int (I e) :: .ref a :: st) h bc bs := by
  subst hp
  rw [← gi_I, ← I_nat h0 h2] at hk
  exact x_row hK hf ⟨⟨n, hs, vp_I h0 h1 h2⟩, hk⟩
theorem x_baload (p : Nat) {a n : Nat} {e : Int} (hK : CLO CL ac ret Q K) (hf : fr ac pc = some (.baload, r1, r2, r3)) (hp : pc + 1 = p) (hs : h.1[a]? = some (3, n)) (h0 : 0 ≤ e) (h1 : e < n) (h2 : e ≤ 2147483647) (hk : K p ls (.int (I (gi h a e.toNat)) :: st) h bc bs) : K pc ls (.int (I e) :: .ref a :: st) h bc bs := by
  subst hp
  rw [← gi_I, ← I_nat h0 h2] at hk
  exact x_row hK hf ⟨⟨n, hs, vp_I h0 h1 h2⟩, hk⟩
theorem x_ialoadE (p : Nat) {a n : Nat} {e : Int} (hK : CLO CL ac ret Q K) (hf : fr ac pc = some (.iaload, r1, r2, r3)) (hp : pc + 1 = p) (hs : h.1[a]? = some (0, n)) (h0 : 0 ≤ e) (h1 : e < n) (h2 : e ≤ 2147483647) {e' : Int} (he : gi h a e.toNat = e') (hk : K p ls (.int (I e') :: st) h bc bs) : K pc ls (.int (I e) :: .ref a :: st) h bc bs := by
  subst he; exact x_iaload p hK hf hp hs h0 h1 h2 hk
theorem x_caloadE (p : Nat) {a n : Nat} {e : Int} (hK : CLO CL ac ret Q K) (hf : fr ac pc = some (.caload, r1, r2, r3)) (hp : pc + 1 = p) (hs : h.1[a]? = some (2, n)) (h0 : 0 ≤ e) (h1 : e < n) (h2 : e ≤ 2147483647) {e' : Int} (he : gi h a e.toNat = e') (hk : K p ls (.int (I e') :: st) h bc bs) : K pc ls (.int (I e) :: .ref a :: st) h bc bs := by
  subst he; exact x_caload p hK hf hp hs h0 h1 h2 hk
theorem x_baloadE (p : Nat) {a n : Nat} {e : Int} (hK : CLO CL ac ret Q K) (hf : fr ac pc = some (.baload, r1, r2, r3)) (hp : pc + 1 = p) (hs : h.1[a]? = some (3, n)) (h0 : 0 ≤ e) (h1 : e < n) (h2 : e ≤ 2147483647) {e' : Int} (he : gi h a e.toNat = e') (hk : K p ls (.int (I e') :: st) h bc bs) : K pc ls (.int (I e) :: .ref a :: st) h bc bs := by
  subst he; exact x_baload p hK hf hp hs h0 h1 h2 hk
theorem x_laload (p : Nat) {a n : Nat} {e : Int} (hK : CLO CL ac ret Q K) (hf : fr ac pc = some (.laload, r1, r2, r3)) (hp : pc + 1 = p) (hs : h.1[a]? = some (1, n)) (h0 : 0 ≤ e) (h1 : e < n) (h2 : e ≤ 2147483647) (hk : K p ls (.long (J (aJ h a e.toNat).toInt) :: st) h bc bs) : K pc ls (.int (I e) :: .ref a :: st) h bc bs := by
  subst hp
  rw [t_J, ← I_nat h0 h2] at hk
  exact x_row hK hf ⟨⟨n, hs, vp_I h0 h1 h2⟩, hk⟩
theorem x_aaload (p : Nat) {a n t b : Nat} {e : Int} (hK : CLO CL ac ret Q K) (hf : fr ac pc = some (.aaload, r1, r2, r3)) (hp : pc + 1 = p) (hs : h.1[a]? = some (t, n)) (ht : 4 ≤ t ∧ t ≤ 6) (h0 : 0 ≤ e) (h1 : e < n) (h2 : e ≤ 2147483647) (hr : aR h a e.toNat = some b) (hk : K p ls (.ref b :: st) h bc bs) : K pc ls (.int (I e) :: .ref a :: st) h bc bs := by
  subst hp
  refine x_row hK hf ⟨⟨t, n, hs, ht.1, ht.2, vp_I h0 h1 h2⟩, ?_⟩
  rw [I_nat h0 h2, hr]
  exact hk
theorem x_iastore (p : Nat) {a n : Nat} {e v : Int} (hK : CLO CL ac ret Q K) (hf : fr ac pc = some (.iastore, r1, r2, r3)) (hp : pc + 1 = p) (hs : h.1[a]? = some (0, n)) (h0 : 0 ≤ e) (h1 : e < n) (h2 : e ≤ 2147483647) (hk : K p ls st (wI h a e.toNat v) bc bs) : K pc ls (.int (I v) :: .int (I e) :: .ref a :: st) h bc bs := by
  subst hp
  rw [← I_nat h0 h2] at hk
  exact x_row hK hf ⟨⟨n, hs, vp_I h0 h1 h2⟩, hk⟩
theorem x_castore (p : Nat) {a n : Nat} {e v : Int} (hK : CLO CL ac ret Q K) (hf : fr ac pc = some (.castore, r1, r2, r3)) (hp : pc + 1 = p) (hs : h.1[a]? = some (2, n)) (h0 : 0 ≤ e) (h1 : e < n) (h2 : e ≤ 2147483647) (hv : vp_nar .char (I v) = I v) (hk : K p ls st (wI h a e.toNat v) bc bs) : K pc ls (.int (I v) :: .int (I e) :: .ref a :: st) h bc bs := by
  subst hp
  rw [← I_nat h0 h2] at hk
  refine x_row hK hf ⟨⟨n, hs, vp_I h0 h1 h2⟩, ?_⟩
  rw [hv]
  exact hk
theorem x_bastore (p : Nat) {a n : Nat} {e v : Int} (hK : CLO CL ac ret Q K) (hf : fr ac pc = some (.bastore, r1, r2, r3)) (hp : pc + 1 = p) (hs : h.1[a]? = some (3, n)) (h0 : 0 ≤ e) (h1 : e < n) (h2 : e ≤ 2147483647) (hv : v = 0 ∨ v = 1) (hk : K p ls st (wI h a e.toNat v) bc bs) : K pc ls (.int (I v) :: .int (I e) :: .ref a :: st) h bc bs := by
  subst hp
  rw [← I_nat h0 h2] at hk
  refine x_row hK hf ⟨⟨n, hs, vp_I h0 h1 h2⟩, ?_⟩
  rcases hv with rfl | rfl <;> exact hk
theorem x_lastore (p : Nat) {a n : Nat} {e : Int} {v : Int64} (hK : CLO CL ac ret Q K) (hf : fr ac pc = some (.lastore, r1, r2, r3)) (hp : pc + 1 = p) (hs : h.1[a]? = some (1, n)) (h0 : 0 ≤ e) (h1 : e < n) (h2 : e ≤ 2147483647) (hk : K p ls st (sJ h a e.toNat v) bc bs) : K pc ls (.long v :: .int (I e) :: .ref a :: st) h bc bs := by
  subst hp
  rw [← I_nat h0 h2] at hk
  exact x_row hK hf ⟨⟨n, hs, vp_I h0 h1 h2⟩, hk⟩
theorem x_arraylength (p : Nat) {a t n : Nat} (hK : CLO CL ac ret Q K) (hf : fr ac pc = some (.arraylength, r1, r2, r3)) (hp : pc + 1 = p) (hs : h.1[a]? = some (t, n)) (ht : t < 7) (hk : K p ls (.int (I n) :: st) h bc bs) : K pc ls (.ref a :: st) h bc bs := by
  subst hp
  have e : I (n : Int) = Int32.ofNat n := Int32.ofInt_eq_ofNat
  rw [e] at hk
  exact x_row hK hf ⟨t, n, hs, ht, hk⟩
/-! calls -/
theorem x_max (p : Nat) {n : Nat} {a b : Int} (hK : CLO CL ac ret Q K) (hf : fr ac pc = some (.invokestatic n, r1, 10, r3)) (hp : pc + 3 = p) (hc : catsum st ≤ 8) (ha : r32 a) (hb : r32 b) (hk : K p ls (.int (I (max a b)) :: st) h bc bs) : K pc ls (.int (I b) :: .int (I a) :: st) h bc bs := by
  subst hp
  have e : I (max a b) = if I a < I b then I b else I a := by
    by_cases c : a < b
    · rw [if_pos ((I_lt ha hb).mpr c), Int.max_eq_right (by omega)]
    · rw [if_neg (fun z => c ((I_lt ha hb).mp z)), Int.max_eq_left (by omega)]
  rw [e] at hk
  exact x_row hK hf ⟨hc, hk⟩
theorem x_min (p : Nat) {n : Nat} {a b : Int} (hK : CLO CL ac ret Q K) (hf : fr ac pc = some (.invokestatic n, r1, 11, r3)) (hp : pc + 3 = p) (hc : catsum st ≤ 8) (ha : r32 a) (hb : r32 b) (hk : K p ls (.int (I (min a b)) :: st) h bc bs) : K pc ls (.int (I b) :: .int (I a) :: st) h bc bs := by
  subst hp
  have e : I (min a b) = if I b < I a then I b else I a := by
    by_cases c : b < a
    · rw [if_pos ((I_lt hb ha).mpr c), Int.min_eq_right (by omega)]
    · rw [if_neg (fun z => c ((I_lt hb ha).mp z)), Int.min_eq_left (by omega)]
  rw [e] at hk
  exact x_row hK hf ⟨hc, hk⟩
theorem x_abs (p : Nat) {n : Nat} {a : Int} (hK : CLO CL ac ret Q K) (hf : fr ac pc = some (.invokestatic n, r1, 12, r3)) (hp : pc + 3 = p) (hc : catsum st ≤ 8) (ha : r32 a) (hk : K p ls (.int (I (if 0 ≤ a then a else -a)) :: st) h bc bs) : K pc ls (.int (I a) :: st) h bc bs := by
  subst hp
  have e : I (if 0 ≤ a then a else -a) = if 0 ≤ I a then I a else 0 - I a := by
    have z := I_le (a := 0) (b := a) ⟨by omega, by omega⟩ ha
    by_cases c : 0 ≤ a
    · rw [if_pos c, if_pos (show (0 : Int32) ≤ I a from z.mpr c)]
    · rw [if_neg c, if_neg (show ¬ (0 : Int32) ≤ I a from fun y => c (z.mp y)), z_I, I_sub, Int.zero_sub]
  rw [e] at hk
  exact x_row hK hf ⟨hc, hk⟩
theorem x_callS (p : Nat) {n : Nat} (hK : CLO CL ac ret Q K) (hmono : MONO CL) (hf : fr ac pc = some (.invokestatic n, r1, r2, r3)) (hz : (r2 = 1 ∨ r2 = 3)) (hp : pc + 3 = p) (as st' : List Value) (ha : argc (r3 % 100).toNat st = as) (hst : st.drop (r3 % 100).toNat = st') (hc : catsum st' ≤ 8) (hl : (r3 % 100).toNat ≤ st.length) {Q' : QT} (hq : CL r1 as h 0 0 Q') (hk : ∀ v h', Q' v h' → K p ls (psh v st') h' bc bs) : K pc ls st h bc bs := by
  subst hp ha hst
  have g : stp CL ret Q K (.invokestatic n) r1 r2 r3 pc ls st h bc bs := by
    rcases hz with rfl | rfl <;> exact ⟨hc, hl, trivial, 0, 0, Nat.zero_le _, Nat.zero_le _, Or.inl rfl, hmono _ _ _ _ _ _ _ hk hq⟩
  exact x_row hK hf g
theorem x_callV (p : Nat) {n b : Nat} {rs : List Value} (hK : CLO CL ac ret Q K) (hmono : MONO CL) (hf : fr ac pc = some (.invokevirtual n, r1, 0, r3)) (hp : pc + 3 = p) (as st' : List Value) (ha : argc (r3 % 100).toNat st = as) (hst : st.drop (r3 % 100).toNat = st') (hc : catsum st' ≤ 8) (hl : (r3 % 100).toNat ≤ st.length) (hb : as = .ref b :: rs) (hsh : h.1[b]? = some (100 + (r3 / 100).toNat, nf (r3 / 100).toNat)) {Q' : QT} (hq : CL r1 as h 0 0 Q') (hk : ∀ v h', Q' v h' → K p ls (psh v st') h' bc bs) : K pc ls st h bc bs := by
  subst hp ha hst
  have g : stp CL ret Q K (.invokevirtual n) r1 0 r3 pc ls st h bc bs :=
    ⟨hc, hl, ⟨b, rs, hb, hsh⟩, 0, 0, Nat.zero_le _, Nat.zero_le _, Or.inl rfl, hmono _ _ _ _ _ _ _ hk hq⟩
  exact x_row hK hf g
theorem x_callT (p : Nat) {n b : Nat} {rs : List Value} (hK : CLO CL ac ret Q K) (hmono : MONO CL) (hf : fr ac pc = some (.invokevirtual n, r1, 5, r3)) (hp : pc + 3 = p) (as st' : List Value) (ha : argc (r3 % 100).toNat st = as) (hst : st.drop (r3 % 100).toNat = st') (hc : catsum st' ≤ 8) (hl : (r3 % 100).toNat ≤ st.length) (hb : as = .ref (1000000 + b) :: rs) (hsh : b < 6) {Q' : QT} (hq : CL r1 as h 0 0 Q') (hk : ∀ v h', Q' v h' → K p ls (psh v st') h' bc bs) : K pc ls st h bc bs := by
  subst hp ha hst
  have g : stp CL ret Q K (.invokevirtual n) r1 5 r3 pc ls st h bc bs :=
    ⟨hc, hl, ⟨b, rs, hb, hsh⟩, 0, 0, Nat.zero_le _, Nat.zero_le _, Or.inl rfl, hmono _ _ _ _ _ _ _ hk hq⟩
  exact x_row hK hf g
theorem x_iret {x : Int32} (hK : CLO CL ac (some .int) Q K) (hf : fr ac pc = some (.ireturn, r1, r2, r3)) (hq : Q (some (.int x)) h) : K pc ls [.int x] h bc bs :=
  x_row hK hf ⟨rfl, ⟨.int, rfl, narrow_int x⟩, hq⟩
theorem x_zret {e : Int} (hK : CLO CL ac (some .boolean) Q K) (hf : fr ac pc = some (.ireturn, r1, r2, r3)) (he : e = 0 ∨ e = 1) (hq : Q (some (.int (I e))) h) : K pc ls [.int (I e)] h bc bs :=
  x_row hK hf ⟨rfl, ⟨.boolean, rfl, narrow_bool (by rcases he with rfl | rfl <;> decide) (by rcases he with rfl | rfl <;> decide)⟩, hq⟩
theorem x_lret {x : Int64} (hK : CLO CL ac (some .long) Q K) (hf : fr ac pc = some (.lreturn, r1, r2, r3)) (hq : Q (some (.long x)) h) : K pc ls [.long x] h bc bs :=
  x_row hK hf ⟨rfl, rfl, hq⟩
theorem x_vret (hK : CLO CL ac none Q K) (hf : fr ac pc = some (.return_, r1, r2, r3)) (hq : Q none h) : K pc ls [] h bc bs :=
  x_row hK hf ⟨rfl, rfl, hq⟩
end SX
/-- a method's contract out of its run -/
theorem x_met {SP : CT} {d mid : Nat} {as : List Value} {h : aH} {mc ms : Nat} {Q : QT} (mi : MI) (hm : mtab[mid]? = some mi) (hc : catsum as ≤ mi.2.2.1) (hr : ∀ K, CLO (CLd SP d) mi.2.2.2.2.1 mi.2.2.2.1 Q K → K 0 (lv_args 0 as) [] h mc ms) : CLd SP (d + 1) mid as h mc ms Q :=
  Or.inr ⟨mi, hm, hc, fun K hK => hr K hK⟩
theorem CLd_le {SP : CT} {d d' mid : Nat} {as : List Value} {h : aH} {mc ms : Nat} {Q : QT} (hd : d ≤ d') (hc : CLd SP d mid as h mc ms Q) : CLd SP d' mid as h mc ms Q := by
  induction hd with
  | refl => exact hc
  | step _ ih => exact CLd_up _ _ _ _ _ _ _ ih
end
section
/-! THE GLOBAL TABLES: what holds between any two calls, and the roles of the cells -/
noncomputable def gE : ET := (
  [(110, 17), (109, 6), (2, 80), (103, 2), (1, 30), (106, 5), (0, 10), (0, 10), (104, 4), (0, 40), (0, 40), (105, 5), (0, 40), (102, 3), (0, 16), (0, 16), (0, 8), (108, 9), (0, 12), (0, 12), (0, 8), (0, 8), (108, 9), (0, 12), (0, 12), (0, 8), (0, 8), (101, 5), (4, 15), (4, 3), (3, 3), (108, 9), (0, 12), (0, 12), (0, 8), (0, 8), (108, 9), (0, 12), (0, 12), (0, 8), (0, 8), (100, 6), (0, 30), (0, 31), (0, 31), (0, 30), (0, 9), (107, 3), (0, 25), (6, 25), (1, 9), (0, 9), (5, 8), (0, 9), (111, 53), (1, 40), (0, 10), (3, 10), (0, 16), (0, 16), (0, 8), (0, 57), (0, 57), (0, 80), (0, 32), (0, 80), (0, 80), (0, 80), (0, 4), (0, 912), (0, 60), (0, 60), (0, 30), (0, 9), (0, 9), (0, 14409), (0, 12), (0, 12), (0, 225), (3, 225), (3, 225), (3, 3), (0, 3), (0, 171), (1, 1)],
  [[(9, 9, 0, 8)], [(1, 1, 0, 80), (3, 3, 0, 76), (4, 4, 0, 1), (5, 5, 0, 1)], [(0, 79, 0, 65535)], [(1, 1, 0, 30)], [], [(0, 0, (-1000000), 1000000), (1, 1, 0, 10)], [], [(0, 9, 0, 1)], [(1, 1, 0, 40), (3, 3, 0, 40)], [], [], [(1, 1, 0, 40), (2, 2, 0, 4), (4, 4, 0, 1)], [], [(0, 0, 0, 16)], [], [(0, 15, 0, 8)], [(0, 7, 0, 9)], [(1, 1, 0, 8), (4, 4, 0, 12)], [], [], [], [], [(1, 1, 0, 8), (4, 4, 0, 12)], [], [], [], [], [(1, 1, 0, 14), (2, 2, 0, 15)], [], [], [(0, 2, 0, 1)], [(1, 1, 0, 8), (4, 4, 0, 12)], [], [], [], [], [(1, 1, 0, 8), (4, 4, 0, 12)], [], [], [], [], [(5, 5, 0, 1)], [], [], [], [], [], [(0, 0, 0, 12)], [(0, 24, (-1), 8)], [], [], [], [], [], [(0, 0, 0, 1), (1, 1, 0, 40), (3, 3, 2, 40), (4, 4, 0, 10), (6, 6, 0, 16), (7, 7, 0, 8), (17, 17, 0, 80), (18, 18, 0, 81), (19, 19, 0, 80), (20, 20, 0, 4), (22, 22, 0, 16), (25, 25, 0, 80), (26, 26, 0, 80), (29, 29, 0, 16), (35, 35, 0, 60), (42, 42, 0, 12)], [], [], [(0, 9, 0, 1)], [(0, 15, 0, 999)], [], [(0, 7, 0, 9)], [(1, 1, 0, 8), (3, 3, 0, 12), (6, 6, (-1), 1), (9, 9, (-1), 1), (12, 12, (-1), 1), (15, 15, (-1), 1), (18, 18, (-1), 1), (21, 21, (-1), 1), (24, 24, (-1), 1), (27, 27, (-1), 1), (30, 30, (-1), 1), (33, 33, (-1), 1), (36, 36, (-1), 1), (39, 39, (-1), 1)], [(1, 1, 0, 8), (3, 3, 0, 12), (6, 6, (-1), 1), (9, 9, (-1), 1), (12, 12, (-1), 1), (15, 15, (-1), 1), (18, 18, (-1), 1), (21, 21, (-1), 1), (24, 24, (-1), 1), (27, 27, (-1), 1), (30, 30, (-1), 1), (33, 33, (-1), 1), (36, 36, (-1), 1), (39, 39, (-1), 1)], [(0, 79, 0, 255)], [], [], [], [], [(0, 0, 0, 40)], [(1, 1, 0, 8), (3, 3, 0, 12), (6, 6, (-1), 1), (9, 9, (-1), 1), (12, 12, (-1), 1), (15, 15, (-1), 1), (18, 18, (-1), 1), (21, 21, (-1), 1), (24, 24, (-1), 1), (27, 27, (-1), 1), (30, 30, (-1), 1), (33, 33, (-1), 1), (36, 36, (-1), 1), (39, 39, (-1), 1), (58, 58, 0, 8), (60, 60, 0, 12), (63, 63, (-1), 1), (66, 66, (-1), 1), (69, 69, (-1), 1), (72, 72, (-1), 1), (75, 75, (-1), 1), (78, 78, (-1), 1), (81, 81, (-1), 1), (84, 84, (-1), 1), (87, 87, (-1), 1), (90, 90, (-1), 1), (93, 93, (-1), 1), (96, 96, (-1), 1), (115, 115, 0, 8), (117, 117, 0, 12), (120, 120, (-1), 1), (123, 123, (-1), 1), (126, 126, (-1), 1), (129, 129, (-1), 1), (132, 132, (-1), 1), (135, 135, (-1), 1), (138, 138, (-1), 1), (141, 141, (-1), 1), (144, 144, (-1), 1), (147, 147, (-1), 1), (150, 150, (-1), 1), (153, 153, (-1), 1), (172, 172, 0, 8), (174, 174, 0, 12), (177, 177, (-1), 1), (180, 180, (-1), 1), (183, 183, (-1), 1), (186, 186, (-1), 1), (189, 189, (-1), 1), (192, 192, (-1), 1), (195, 195, (-1), 1), (198, 198, (-1), 1), (201, 201, (-1), 1), (204, 204, (-1), 1), (207, 207, (-1), 1), (210, 210, (-1), 1), (229, 229, 0, 8), (231, 231, 0, 12), (234, 234, (-1), 1), (237, 237, (-1), 1), (240, 240, (-1), 1), (243, 243, (-1), 1), (246, 246, (-1), 1), (249, 249, (-1), 1), (252, 252, (-1), 1), (255, 255, (-1), 1), (258, 258, (-1), 1), (261, 261, (-1), 1), (264, 264, (-1), 1), (267, 267, (-1), 1), (286, 286, 0, 8), (288, 288, 0, 12), (291, 291, (-1), 1), (294, 294, (-1), 1), (297, 297, (-1), 1), (300, 300, (-1), 1), (303, 303, (-1), 1), (306, 306, (-1), 1), (309, 309, (-1), 1), (312, 312, (-1), 1), (315, 315, (-1), 1), (318, 318, (-1), 1), (321, 321, (-1), 1), (324, 324, (-1), 1), (343, 343, 0, 8), (345, 345, 0, 12), (348, 348, (-1), 1), (351, 351, (-1), 1), (354, 354, (-1), 1), (357, 357, (-1), 1), (360, 360, (-1), 1), (363, 363, (-1), 1), (366, 366, (-1), 1), (369, 369, (-1), 1), (372, 372, (-1), 1), (375, 375, (-1), 1), (378, 378, (-1), 1), (381, 381, (-1), 1), (400, 400, 0, 8), (402, 402, 0, 12), (405, 405, (-1), 1), (408, 408, (-1), 1), (411, 411, (-1), 1), (414, 414, (-1), 1), (417, 417, (-1), 1), (420, 420, (-1), 1), (423, 423, (-1), 1), (426, 426, (-1), 1), (429, 429, (-1), 1), (432, 432, (-1), 1), (435, 435, (-1), 1), (438, 438, (-1), 1), (457, 457, 0, 8), (459, 459, 0, 12), (462, 462, (-1), 1), (465, 465, (-1), 1), (468, 468, (-1), 1), (471, 471, (-1), 1), (474, 474, (-1), 1), (477, 477, (-1), 1), (480, 480, (-1), 1), (483, 483, (-1), 1), (486, 486, (-1), 1), (489, 489, (-1), 1), (492, 492, (-1), 1), (495, 495, (-1), 1), (514, 514, 0, 8), (516, 516, 0, 12), (519, 519, (-1), 1), (522, 522, (-1), 1), (525, 525, (-1), 1), (528, 528, (-1), 1), (531, 531, (-1), 1), (534, 534, (-1), 1), (537, 537, (-1), 1), (540, 540, (-1), 1), (543, 543, (-1), 1), (546, 546, (-1), 1), (549, 549, (-1), 1), (552, 552, (-1), 1), (571, 571, 0, 8), (573, 573, 0, 12), (576, 576, (-1), 1), (579, 579, (-1), 1), (582, 582, (-1), 1), (585, 585, (-1), 1), (588, 588, (-1), 1), (591, 591, (-1), 1), (594, 594, (-1), 1), (597, 597, (-1), 1), (600, 600, (-1), 1), (603, 603, (-1), 1), (606, 606, (-1), 1), (609, 609, (-1), 1), (628, 628, 0, 8), (630, 630, 0, 12), (633, 633, (-1), 1), (636, 636, (-1), 1), (639, 639, (-1), 1), (642, 642, (-1), 1), (645, 645, (-1), 1), (648, 648, (-1), 1), (651, 651, (-1), 1), (654, 654, (-1), 1), (657, 657, (-1), 1), (660, 660, (-1), 1), (663, 663, (-1), 1), (666, 666, (-1), 1), (685, 685, 0, 8), (687, 687, 0, 12), (690, 690, (-1), 1), (693, 693, (-1), 1), (696, 696, (-1), 1), (699, 699, (-1), 1), (702, 702, (-1), 1), (705, 705, (-1), 1), (708, 708, (-1), 1), (711, 711, (-1), 1), (714, 714, (-1), 1), (717, 717, (-1), 1), (720, 720, (-1), 1), (723, 723, (-1), 1), (742, 742, 0, 8), (744, 744, 0, 12), (747, 747, (-1), 1), (750, 750, (-1), 1), (753, 753, (-1), 1), (756, 756, (-1), 1), (759, 759, (-1), 1), (762, 762, (-1), 1), (765, 765, (-1), 1), (768, 768, (-1), 1), (771, 771, (-1), 1), (774, 774, (-1), 1), (777, 777, (-1), 1), (780, 780, (-1), 1), (799, 799, 0, 8), (801, 801, 0, 12), (804, 804, (-1), 1), (807, 807, (-1), 1), (810, 810, (-1), 1), (813, 813, (-1), 1), (816, 816, (-1), 1), (819, 819, (-1), 1), (822, 822, (-1), 1), (825, 825, (-1), 1), (828, 828, (-1), 1), (831, 831, (-1), 1), (834, 834, (-1), 1), (837, 837, (-1), 1), (856, 856, 0, 8), (858, 858, 0, 12), (861, 861, (-1), 1), (864, 864, (-1), 1), (867, 867, (-1), 1), (870, 870, (-1), 1), (873, 873, (-1), 1), (876, 876, (-1), 1), (879, 879, (-1), 1), (882, 882, (-1), 1), (885, 885, (-1), 1), (888, 888, (-1), 1), (891, 891, (-1), 1), (894, 894, (-1), 1)], [(0, 59, 0, 2)], [(0, 59, (-1), 9)], [(0, 29, (-1), 2)], [], [], [], [(0, 11, 0, 24)], [(0, 11, 0, 8)], [], [(0, 224, 0, 1)], [(0, 224, 0, 1)], [(0, 2, 0, 1)], [], [(1, 1, 0, 8), (3, 3, 0, 12), (6, 6, (-1), 1), (9, 9, (-1), 1), (12, 12, (-1), 1), (15, 15, (-1), 1), (18, 18, (-1), 1), (21, 21, (-1), 1), (24, 24, (-1), 1), (27, 27, (-1), 1), (30, 30, (-1), 1), (33, 33, (-1), 1), (36, 36, (-1), 1), (39, 39, (-1), 1), (58, 58, 0, 8), (60, 60, 0, 12), (63, 63, (-1), 1), (66, 66, (-1), 1), (69, 69, (-1), 1), (72, 72, (-1), 1), (75, 75, (-1), 1), (78, 78, (-1), 1), (81, 81, (-1), 1), (84, 84, (-1), 1), (87, 87, (-1), 1), (90, 90, (-1), 1), (93, 93, (-1), 1), (96, 96, (-1), 1), (115, 115, 0, 8), (117, 117, 0, 12), (120, 120, (-1), 1), (123, 123, (-1), 1), (126, 126, (-1), 1), (129, 129, (-1), 1), (132, 132, (-1), 1), (135, 135, (-1), 1), (138, 138, (-1), 1), (141, 141, (-1), 1), (144, 144, (-1), 1), (147, 147, (-1), 1), (150, 150, (-1), 1), (153, 153, (-1), 1)], []],
  [[(0, 0, 1), (1, 1, 3), (2, 2, 5), (3, 3, 5), (4, 4, 8), (5, 5, 8), (6, 6, 11), (7, 7, 13), (8, 8, 16), (10, 10, 17), (11, 11, 22), (12, 12, 27), (13, 13, 41), (14, 14, 47), (15, 15, 51), (16, 16, 52)], [(0, 0, 2)], [], [(0, 0, 4)], [], [(3, 3, 6), (4, 4, 7)], [], [], [(0, 0, 9), (2, 2, 10)], [], [], [(0, 0, 12)], [], [(1, 1, 14), (2, 2, 15)], [], [], [], [(5, 5, 18), (6, 6, 19), (7, 7, 20), (8, 8, 21)], [], [], [], [], [(5, 5, 23), (6, 6, 24), (7, 7, 25), (8, 8, 26)], [], [], [], [], [(0, 0, 28), (3, 3, 29), (4, 4, 30)], [(0, 14, 31)], [(0, 2, 36)], [], [(5, 5, 32), (6, 6, 33), (7, 7, 34), (8, 8, 35)], [], [], [], [], [(5, 5, 37), (6, 6, 38), (7, 7, 39), (8, 8, 40)], [], [], [], [], [(0, 0, 42), (1, 1, 43), (2, 2, 44), (3, 3, 45), (4, 4, 46)], [], [], [], [], [], [(1, 1, 48), (2, 2, 49)], [], [(0, 24, 50)], [], [], [(0, 7, 53)], [], [(2, 2, 55), (9, 9, 56), (10, 10, 57), (11, 11, 58), (12, 12, 59), (13, 13, 60), (14, 14, 61), (15, 15, 62), (16, 16, 63), (21, 21, 64), (23, 23, 65), (24, 24, 66), (27, 27, 67), (28, 28, 68), (30, 30, 69), (33, 33, 70), (34, 34, 71), (36, 36, 72), (37, 37, 73), (38, 38, 74), (41, 41, 75), (43, 43, 76), (44, 44, 77), (45, 45, 78), (46, 46, 79), (47, 47, 80), (50, 50, 81), (51, 51, 82), (52, 52, 83)], [], [], [], [], [], [], [], [], [], [], [], [], [], [], [], [], [], [], [], [], [], [], [], [], [], [], [], [], [], []],
  [true, true, true, true, true, false, false, false, false, false, false, true, true, true, true, true, true, true, true, true, true, true, true, true, true, true, true, true, true, true, true, false, false, false, false, false, false, false, false, false, false, true, true, true, true, true, true, true, true, true, false, true, true, false, true, true, true, true, true, true, true, true, true, true, true, true, true, true, true, true, true, true, true, true, true, true, true, true, true, true, true, true, true, true, true])
noncomputable def gRL : List Nat := [0, 1, 2, 3, 4, 5, 6, 7, 5, 6, 7, 8, 9, 10, 8, 9, 10, 11, 12, 13, 14, 15, 16, 17, 18, 19, 20, 21, 22, 23, 24, 25, 26, 27, 28, 29, 30, 31, 32, 33, 34, 35, 31, 32, 33, 34, 35, 31, 32, 33, 34, 35, 31, 32, 33, 34, 35, 31, 32, 33, 34, 35, 31, 32, 33, 34, 35, 31, 32, 33, 34, 35, 31, 32, 33, 34, 35, 31, 32, 33, 34, 35, 31, 32, 33, 34, 35, 31, 32, 33, 34, 35, 31, 32, 33, 34, 35, 31, 32, 33, 34, 35, 31, 32, 33, 34, 35, 31, 32, 33, 34, 35, 36, 37, 38, 39, 40, 36, 37, 38, 39, 40, 36, 37, 38, 39, 40, 41, 42, 43, 44, 45, 46, 47, 48, 49, 50, 50, 50, 50, 50, 50, 50, 50, 50, 50, 50, 50, 50, 50, 50, 50, 50, 50, 50, 50, 50, 50, 50, 50, 50, 51, 52, 53, 53, 53, 53, 53, 53, 53, 53, 54, 55, 56, 57, 58, 59, 60, 61, 62, 63, 64, 65, 66, 67, 68, 69, 70, 71, 72, 73, 74, 75, 76, 77, 78, 79, 80, 81, 82, 83, 84]
theorem gEOK : EOK gE gRL (fun _ => none) := eokB_ok (by decide +kernel)
theorem gEL : ELow gE := elB_ok (by decide +kernel)
/-- the rule's code (65) and how long it is stay -/
noncomputable def xOk (M : MD) : Bool := M.all fun q => !(Nat.beq q.1 0) || (!(Nat.beq q.2.1 65) && (!(Nat.beq q.2.1 54) || Nat.blt 25 q.2.2.1 || Nat.blt q.2.2.2 25))
theorem xOk_ok {M : MD} (hx : xOk M = true) (h h' : aH) (hF : FRM gRL M h h') (hX : XI h) : XI h' := by
  have e1 : ∀ k, aI h' 182 k = aI h 182 k := fun k => hF.1 182 k fun r hr => by
    have hr : 65 = r := Option.some.inj ((show gRL[182]? = some 65 from rfl).symm.trans hr)
    subst hr
    cases hc : mHas M 0 65 k with
    | false => rfl
    | true =>
      obtain ⟨q, hq, h2⟩ := List.any_eq_true.mp hc
      have z := List.all_eq_true.mp hx q hq
      simp only [Bool.and_eq_true, Nat.beq_eq] at h2
      obtain ⟨⟨⟨a1, a2⟩, a3⟩, a4⟩ := h2
      rw [a1, a2] at z
      simp at z
  have e2 : aI h' 171 25 = aI h 171 25 := hF.1 171 25 fun r hr => by
    have hr : 54 = r := Option.some.inj ((show gRL[171]? = some 54 from rfl).symm.trans hr)
    subst hr
    cases hc : mHas M 0 54 25 with
    | false => rfl
    | true =>
      obtain ⟨q, hq, h2⟩ := List.any_eq_true.mp hc
      have z := List.all_eq_true.mp hx q hq
      simp only [Bool.and_eq_true, Nat.beq_eq, Nat.ble_eq] at h2
      obtain ⟨⟨⟨a1, a2⟩, a3⟩, a4⟩ := h2
      rw [a1, a2] at z
      simp [Nat.blt_eq] at z
      omega
  unfold XI
  rw [e2]
  have e3 : (fun k => (aI h' 182 k).toInt) = fun k => (aI h 182 k).toInt := funext fun k => by rw [e1]
  rw [e3]
  exact hX
theorem chkS {SP : CT} (hSP : MONO SP) {sh : List (Nat × Nat)} (sms : List SM) {sm : SM} {d : Nat} (fuel : Nat) (es : List (Bool × Nat)) (cs : List CE) (hc : (xOk sm.2.2.2.2 && sms.all smwf && match mtab[sm.1]? with
  | some mi => chk gE sms mi (slfL gE sm) sm cs es fuel
  | none => false) = true) (hs : ∀ s ∈ sms, SMOK gE gRL sh (CLd SP d) s) : SMOK gE gRL sh (CLd SP (d + 1)) sm := by
  rw [Bool.and_eq_true, Bool.and_eq_true] at hc
  obtain ⟨⟨hx, hw⟩, hc⟩ := hc
  split at hc
  · rename_i mi hmi
    exact chk_ok gEOK gEL (fun s h => List.all_eq_true.mp hw s h) hs (MONO_CLd hSP d) (xOk_ok hx) hmi hc
  · cases hc
/-- two pieces of an argument's range (k = 0 an int, 1 a long) -/
noncomputable def mun (M1 M2 : MD) : MD := M1 ++ M2.filter fun q => !(M1.any fun z => Nat.beq z.1 q.1 && Nat.beq z.2.1 q.2.1 && Nat.beq z.2.2.1 q.2.2.1 && Nat.beq z.2.2.2 q.2.2.2)
noncomputable def jn (k i : Nat) (lo t hi : Int) (as : List AV) (a b : SM) : SM := (a.1, as, [], addR i lo t a.2.2.2.1 ++ addR i (t + 1) hi b.2.2.2.1, mun a.2.2.2.2 b.2.2.2.2)
theorem mun_l {M1 M2 : MD} {q : Nat × Nat × Nat × Nat} (h : q ∈ M1) : q ∈ mun M1 M2 := List.mem_append_left _ h
theorem mun_r {M1 M2 : MD} {q : Nat × Nat × Nat × Nat} (h : q ∈ M2) : q ∈ mun M1 M2 := by
  unfold mun
  cases hc : M1.any fun z => Nat.beq z.1 q.1 && Nat.beq z.2.1 q.2.1 && Nat.beq z.2.2.1 q.2.2.1 && Nat.beq z.2.2.2 q.2.2.2 with
  | true =>
    obtain ⟨z, hz, h2⟩ := List.any_eq_true.mp hc
    simp only [Bool.and_eq_true, Nat.beq_eq] at h2
    obtain ⟨z1, z2, z3, z4⟩ := z
    obtain ⟨q1, q2, q3, q4⟩ := q
    obtain ⟨⟨⟨rfl, rfl⟩, rfl⟩, rfl⟩ := h2
    exact List.mem_append_left _ hz
  | false => exact List.mem_append_right _ (List.mem_filter.mpr ⟨h, by rw [hc]; rfl⟩)
theorem SMOK_jn {E : ET} {rl : List Nat} {sh : List (Nat × Nat)} {CL : CT} (hmono : MONO CL) (k : Nat) (hk : k = 0 ∨ k = 1) (i : Nat) (lo t hi : Int) {as : List AV} {a b : SM} (hi1 : as[i]? = some (k, 0, lo, hi)) (e1 : a.2.1 = as.set i (k, 0, lo, t)) (e2 : b.2.1 = as.set i (k, 0, t + 1, hi)) (e3 : b.1 = a.1) (e4 : a.2.2.1 = []) (e5 : b.2.2.1 = []) (e6 : True = True) (s1 : SMOK E rl sh CL a) (s2 : SMOK E rl sh CL b) : SMOK E rl sh CL (jn k i lo t hi as a b) := by
  intro xs h hX ga hG hov
  obtain ⟨x, hx, gx⟩ := gst_get2 ga hi1
  have key : ∃ n : Int, numV xs[i]? n ∧ lo ≤ n ∧ n ≤ hi ∧ (∀ lo' hi', lo' ≤ n → n ≤ hi' → gv rl (fun _ => none) [] h (k, 0, lo', hi') x) := by
    rcases hk with rfl | rfl
    · obtain ⟨w, rfl, b1, b2, -⟩ := gx
      exact ⟨w.toInt, Or.inl ⟨w, hx, rfl⟩, b1, b2, fun lo' hi' c1 c2 => ⟨w, rfl, c1, c2, trivial⟩⟩
    · obtain ⟨w, rfl, b1, b2, -⟩ := gx
      exact ⟨w.toInt, Or.inr ⟨w, hx, rfl⟩, b1, b2, fun lo' hi' c1 c2 => ⟨w, rfl, c1, c2, trivial⟩⟩
  obtain ⟨n, hn, b1, b2, hg⟩ := key
  show CL a.1 xs h 0 0 _
  by_cases hc : n ≤ t
  · have g1 : gst rl (fun _ => none) [] h a.2.1 xs := by rw [e1]; exact gst_set ga hx (hg _ _ b1 hc)
    refine hmono _ _ _ _ _ _ _ (fun v h' hq => ?_) (s1 xs h hX g1 hG (by rw [e4]; exact fun q hq => absurd hq List.not_mem_nil))
    obtain ⟨q1, q2, o, hm, q3, q4, q5⟩ := hq
    refine ⟨q1, q2.mono (msub_of fun q hq => mun_l hq), (o.1, o.2.1, (i, lo, t) :: o.2.2), List.mem_append_left _ (List.mem_map.mpr ⟨o, hm, rfl⟩), q3, q4, fun q hq => ?_⟩
    rcases List.mem_cons.mp hq with rfl | hq
    · exact ⟨n, hn, b1, hc⟩
    · exact q5 q hq
  · have g1 : gst rl (fun _ => none) [] h b.2.1 xs := by rw [e2]; exact gst_set ga hx (hg _ _ (by omega) b2)
    rw [← e3]
    refine hmono _ _ _ _ _ _ _ (fun v h' hq => ?_) (s2 xs h hX g1 hG (by rw [e5]; exact fun q hq => absurd hq List.not_mem_nil))
    obtain ⟨q1, q2, o, hm, q3, q4, q5⟩ := hq
    refine ⟨q1, q2.mono (msub_of fun q hq => mun_r hq), (o.1, o.2.1, (i, t + 1, hi) :: o.2.2), List.mem_append_right _ (List.mem_map.mpr ⟨o, hm, rfl⟩), q3, q4, fun q hq => ?_⟩
    rcases List.mem_cons.mp hq with rfl | hq
    · exact ⟨n, hn, by show t + 1 ≤ n; omega, b2⟩
    · exact q5 q hq
end
