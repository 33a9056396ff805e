/-! COPIES: the object's state put by, brought back, kept; how late she can be (NB) -/
section LCM
variable {CL : CT} {ac : AC} {ret : Option FieldType} {Q : QT} {K : KT} {r1 r2 r1' r2' : Nat} {r3 r3' : Int} {pc : Nat} {ls : List (Nat × Value)} {st : List Value} {h : aH} {bc bs : Nat}
/-- comparing longs, and the branch behind it -/
theorem lc_r {a b : Int} : r32 (if a < b then -1 else if b < a then 1 else 0) := by
  split
  · omega
  · split <;> omega
theorem lc_eq {a b : Int} : (if a < b then (-1 : Int) else if b < a then 1 else 0) = 0 ↔ a = b := by
  split
  · omega
  · split <;> omega
theorem x_lcmp_eq (p q : Nat) {a b : Int} {off : Int} (hK : CLO CL ac ret Q K) (hf : fr ac pc = some (.lcmp, r1, r2, r3)) (hf2 : fr ac (pc + 1) = some (.ifCond .eq off, r1', r2', r3')) (hp : tg (pc + 1) off = p) (hq : pc + 4 = q) (ha : r64 a) (hb : r64 b) (h1 : a = b → K p ls st h bc bs) (h2 : ¬ (a = b) → K q ls st h bc bs) : K pc ls (.long (J b) :: .long (J a) :: st) h bc bs :=
  x_lcmp (pc + 1) hK hf rfl ha hb (x_if_eq p q hK hf2 hp hq lc_r (fun w => h1 (lc_eq.mp w)) fun w => h2 fun y => w (lc_eq.mpr y))
theorem lc_ne {a b : Int} : (if a < b then (-1 : Int) else if b < a then 1 else 0) ≠ 0 ↔ a ≠ b := by
  split
  · omega
  · split <;> omega
theorem x_lcmp_ne (p q : Nat) {a b : Int} {off : Int} (hK : CLO CL ac ret Q K) (hf : fr ac pc = some (.lcmp, r1, r2, r3)) (hf2 : fr ac (pc + 1) = some (.ifCond .ne off, r1', r2', r3')) (hp : tg (pc + 1) off = p) (hq : pc + 4 = q) (ha : r64 a) (hb : r64 b) (h1 : a ≠ b → K p ls st h bc bs) (h2 : ¬ (a ≠ b) → K q ls st h bc bs) : K pc ls (.long (J b) :: .long (J a) :: st) h bc bs :=
  x_lcmp (pc + 1) hK hf rfl ha hb (x_if_ne p q hK hf2 hp hq lc_r (fun w => h1 (lc_ne.mp w)) fun w => h2 fun y => w (lc_ne.mpr y))
theorem lc_lt {a b : Int} : (if a < b then (-1 : Int) else if b < a then 1 else 0) < 0 ↔ a < b := by
  split
  · omega
  · split <;> omega
theorem x_lcmp_lt (p q : Nat) {a b : Int} {off : Int} (hK : CLO CL ac ret Q K) (hf : fr ac pc = some (.lcmp, r1, r2, r3)) (hf2 : fr ac (pc + 1) = some (.ifCond .lt off, r1', r2', r3')) (hp : tg (pc + 1) off = p) (hq : pc + 4 = q) (ha : r64 a) (hb : r64 b) (h1 : a < b → K p ls st h bc bs) (h2 : ¬ (a < b) → K q ls st h bc bs) : K pc ls (.long (J b) :: .long (J a) :: st) h bc bs :=
  x_lcmp (pc + 1) hK hf rfl ha hb (x_if_lt p q hK hf2 hp hq lc_r (fun w => h1 (lc_lt.mp w)) fun w => h2 fun y => w (lc_lt.mpr y))
theorem lc_ge {a b : Int} : 0 ≤ (if a < b then (-1 : Int) else if b < a then 1 else 0) ↔ b ≤ a := by
  split
  · omega
  · split <;> omega
theorem x_lcmp_ge (p q : Nat) {a b : Int} {off : Int} (hK : CLO CL ac ret Q K) (hf : fr ac pc = some (.lcmp, r1, r2, r3)) (hf2 : fr ac (pc + 1) = some (.ifCond .ge off, r1', r2', r3')) (hp : tg (pc + 1) off = p) (hq : pc + 4 = q) (ha : r64 a) (hb : r64 b) (h1 : b ≤ a → K p ls st h bc bs) (h2 : ¬ (b ≤ a) → K q ls st h bc bs) : K pc ls (.long (J b) :: .long (J a) :: st) h bc bs :=
  x_lcmp (pc + 1) hK hf rfl ha hb (x_if_ge p q hK hf2 hp hq lc_r (fun w => h1 (lc_ge.mp w)) fun w => h2 fun y => w (lc_ge.mpr y))
theorem lc_gt {a b : Int} : 0 < (if a < b then (-1 : Int) else if b < a then 1 else 0) ↔ b < a := by
  split
  · omega
  · split <;> omega
theorem x_lcmp_gt (p q : Nat) {a b : Int} {off : Int} (hK : CLO CL ac ret Q K) (hf : fr ac pc = some (.lcmp, r1, r2, r3)) (hf2 : fr ac (pc + 1) = some (.ifCond .gt off, r1', r2', r3')) (hp : tg (pc + 1) off = p) (hq : pc + 4 = q) (ha : r64 a) (hb : r64 b) (h1 : b < a → K p ls st h bc bs) (h2 : ¬ (b < a) → K q ls st h bc bs) : K pc ls (.long (J b) :: .long (J a) :: st) h bc bs :=
  x_lcmp (pc + 1) hK hf rfl ha hb (x_if_gt p q hK hf2 hp hq lc_r (fun w => h1 (lc_gt.mp w)) fun w => h2 fun y => w (lc_gt.mpr y))
theorem lc_le {a b : Int} : (if a < b then (-1 : Int) else if b < a then 1 else 0) ≤ 0 ↔ a ≤ b := by
  split
  · omega
  · split <;> omega
theorem x_lcmp_le (p q : Nat) {a b : Int} {off : Int} (hK : CLO CL ac ret Q K) (hf : fr ac pc = some (.lcmp, r1, r2, r3)) (hf2 : fr ac (pc + 1) = some (.ifCond .le off, r1', r2', r3')) (hp : tg (pc + 1) off = p) (hq : pc + 4 = q) (ha : r64 a) (hb : r64 b) (h1 : a ≤ b → K p ls st h bc bs) (h2 : ¬ (a ≤ b) → K q ls st h bc bs) : K pc ls (.long (J b) :: .long (J a) :: st) h bc bs :=
  x_lcmp (pc + 1) hK hf rfl ha hb (x_if_le p q hK hf2 hp hq lc_r (fun w => h1 (lc_le.mp w)) fun w => h2 fun y => w (lc_le.mpr y))
end LCM

section LKS
variable {ls : List (Nat × Value)} {i j : Nat} {v x : Value}
theorem lk_flt {f : Nat × Value → Bool} : ∀ {ls : List (Nat × Value)} {j : Nat} {x : Value}, lk ls j = some x → f (j, x) = true → lk (ls.filter f) j = some x
  | [], _, _, h, _ => by cases h
  | q :: t, j, x, h, hf => by
    unfold lk at h
    by_cases e : q.1 = j
    · rw [if_pos e] at h
      cases h
      have : f q = true := by rw [← hf, ← e]
      rw [List.filter_cons_of_pos this]
      unfold lk
      rw [if_pos e]
    · rw [if_neg e] at h
      have ih := lk_flt (f := f) h hf
      by_cases hq : f q = true
      · rw [List.filter_cons_of_pos hq]
        unfold lk
        rw [if_neg e]
        exact ih
      · rw [List.filter_cons_of_neg hq]
        exact ih
theorem lk1_s : lk (so1 ls i v) i = some v := if_pos rfl
theorem lk2_s : lk (so2 ls i v) i = some v := if_pos rfl
theorem lk1_n (hl : lk ls j = some x) (h : j ≠ i) (hc : x.category = 1 ∨ j + 1 ≠ i) : lk (so1 ls i v) j = some x := by
  show (if i = j then some v else lk (ls.filter _) j) = some x
  rw [if_neg (fun e => h e.symm)]
  refine lk_flt hl ?_
  rcases hc with hc | hc
  · simp [h, hc]
  · simp [h, hc]
theorem lk2_n (hl : lk ls j = some x) (h : j ≠ i) (h2 : j ≠ i + 1) (hc : x.category = 1 ∨ j + 1 ≠ i) : lk (so2 ls i v) j = some x := by
  show (if i = j then some v else lk (ls.filter _) j) = some x
  rw [if_neg (fun e => h e.symm)]
  refine lk_flt hl ?_
  rcases hc with hc | hc
  · simp [h, h2, hc]
  · simp [h, h2, hc]
end LKS
section JDV
theorem J_inj {a b : Int} (ha : r64 a) (hb : r64 b) : J a = J b ↔ a = b := ⟨fun h => by have := congrArg Int64.toInt h; rwa [J_t ha, J_t hb] at this, fun h => by rw [h]⟩
theorem J_ne0 {b : Int} (hb : r64 b) (h0 : b ≠ 0) : ¬ J b = 0 := by
  rw [show (0 : Int64) = J 0 from rfl, J_inj hb ⟨by omega, by omega⟩]; exact h0
theorem J_divp {a b : Int} (ha : r64 a) (hb : r64 b) (h0 : 0 ≤ a) (h1 : 0 < b) : J a / J b = J (a / b) := by
  apply Int64.toInt.inj
  have h2 : 0 ≤ a / b := Int.ediv_nonneg h0 (by omega)
  have h3 : a / b ≤ a := Int.ediv_le_self _ h0
  have hne : J b ≠ -1 := fun h => by
    have := congrArg Int64.toInt h
    rw [J_t hb] at this
    have e : (-1 : Int64).toInt = -1 := rfl
    rw [e] at this
    omega
  rw [Int64.toInt_div_of_ne_right _ _ hne, J_t ha, J_t hb, J_t ⟨by omega, by omega⟩, Int.tdiv_eq_ediv_of_nonneg h0]
theorem J_remp {a b : Int} (ha : r64 a) (hb : r64 b) (h0 : 0 ≤ a) (h1 : 0 < b) : J a - J a / J b * J b = J (a % b) := by
  rw [J_divp ha hb h0 h1, J_mul, J_sub]
  congr 1
  have := Int.emod_add_mul_ediv a b
  have e : b * (a / b) = a / b * b := Int.mul_comm _ _
  omega
variable {CL : CT} {ac : AC} {ret : Option FieldType} {Q : QT} {K : KT} {r1 r2 : Nat} {r3 : Int} {pc : Nat} {ls : List (Nat × Value)} {st : List Value} {h : aH} {bc bs : Nat}
theorem x_lconstE (p : Nat) (e : Int) {n : Fin 2} (hK : CLO CL ac ret Q K) (hf : fr ac pc = some (.lconst n, r1, r2, r3)) (hp : pc + 1 = p) (he : (((n : Fin 2) : Nat) : Int) = e) (hk : K p ls (.long (J e) :: st) h bc bs) : K pc ls st h bc bs := by
  subst he; exact x_lconst p hK hf hp hk
theorem x_ldivp (p : Nat) {a b : Int} (hK : CLO CL ac ret Q K) (hf : fr ac pc = some (.ldiv, r1, r2, r3)) (hp : pc + 1 = p) (ha : r64 a) (hb : r64 b) (h0 : 0 ≤ a) (h1 : 0 < b) (hk : K p ls (.long (J (a / b)) :: st) h bc bs) : K pc ls (.long (J b) :: .long (J a) :: st) h bc bs := by
  subst hp
  rw [← J_divp ha hb h0 h1] at hk
  exact x_row hK hf ⟨J_ne0 hb (by omega), hk⟩
theorem x_lremp (p : Nat) {a b : Int} (hK : CLO CL ac ret Q K) (hf : fr ac pc = some (.lrem, r1, r2, r3)) (hp : pc + 1 = p) (ha : r64 a) (hb : r64 b) (h0 : 0 ≤ a) (h1 : 0 < b) (hk : K p ls (.long (J (a % b)) :: st) h bc bs) : K pc ls (.long (J b) :: .long (J a) :: st) h bc bs := by
  subst hp
  rw [← J_remp ha hb h0 h1] at hk
  exact x_row hK hf ⟨J_ne0 hb (by omega), hk⟩
/-- whatever it is -/
theorem x_ldivX (p : Nat) {a b : Int} (hK : CLO CL ac ret Q K) (hf : fr ac pc = some (.ldiv, r1, r2, r3)) (hp : pc + 1 = p) (hb : r64 b) (h1 : b ≠ 0) (hk : ∀ e, r64 e → K p ls (.long (J e) :: st) h bc bs) : K pc ls (.long (J b) :: .long (J a) :: st) h bc bs := by
  subst hp
  have := hk (J a / J b).toInt (r_J _)
  rw [t_J] at this
  exact x_row hK hf ⟨J_ne0 hb h1, this⟩
theorem x_lremX (p : Nat) {a b : Int} (hK : CLO CL ac ret Q K) (hf : fr ac pc = some (.lrem, r1, r2, r3)) (hp : pc + 1 = p) (hb : r64 b) (h1 : b ≠ 0) (hk : ∀ e, r64 e → K p ls (.long (J e) :: st) h bc bs) : K pc ls (.long (J b) :: .long (J a) :: st) h bc bs := by
  subst hp
  have := hk (J a - J a / J b * J b).toInt (r_J _)
  rw [t_J] at this
  exact x_row hK hf ⟨J_ne0 hb h1, this⟩
theorem x_lmulX (p : Nat) {a b : Int} (hK : CLO CL ac ret Q K) (hf : fr ac pc = some (.lmul, r1, r2, r3)) (hp : pc + 1 = p) (hk : ∀ e, r64 e → K p ls (.long (J e) :: st) h bc bs) : K pc ls (.long (J b) :: .long (J a) :: st) h bc bs := by
  subst hp
  have := hk (J a * J b).toInt (r_J _)
  rw [t_J] at this
  exact x_row hK hf this
theorem x_lsw {a : Int} {d : Int} {ps : Array (Int × Int)} (hK : CLO CL ac ret Q K) (hf : fr ac pc = some (.lookupswitch d ps, r1, r2, r3)) (ha : r32 a) {l : List (Int × Int)} (hl : ps.toList = l) (hk : K (tg pc (Op.lookupswitch.offset l d a)) ls st h bc bs) : K pc ls (.int (I a) :: st) h bc bs := by
  subst hl
  have e : (I a).toInt = a := I_t ha
  rw [← e] at hk
  exact x_row hK hf hk
theorem x_iandX (p : Nat) {a b : Int} (hK : CLO CL ac ret Q K) (hf : fr ac pc = some (.iand, r1, r2, r3)) (hp : pc + 1 = p) (hk : ∀ c, r32 c → K p ls (.int (I c) :: st) h bc bs) : K pc ls (.int (I b) :: .int (I a) :: st) h bc bs :=
  x_iand p hK hf hp (t_I _).symm (hk _ (r_I _))
theorem x_iorX (p : Nat) {a b : Int} (hK : CLO CL ac ret Q K) (hf : fr ac pc = some (.ior, r1, r2, r3)) (hp : pc + 1 = p) (hk : ∀ c, r32 c → K p ls (.int (I c) :: st) h bc bs) : K pc ls (.int (I b) :: .int (I a) :: st) h bc bs :=
  x_ior p hK hf hp (t_I _).symm (hk _ (r_I _))
theorem x_ixorX (p : Nat) {a b : Int} (hK : CLO CL ac ret Q K) (hf : fr ac pc = some (.ixor, r1, r2, r3)) (hp : pc + 1 = p) (hk : ∀ c, r32 c → K p ls (.int (I c) :: st) h bc bs) : K pc ls (.int (I b) :: .int (I a) :: st) h bc bs :=
  x_ixor p hK hf hp (t_I _).symm (hk _ (r_I _))
theorem x_ishlX (p : Nat) {a b : Int} (hK : CLO CL ac ret Q K) (hf : fr ac pc = some (.ishl, r1, r2, r3)) (hp : pc + 1 = p) (hk : ∀ c, r32 c → K p ls (.int (I c) :: st) h bc bs) : K pc ls (.int (I b) :: .int (I a) :: st) h bc bs :=
  x_ishl p hK hf hp (t_I _).symm (hk _ (r_I _))
theorem x_ishrX (p : Nat) {a b : Int} (hK : CLO CL ac ret Q K) (hf : fr ac pc = some (.ishr, r1, r2, r3)) (hp : pc + 1 = p) (hk : ∀ c, r32 c → K p ls (.int (I c) :: st) h bc bs) : K pc ls (.int (I b) :: .int (I a) :: st) h bc bs :=
  x_ishr p hK hf hp (t_I _).symm (hk _ (r_I _))
theorem x_iushrX (p : Nat) {a b : Int} (hK : CLO CL ac ret Q K) (hf : fr ac pc = some (.iushr, r1, r2, r3)) (hp : pc + 1 = p) (hk : ∀ c, r32 c → K p ls (.int (I c) :: st) h bc bs) : K pc ls (.int (I b) :: .int (I a) :: st) h bc bs :=
  x_iushr p hK hf hp (t_I _).symm (hk _ (r_I _))
theorem FRM_Jn {M : MD} {h0 : aH} {a r k : Nat} {v : Int64} (x y : Nat) (hF : FRM gRL M h0 h) (hr : gRL[a]? = some r) (hm : mIn M 1 r x y = true) (hb : bse r = r) (h1 : x ≤ k) (h2 : k ≤ y) : FRM gRL M h0 (sJ h a k v) := FRM_J hF hr (mHas_n hm hb h1 h2)
end JDV

/-- the number of the step, in the state and in what is put by, is at most b -/
def NB (b : Int) (h : aH) : Prop := (0 ≤ gi h 178 0 ∧ gi h 178 0 ≤ b) ∧ (∀ u : Nat, u < 16 → 0 ≤ gi h 186 (57 * u) ∧ gi h 186 (57 * u) ≤ b) ∧ ∀ u : Nat, u < 3 → 0 ≤ gi h 200 (57 * u) ∧ gi h 200 (57 * u) ≤ b
theorem NB.mono {b c : Int} {h : aH} (hb : b ≤ c) (n : NB b h) : NB c h := ⟨⟨n.1.1, by have := n.1.2; omega⟩, fun u hu => ⟨(n.2.1 u hu).1, by have := (n.2.1 u hu).2; omega⟩, fun u hu => ⟨(n.2.2 u hu).1, by have := (n.2.2 u hu).2; omega⟩⟩
/-- what is elsewhere doesn't matter -/
theorem NB.w {b : Int} {h : aH} {a k : Nat} {e : Int} (n : NB b h) (ha : a ≠ 178 ∧ a ≠ 186 ∧ a ≠ 200) : NB b (wI h a k e) := by
  refine ⟨?_, fun u hu => ?_, fun u hu => ?_⟩
  · rw [gi_a (fun q => ha.1 q.symm)]; exact n.1
  · rw [gi_a (fun q => ha.2.1 q.symm)]; exact n.2.1 u hu
  · rw [gi_a (fun q => ha.2.2 q.symm)]; exact n.2.2 u hu
/-- what is said of the rows that are put by (69, 83) is what is said of the state (61), row by row -/
def rowsOf (n r : Nat) : Bool := (eG gE r).all fun q => Nat.beq q.1 q.2.1 && (List.range n).any fun u => (eG gE 61).any fun s => Nat.beq s.1 s.2.1 && Nat.beq q.1 (57 * u + s.1) && decide (q.2.2 = s.2.2)
def rowsIn (n r : Nat) : Bool := (eG gE 61).all fun s => Nat.beq s.1 s.2.1 && Nat.blt s.1 57 && (List.range n).all fun u => decide ((57 * u + s.1, 57 * u + s.1, s.2.2) ∈ eG gE r)
theorem rowsOf_ok {n r : Nat} (h : rowsOf n r = true) {q : Nat × Nat × Int × Int} (hq : q ∈ eG gE r) : q.1 = q.2.1 ∧ ∃ u, u < n ∧ ∃ s ∈ eG gE 61, q.1 = 57 * u + s.1 ∧ q.2.2 = s.2.2 ∧ s.1 = s.2.1 := by
  have z := List.all_eq_true.mp h q hq
  rw [Bool.and_eq_true] at z
  obtain ⟨u, hu, z2⟩ := List.any_eq_true.mp z.2
  obtain ⟨s, hs, z3⟩ := List.any_eq_true.mp z2
  simp only [Bool.and_eq_true, Nat.beq_eq, decide_eq_true_eq] at z3
  exact ⟨Nat.beq_eq.mp z.1, u, List.mem_range.mp hu, s, hs, z3.1.2, z3.2, z3.1.1⟩
theorem rowsIn_ok {n r : Nat} (h : rowsIn n r = true) {s : Nat × Nat × Int × Int} (hs : s ∈ eG gE 61) : s.1 = s.2.1 ∧ s.1 < 57 ∧ ∀ u, u < n → (57 * u + s.1, 57 * u + s.1, s.2.2) ∈ eG gE r := by
  have z := List.all_eq_true.mp h s hs
  simp only [Bool.and_eq_true, Nat.beq_eq] at z
  refine ⟨z.1.1, bt z.1.2, fun u hu => ?_⟩
  have := List.all_eq_true.mp z.2 u (List.mem_range.mpr hu)
  exact of_decide_eq_true this
theorem ro69 : rowsOf 16 69 = true := by decide +kernel
theorem ri69 : rowsIn 16 69 = true := by decide +kernel
theorem ro83 : rowsOf 3 83 = true := by decide +kernel
theorem ri83 : rowsIn 3 83 = true := by decide +kernel
theorem e6162 : eG gE 62 = eG gE 61 := rfl
section CPY
variable {sh : List (Nat × Nat)} {h : aH}
/-- a place of the state is copied into a row -/
theorem cp_in {r a n : Nat} (hro : rowsOf n r = true) (hr : gRL[a]? = some r) (hG : GD gE gRL sh h) (u k : Nat) (hu : u < n) (hk : k < 57) : GD gE gRL sh (wI h a (57 * u + k) (gi h 178 k)) := by
  refine GD_w hG hr (gi_r _ _ _) fun q hq h1 h2 => ?_
  obtain ⟨e1, v, hv, s, hs, e2, e3, e4⟩ := rowsOf_ok hro hq
  obtain ⟨-, s57, -⟩ := rowsIn_ok ri69 hs
  have : k = s.1 := by omega
  rw [e3, this]
  exact hG.2.2.1 178 61 rfl s hs s.1 (Nat.le_refl _) (by omega)
/-- and back -/
theorem cp_out {r a n : Nat} (hri : rowsIn n r = true) (hr : gRL[a]? = some r) (hG : GD gE gRL sh h) (u k : Nat) (hu : u < n) (hk : k < 57) : GD gE gRL sh (wI h 178 k (gi h a (57 * u + k))) := by
  refine GD_w hG (r := 61) rfl (gi_r _ _ _) fun s hs h1 h2 => ?_
  obtain ⟨e1, s57, hin⟩ := rowsIn_ok hri hs
  have : k = s.1 := by omega
  rw [this]
  exact hG.2.2.1 a r hr _ (hin u hu) (57 * u + s.1) (Nat.le_refl _) (Nat.le_refl _)
theorem cp_then (hG : GD gE gRL sh h) (k : Nat) (hk : k < 57) : GD gE gRL sh (wI h 179 k (gi h 178 k)) := by
  refine GD_w hG (r := 62) rfl (gi_r _ _ _) fun s hs h1 h2 => ?_
  rw [e6162] at hs
  exact hG.2.2.1 178 61 rfl s hs k h1 h2
theorem cp_sh (hG : GD gE gRL sh h) (k : Nat) (hk : k < 855) : GD gE gRL sh (wI h 186 k (gi h 186 (k + 57))) := by
  refine GD_w hG (r := 69) rfl (gi_r _ _ _) fun q hq h1 h2 => ?_
  obtain ⟨e1, v, hv, s, hs, e2, e3, e4⟩ := rowsOf_ok ro69 hq
  obtain ⟨-, s57, hin⟩ := rowsIn_ok ri69 hs
  have z := hG.2.2.1 186 69 rfl _ (hin (v + 1) (by omega)) (k + 57) (by show 57 * (v + 1) + s.1 ≤ _; omega) (by show _ ≤ 57 * (v + 1) + s.1; omega)
  rw [e3]
  exact z
theorem nb_in {b : Int} (n : NB b h) (u k : Nat) (hk : k < 57) : NB b (wI h 186 (57 * u + k) (gi h 178 k)) := by
  refine ⟨?_, fun v hv => ?_, fun v hv => ?_⟩
  · rw [gi_a (by decide)]; exact n.1
  · by_cases e : 57 * v = 57 * u + k
    · rw [e, gi_same (gi_r _ _ _), show k = 0 by omega]; exact n.1
    · rw [gi_k e]; exact n.2.1 v hv
  · rw [gi_a (by decide)]; exact n.2.2 v hv
theorem nb_inK {b : Int} (n : NB b h) (u k : Nat) (hk : k < 57) : NB b (wI h 200 (57 * u + k) (gi h 178 k)) := by
  refine ⟨?_, fun v hv => ?_, fun v hv => ?_⟩
  · rw [gi_a (by decide)]; exact n.1
  · rw [gi_a (by decide)]; exact n.2.1 v hv
  · by_cases e : 57 * v = 57 * u + k
    · rw [e, gi_same (gi_r _ _ _), show k = 0 by omega]; exact n.1
    · rw [gi_k e]; exact n.2.2 v hv
theorem nb_out {b : Int} (n : NB b h) (u k : Nat) (hu : u < 16) (hk : k < 57) : NB b (wI h 178 k (gi h 186 (57 * u + k))) := by
  refine ⟨?_, fun v hv => ?_, fun v hv => ?_⟩
  · by_cases e : 0 = k
    · rw [← e, gi_same (gi_r _ _ _)]; exact n.2.1 u hu
    · rw [gi_k e]; exact n.1
  · rw [gi_a (by decide)]; exact n.2.1 v hv
  · rw [gi_a (by decide)]; exact n.2.2 v hv
theorem nb_outK {b : Int} (n : NB b h) (u k : Nat) (hu : u < 3) (hk : k < 57) : NB b (wI h 178 k (gi h 200 (57 * u + k))) := by
  refine ⟨?_, fun v hv => ?_, fun v hv => ?_⟩
  · by_cases e : 0 = k
    · rw [← e, gi_same (gi_r _ _ _)]; exact n.2.2 u hu
    · rw [gi_k e]; exact n.1
  · rw [gi_a (by decide)]; exact n.2.1 v hv
  · rw [gi_a (by decide)]; exact n.2.2 v hv
theorem nb_sh {b : Int} (n : NB b h) (k : Nat) (hk : k < 855) : NB b (wI h 186 k (gi h 186 (k + 57))) := by
  refine ⟨?_, fun v hv => ?_, fun v hv => ?_⟩
  · rw [gi_a (by decide)]; exact n.1
  · by_cases e : 57 * v = k
    · rw [e, gi_same (gi_r _ _ _), show k + 57 = 57 * (v + 1) by omega]; exact n.2.1 (v + 1) (by omega)
    · rw [gi_k e]; exact n.2.1 v hv
  · rw [gi_a (by decide)]; exact n.2.2 v hv
end CPY
theorem ctX11_putsBy {SP : CT} (hSP : MONO SP) {sh : List (Nat × Nat)} {h : aH} (hG : GD gE gRL sh h) (hu : 0 ≤ gi h 171 29 ∧ gi h 171 29 ≤ 15) : CLd SP 2 mX11_putsBy [.ref 171] h 0 0 (fun rv h' => rv = none ∧ GD gE gRL sh h' ∧ FRM gRL [(0, 69, 0, 911)] h h' ∧ ∀ b, NB b h → NB b h') := by
  refine x_met _ rfl (Nat.le_of_ble_eq_true rfl) (fun K hK => ?_)
  have hmono := MONO_CLd hSP 1
  obtain ⟨u, hu1, hu2⟩ : ∃ u : Nat, gi h 171 29 = u ∧ u < 16 := ⟨(gi h 171 29).toNat, by omega, by omega⟩
  have loop : ∀ (m : Nat) (k : Int) (h1 : aH), ((57 - k).toNat = m) → 0 ≤ k → k ≤ 57 → GD gE gRL sh h1 → FRM gRL [(0, 69, 0, 911)] h h1 ∧ (∀ b, NB b h → NB b h1) → K 2 [(1, .int (I k)), (0, .ref 171)] [] h1 0 0 := by
    intro m
    induction m using Nat.strongRecOn with
    | ind m ih =>
    intro k h1 hm h0 hk hG1 hI
    obtain ⟨hF, hN⟩ := hI
    have hu3 : gi h1 171 29 = u := (FRM_gi hF (r := 54) rfl rfl).trans hu1
    refine x_iload_n 3 hK rfl rfl rfl ?_
    refine x_bipush 5 hK rfl rfl rfl ?_
    refine x_if_icmp_ge 34 8 hK rfl rfl rfl (by omega) (by omega) (fun c3 => ?_) (fun c3 => ?_)
    · exact x_vret hK rfl ⟨rfl, hG1, hF, hN⟩
    · refine x_aload_n 9 hK rfl rfl rfl ?_
      refine x_getR 12 hK rfl rfl (sp_171 (h := h1) hG1) (rf_171_30 (h := h1) hG1) ?_
      refine x_bipush 14 hK rfl rfl rfl ?_
      refine x_aload_n 15 hK rfl rfl rfl ?_
      refine x_getE 18 hK rfl (Or.inl rfl) rfl (sp_171 (h := h1) hG1) (e := (u : Int)) (hu3) ?_
      refine x_imul 19 hK rfl rfl ?_
      refine x_iload_n 20 hK rfl rfl rfl ?_
      refine x_iadd 21 hK rfl rfl ?_
      refine x_aload_n 22 hK rfl rfl rfl ?_
      refine x_getR 25 hK rfl rfl (sp_171 (h := h1) hG1) (rf_171_14 (h := h1) hG1) ?_
      refine x_iload_n 26 hK rfl rfl rfl ?_
      refine x_ialoadE 27 hK rfl rfl (sp_178 (h := h1) hG1) (by omega) (by omega) (by omega) (e' := (gi h1 178 k.toNat)) (rfl) ?_
      refine x_iastore 28 hK rfl rfl (sp_186 (h := h1) hG1) (by omega) (by omega) (by omega) ?_
      refine x_iinc 31 hK rfl rfl rfl [(1, .int (I (k + 1))), (0, .ref 171)] rfl ?_
      refine x_goto 2 hK rfl rfl ?_
      have e1 : (((57 * (u : Int)) + k)).toNat = 57 * u + k.toNat := by omega
      rw [e1]
      exact ih _ (by omega) (k + 1) _ rfl (by omega) (by omega) (cp_in ro69 (r := 69) rfl hG1 u k.toNat hu2 (by omega)) ⟨FRM_wn 0 911 hF (r := 69) rfl rfl rfl (by omega) (by omega), fun b hb => nb_in (hN b hb) u k.toNat (by omega)⟩
  refine x_iconst 1 hK rfl rfl ?_
  refine x_istore_n 2 hK rfl rfl [(1, .int (I 0)), (0, .ref 171)] rfl ?_
  exact loop _ 0 h rfl (by omega) (by omega) hG ⟨FRM.rf, fun _ n => n⟩
theorem ctX11_puts {SP : CT} (hSP : MONO SP) {sh : List (Nat × Nat)} {h : aH} (hG : GD gE gRL sh h) : CLd SP 2 mX11_puts [.ref 171] h 0 0 (fun rv h' => rv = none ∧ GD gE gRL sh h' ∧ FRM gRL [(0, 62, 0, 56)] h h') := by
  refine x_met _ rfl (Nat.le_of_ble_eq_true rfl) (fun K hK => ?_)
  have hmono := MONO_CLd hSP 1
  have loop : ∀ (m : Nat) (k : Int) (h1 : aH), ((57 - k).toNat = m) → 0 ≤ k → k ≤ 57 → GD gE gRL sh h1 → FRM gRL [(0, 62, 0, 56)] h h1 → K 2 [(1, .int (I k)), (0, .ref 171)] [] h1 0 0 := by
    intro m
    induction m using Nat.strongRecOn with
    | ind m ih =>
    intro k h1 hm h0 hk hG1 hF
    refine x_iload_n 3 hK rfl rfl rfl ?_
    refine x_bipush 5 hK rfl rfl rfl ?_
    refine x_if_icmp_ge 26 8 hK rfl rfl rfl (by omega) (by omega) (fun c3 => ?_) (fun c3 => ?_)
    · exact x_vret hK rfl ⟨rfl, hG1, hF⟩
    · refine x_aload_n 9 hK rfl rfl rfl ?_
      refine x_getR 12 hK rfl rfl (sp_171 (h := h1) hG1) (rf_171_15 (h := h1) hG1) ?_
      refine x_iload_n 13 hK rfl rfl rfl ?_
      refine x_aload_n 14 hK rfl rfl rfl ?_
      refine x_getR 17 hK rfl rfl (sp_171 (h := h1) hG1) (rf_171_14 (h := h1) hG1) ?_
      refine x_iload_n 18 hK rfl rfl rfl ?_
      refine x_ialoadE 19 hK rfl rfl (sp_178 (h := h1) hG1) (by omega) (by omega) (by omega) (e' := (gi h1 178 k.toNat)) (rfl) ?_
      refine x_iastore 20 hK rfl rfl (sp_179 (h := h1) hG1) (by omega) (by omega) (by omega) ?_
      refine x_iinc 23 hK rfl rfl rfl [(1, .int (I (k + 1))), (0, .ref 171)] rfl ?_
      refine x_goto 2 hK rfl rfl ?_
      exact ih _ (by omega) (k + 1) _ rfl (by omega) (by omega) (cp_then hG1 k.toNat (by omega)) (FRM_wn 0 56 hF (r := 62) rfl rfl rfl (by omega) (by omega))
  refine x_iconst 1 hK rfl rfl ?_
  refine x_istore_n 2 hK rfl rfl [(1, .int (I 0)), (0, .ref 171)] rfl ?_
  exact loop _ 0 h rfl (by omega) (by omega) hG FRM.rf
theorem ctX11_adds {SP : CT} (hSP : MONO SP) {sh : List (Nat × Nat)} {h : aH} (hG : GD gE gRL sh h) {n : Int} (hu : 0 ≤ gi h 171 29 ∧ gi h 171 29 ≤ 15) : CLd SP 2 mX11_adds [.ref 171, .int (I n)] h 0 0 (fun rv h' => rv = some (.int (I n)) ∧ GD gE gRL sh h' ∧ FRM gRL [(0, 54, 29, 29), (0, 69, 0, 911)] h h' ∧ (0 ≤ gi h' 171 29 ∧ gi h' 171 29 ≤ 15) ∧ ∀ b, NB b h → NB b h') := by
  refine x_met _ rfl (Nat.le_of_ble_eq_true rfl) (fun K hK => ?_)
  have hmono := MONO_CLd hSP 1
  have loop : ∀ (m : Nat) (k : Int) (h1 : aH), ((855 - k).toNat = m) → 0 ≤ k → k ≤ 855 → GD gE gRL sh h1 → FRM gRL [(0, 54, 29, 29), (0, 69, 0, 911)] h h1 ∧ gi h1 171 29 = gi h 171 29 + 1 ∧ (∀ b, NB b h → NB b h1) → K 21 [(2, .int (I k)), (0, .ref 171), (1, .int (I n))] [] h1 0 0 := by
    intro m
    induction m using Nat.strongRecOn with
    | ind m ih =>
    intro k h1 hm h0 hk hG1 hI
    obtain ⟨hF, hu3, hN⟩ := hI
    refine x_iload_n 22 hK rfl rfl rfl ?_
    refine x_sipush 25 hK rfl rfl rfl ?_
    refine x_if_icmp_ge 49 28 hK rfl rfl rfl (by omega) (by omega) (fun c3 => ?_) (fun c3 => ?_)
    · refine x_aload_n 50 hK rfl rfl rfl ?_
      refine x_dup 51 hK rfl rfl rfl ?_
      refine x_getE 54 hK rfl (Or.inl rfl) rfl (sp_171 (h := h1) hG1) (e := (gi h 171 29 + 1)) (hu3) ?_
      refine x_iconst 55 hK rfl rfl ?_
      refine x_isub 56 hK rfl rfl ?_
      refine x_putI 59 hK rfl rfl (sp_171 (h := h1) hG1) ?_
      refine x_iload_n 60 hK rfl rfl rfl ?_
      exact x_iret hK rfl ⟨rfl, GD_w1 (hG1) (r := 54) rfl (by omega) rfl (by omega) (by omega), FRM_w (hF) (r := 54) rfl rfl, by rw [gi_same (by omega)]; omega, fun b hb => (hN b hb).w (by decide)⟩
    · refine x_aload_n 29 hK rfl rfl rfl ?_
      refine x_getR 32 hK rfl rfl (sp_171 (h := h1) hG1) (rf_171_30 (h := h1) hG1) ?_
      refine x_iload_n 33 hK rfl rfl rfl ?_
      refine x_aload_n 34 hK rfl rfl rfl ?_
      refine x_getR 37 hK rfl rfl (sp_171 (h := h1) hG1) (rf_171_30 (h := h1) hG1) ?_
      refine x_iload_n 38 hK rfl rfl rfl ?_
      refine x_bipush 40 hK rfl rfl rfl ?_
      refine x_iadd 41 hK rfl rfl ?_
      refine x_ialoadE 42 hK rfl rfl (sp_186 (h := h1) hG1) (by omega) (by omega) (by omega) (e' := (gi h1 186 (k + 57).toNat)) (rfl) ?_
      refine x_iastore 43 hK rfl rfl (sp_186 (h := h1) hG1) (by omega) (by omega) (by omega) ?_
      refine x_iinc 46 hK rfl rfl rfl [(2, .int (I (k + 1))), (0, .ref 171), (1, .int (I n))] rfl ?_
      refine x_goto 21 hK rfl rfl ?_
      have e1 : (k + 57).toNat = k.toNat + 57 := by omega
      rw [e1]
      exact ih _ (by omega) (k + 1) _ rfl (by omega) (by omega) (cp_sh hG1 k.toNat (by omega)) ⟨FRM_wn 0 911 hF (r := 69) rfl rfl rfl (by omega) (by omega), (gi_a (by decide) _).trans hu3, fun b hb => nb_sh (hN b hb) k.toNat (by omega)⟩
  refine x_aload_n 1 hK rfl rfl rfl ?_
  refine x_dup 2 hK rfl rfl rfl ?_
  refine x_getE 5 hK rfl (Or.inl rfl) rfl (sp_171 (h := h) hG) (e := (gi h 171 29)) (rfl) ?_
  refine x_iconst 6 hK rfl rfl ?_
  refine x_iadd 7 hK rfl rfl ?_
  refine x_putI 10 hK rfl rfl (sp_171 (h := h) hG) ?_
  refine x_aload_n 11 hK rfl rfl rfl ?_
  refine x_getE 14 hK rfl (Or.inl rfl) rfl (sp_171 (h := h) hG) (e := ((gi h 171 29) + 1)) (gi_same (by omega)) ?_
  refine x_bipush 16 hK rfl rfl rfl ?_
  refine x_if_icmp_le 59 19 hK rfl rfl rfl (by omega) (by omega) (fun c10 => ?_) (fun c10 => ?_)
  · refine x_iload_n 60 hK rfl rfl rfl ?_
    exact x_iret hK rfl ⟨rfl, GD_w1 (hG) (r := 54) rfl (by omega) rfl (by omega) (by omega), FRM_w (FRM.rf) (r := 54) rfl rfl, by rw [gi_same (by omega)]; omega, fun b hb => hb.w (by decide)⟩
  · refine x_iconst 20 hK rfl rfl ?_
    refine x_istore_n 21 hK rfl rfl [(2, .int (I 0)), (0, .ref 171), (1, .int (I n))] rfl ?_
    exact loop _ 0 _ rfl (by omega) (by omega) (GD_w1 (hG) (r := 54) rfl (by omega) rfl (by omega) (by omega)) ⟨FRM_w (FRM.rf) (r := 54) rfl rfl, gi_same (by omega), fun b hb => hb.w (by decide)⟩
theorem ctX11_undo {SP : CT} (hSP : MONO SP) {sh : List (Nat × Nat)} {h : aH} (hG : GD gE gRL sh h) (hu : 0 ≤ gi h 171 29 ∧ gi h 171 29 ≤ 15) : CLd SP 2 mX11_undo [.ref 171] h 0 0 (fun rv h' => (∃ n, rv = some (.int (I n)) ∧ -1 ≤ n ∧ n ≤ 14) ∧ GD gE gRL sh h' ∧ FRM gRL [(0, 54, 0, 0), (0, 54, 29, 29), (0, 61, 0, 56)] h h' ∧ (0 ≤ gi h' 171 29 ∧ gi h' 171 29 ≤ 15) ∧ gi h' 171 0 = 0 ∧ ∀ b, NB b h → NB b h') := by
  refine x_met _ rfl (Nat.le_of_ble_eq_true rfl) (fun K hK => ?_)
  have hmono := MONO_CLd hSP 1
  have loop : ∀ (m : Nat) (k : Int) (h1 : aH), ((57 - k).toNat = m) → 0 ≤ k → k ≤ 57 → GD gE gRL sh h1 → ∀ u : Nat, u < 15 → gi h1 171 29 = u → gi h1 171 0 = 0 → FRM gRL [(0, 54, 0, 0), (0, 54, 29, 29), (0, 61, 0, 56)] h h1 → (∀ b, NB b h → NB b h1) → K 26 [(1, .int (I k)), (0, .ref 171)] [] h1 0 0 := by
    intro m
    induction m using Nat.strongRecOn with
    | ind m ih =>
    intro k h1 hm h0 hk hG1 u hu2 hu3 ht hF hN
    refine x_iload_n 27 hK rfl rfl rfl ?_
    refine x_bipush 29 hK rfl rfl rfl ?_
    refine x_if_icmp_ge 58 32 hK rfl rfl rfl (by omega) (by omega) (fun c3 => ?_) (fun c3 => ?_)
    · refine x_aload_n 59 hK rfl rfl rfl ?_
      refine x_getE 62 hK rfl (Or.inl rfl) rfl (sp_171 (h := h1) hG1) (e := (u : Int)) (hu3) ?_
      exact x_iret hK rfl ⟨⟨_, rfl, by omega, by omega⟩, hG1, hF, by omega, ht, hN⟩
    · refine x_aload_n 33 hK rfl rfl rfl ?_
      refine x_getR 36 hK rfl rfl (sp_171 (h := h1) hG1) (rf_171_14 (h := h1) hG1) ?_
      refine x_iload_n 37 hK rfl rfl rfl ?_
      refine x_aload_n 38 hK rfl rfl rfl ?_
      refine x_getR 41 hK rfl rfl (sp_171 (h := h1) hG1) (rf_171_30 (h := h1) hG1) ?_
      refine x_bipush 43 hK rfl rfl rfl ?_
      refine x_aload_n 44 hK rfl rfl rfl ?_
      refine x_getE 47 hK rfl (Or.inl rfl) rfl (sp_171 (h := h1) hG1) (e := (u : Int)) (hu3) ?_
      refine x_imul 48 hK rfl rfl ?_
      refine x_iload_n 49 hK rfl rfl rfl ?_
      refine x_iadd 50 hK rfl rfl ?_
      refine x_ialoadE 51 hK rfl rfl (sp_186 (h := h1) hG1) (by omega) (by omega) (by omega) (e' := (gi h1 186 ((57 * (u : Int)) + k).toNat)) (rfl) ?_
      refine x_iastore 52 hK rfl rfl (sp_178 (h := h1) hG1) (by omega) (by omega) (by omega) ?_
      refine x_iinc 55 hK rfl rfl rfl [(1, .int (I (k + 1))), (0, .ref 171)] rfl ?_
      refine x_goto 26 hK rfl rfl ?_
      have e1 : (57 * (u : Int) + k).toNat = 57 * u + k.toNat := by omega
      rw [e1]
      exact ih _ (by omega) (k + 1) _ rfl (by omega) (by omega) (cp_out ri69 (r := 69) rfl hG1 u k.toNat (by omega) (by omega)) u hu2 ((gi_a (by decide) _).trans hu3) ((gi_a (by decide) _).trans ht) (FRM_wn 0 56 hF (r := 61) rfl rfl rfl (by omega) (by omega)) fun b hb => nb_out (hN b hb) u k.toNat (by omega) (by omega)
  have gr0 := gi_r h 171 29
  refine x_aload_n 1 hK rfl rfl rfl ?_
  refine x_iconst 2 hK rfl rfl ?_
  refine x_putI 5 hK rfl rfl (sp_171 (h := h) hG) ?_
  refine x_aload_n 6 hK rfl rfl rfl ?_
  refine x_getE 9 hK rfl (Or.inl rfl) rfl (sp_171 (h := h) hG) (e := (gi h 171 29)) (gi_k (by decide) _) ?_
  refine x_if_ne 14 12 hK rfl rfl rfl (by omega) (fun c6 => ?_) (fun c6 => ?_)
  · refine x_aload_n 15 hK rfl rfl rfl ?_
    refine x_dup 16 hK rfl rfl rfl ?_
    refine x_getE 19 hK rfl (Or.inl rfl) rfl (sp_171 (h := h) hG) (e := (gi h 171 29)) (gi_k (by decide) _) ?_
    refine x_iconst 20 hK rfl rfl ?_
    refine x_isub 21 hK rfl rfl ?_
    refine x_putI 24 hK rfl rfl (sp_171 (h := h) hG) ?_
    refine x_iconst 25 hK rfl rfl ?_
    refine x_istore_n 26 hK rfl rfl [(1, .int (I 0)), (0, .ref 171)] rfl ?_
    obtain ⟨u, hu1, hu2⟩ : ∃ u : Nat, gi h 171 29 - 1 = u ∧ u < 15 := ⟨(gi h 171 29 - 1).toNat, by omega, by omega⟩
    exact loop _ 0 _ rfl (by omega) (by omega) (GD_w1 (GD_w1 (hG) (r := 54) rfl (by omega) rfl (by omega) (by omega)) (r := 54) rfl (by omega) rfl (by omega) (by omega)) u hu2 ((gi_same (by omega)).trans hu1) ((gi_k (by decide) _).trans (gi_same (by omega))) (FRM_w (FRM_w (FRM.rf) (r := 54) rfl rfl) (r := 54) rfl rfl) fun b hb => (hb.w (by decide)).w (by decide)
  · refine x_iconst 13 hK rfl rfl ?_
    exact x_iret hK rfl ⟨⟨_, rfl, by omega, by omega⟩, GD_w1 (hG) (r := 54) rfl (by omega) rfl (by omega) (by omega), FRM_w (FRM.rf) (r := 54) rfl rfl, by rw [gi_k (by decide)]; exact hu, gi_same (by omega), fun b hb => hb.w (by decide)⟩
/-! small ones -/
theorem ctX11_in {SP : CT} {h : aH} {a b c : Int} (ha : r64 a) (hb : r64 b) (hc : r64 c) : CLd SP 1 mX11_in [.long (J a), .long (J b), .long (J c)] h 0 0 (fun rv h' => h' = h ∧ ((rv = some (.int (I 1)) ∧ b ≤ a ∧ a ≤ c) ∨ (rv = some (.int (I 0)) ∧ ¬ (b ≤ a ∧ a ≤ c)))) := by
  refine x_met _ rfl (Nat.le_of_ble_eq_true rfl) (fun K hK => ?_)
  refine x_lload_n 1 hK rfl rfl rfl ?_
  refine x_lload_n 2 hK rfl rfl rfl ?_
  refine x_lcmp_lt 17 6 hK rfl rfl rfl rfl (by omega) (by omega) (fun c3 => ?_) (fun c3 => ?_)
  · refine x_iconst 18 hK rfl rfl ?_
    exact x_zret hK rfl (by omega) ⟨rfl, Or.inr ⟨rfl, by omega⟩⟩
  · refine x_lload_n 7 hK rfl rfl rfl ?_
    refine x_lload 9 hK rfl rfl rfl ?_
    refine x_lcmp_gt 17 13 hK rfl rfl rfl rfl (by omega) (by omega) (fun c8 => ?_) (fun c8 => ?_)
    · refine x_iconst 18 hK rfl rfl ?_
      exact x_zret hK rfl (by omega) ⟨rfl, Or.inr ⟨rfl, by omega⟩⟩
    · refine x_iconst 14 hK rfl rfl ?_
      refine x_goto 18 hK rfl rfl ?_
      exact x_zret hK rfl (by omega) ⟨rfl, Or.inl ⟨rfl, by omega, by omega⟩⟩
theorem ctX11_flag {SP : CT} {h : aH} {a : Int} (ha : a = 0 ∨ a = 1) : CLd SP 1 mX11_flag [.int (I a)] h 0 0 (fun rv h' => h' = h ∧ rv = some (.int (I a))) := by
  refine x_met _ rfl (Nat.le_of_ble_eq_true rfl) (fun K hK => ?_)
  refine x_iload_n 1 hK rfl rfl rfl ?_
  refine x_if_eq 8 4 hK rfl rfl rfl (by omega) (fun c2 => ?_) (fun c2 => ?_)
  · refine x_iconst 9 hK rfl rfl ?_
    exact x_iret hK rfl ⟨rfl, by rw [show a = 0 by omega]⟩
  · refine x_iconst 5 hK rfl rfl ?_
    refine x_goto 9 hK rfl rfl ?_
    exact x_iret hK rfl ⟨rfl, by rw [show a = 1 by omega]⟩
theorem ctX11_keep {SP : CT} (hSP : MONO SP) {sh : List (Nat × Nat)} {h : aH} (hG : GD gE gRL sh h) {n : Int} (hn : r32 n) : CLd SP 4 mX11_keep [.ref 171, .int (I n)] h 0 0 (fun rv h' => ((rv = some (.int (I 1)) ∧ 0 ≤ n ∧ n ≤ 2) ∨ (rv = some (.int (I 0)) ∧ ¬ (0 ≤ n ∧ n ≤ 2))) ∧ GD gE gRL sh h' ∧ FRM gRL [(0, 54, 0, 0), (0, 81, 0, 2), (0, 82, 0, 2), (0, 83, 0, 170)] h h' ∧ gi h' 171 0 = 0 ∧ ∀ b, NB b h → NB b h') := by
  refine x_met _ rfl (Nat.le_of_ble_eq_true rfl) (fun K hK => ?_)
  have hmono := MONO_CLd hSP 3
  have loop : ∀ (m : Nat) (k : Int) (h1 : aH), ((57 - k).toNat = m) → 0 ≤ k → k ≤ 57 → GD gE gRL sh h1 → ∀ u : Nat, u < 3 → n = u → gi h1 171 0 = 0 → FRM gRL [(0, 54, 0, 0), (0, 81, 0, 2), (0, 82, 0, 2), (0, 83, 0, 170)] h h1 → (∀ b, NB b h → NB b h1) → K 38 [(2, .int (I k)), (0, .ref 171), (1, .int (I n))] [] h1 0 0 := by
    intro m
    induction m using Nat.strongRecOn with
    | ind m ih =>
    intro k h1 hm h0 hk hG1 u hu2 hu3 ht hF hN
    subst hu3
    refine x_iload_n 39 hK rfl rfl rfl ?_
    refine x_bipush 41 hK rfl rfl rfl ?_
    refine x_if_icmp_ge 67 44 hK rfl rfl rfl (by omega) (by omega) (fun c3 => ?_) (fun c3 => ?_)
    · refine x_iconst 68 hK rfl rfl ?_
      exact x_zret hK rfl (by omega) ⟨Or.inl ⟨rfl, by omega, by omega⟩, hG1, hF, ht, hN⟩
    · refine x_aload_n 45 hK rfl rfl rfl ?_
      refine x_getR 48 hK rfl rfl (sp_171 (h := h1) hG1) (rf_171_52 (h := h1) hG1) ?_
      refine x_bipush 50 hK rfl rfl rfl ?_
      refine x_iload_n 51 hK rfl rfl rfl ?_
      refine x_imul 52 hK rfl rfl ?_
      refine x_iload_n 53 hK rfl rfl rfl ?_
      refine x_iadd 54 hK rfl rfl ?_
      refine x_aload_n 55 hK rfl rfl rfl ?_
      refine x_getR 58 hK rfl rfl (sp_171 (h := h1) hG1) (rf_171_14 (h := h1) hG1) ?_
      refine x_iload_n 59 hK rfl rfl rfl ?_
      refine x_ialoadE 60 hK rfl rfl (sp_178 (h := h1) hG1) (by omega) (by omega) (by omega) (e' := (gi h1 178 k.toNat)) (rfl) ?_
      refine x_iastore 61 hK rfl rfl (sp_200 (h := h1) hG1) (by omega) (by omega) (by omega) ?_
      refine x_iinc 64 hK rfl rfl rfl [(2, .int (I (k + 1))), (0, .ref 171), (1, .int (I (u : Int)))] rfl ?_
      refine x_goto 38 hK rfl rfl ?_
      have e1 : (57 * (u : Int) + k).toNat = 57 * u + k.toNat := by omega
      rw [e1]
      exact ih _ (by omega) (k + 1) _ rfl (by omega) (by omega) (cp_in ro83 (r := 83) rfl hG1 u k.toNat hu2 (by omega)) u hu2 rfl ((gi_a (by decide) _).trans ht) (FRM_wn 0 170 hF (r := 83) rfl rfl rfl (by omega) (by omega)) fun b hb => nb_inK (hN b hb) u k.toNat (by omega)
  have gr0 := gi_r h 171 8
  refine x_aload_n 1 hK rfl rfl rfl ?_
  refine x_iconst 2 hK rfl rfl ?_
  refine x_putI 5 hK rfl rfl (sp_171 (h := h) hG) ?_
  refine x_iload_n 6 hK rfl rfl rfl ?_
  refine x_i2l 7 hK rfl rfl (by omega) ?_
  refine x_lconstE 8 0 hK rfl rfl rfl ?_
  refine x_ldc2_w 11 hK rfl rfl ?_
  refine x_callS 14 hK hmono rfl (Or.inl rfl) rfl [.long (J n), .long (J 0), .long (J 2)] [] rfl rfl (Nat.le_of_ble_eq_true rfl) (Nat.le_of_ble_eq_true rfl) (CLd_le (Nat.le_of_ble_eq_true rfl) (ctX11_in (by omega) (by omega) (by omega))) ?_
  rintro v h9 ⟨rfl, ⟨rfl, i1, i2⟩ | ⟨rfl, i1⟩⟩
  · refine x_if_ne 19 17 hK rfl rfl rfl (by omega) (fun _ => ?_) (fun c => by omega)
    refine x_aload_n 20 hK rfl rfl rfl ?_
    refine x_getR 23 hK rfl rfl (sp_171 (h := h) hG) (rf_171_50 (h := h) hG) ?_
    refine x_iload_n 24 hK rfl rfl rfl ?_
    refine x_iconst 25 hK rfl rfl ?_
    refine x_bastore 26 hK rfl rfl (sp_198 (h := h) hG) (by omega) (by omega) (by omega) (by omega) ?_
    refine x_aload_n 27 hK rfl rfl rfl ?_
    refine x_getR 30 hK rfl rfl (sp_171 (h := h) hG) (rf_171_51 (h := h) hG) ?_
    refine x_iload_n 31 hK rfl rfl rfl ?_
    refine x_aload_n 32 hK rfl rfl rfl ?_
    refine x_getE 35 hK rfl (Or.inl rfl) rfl (sp_171 (h := h) hG) (e := (gi h 171 8)) ((gi_a (by decide) _).trans (gi_k (by decide) _)) ?_
    refine x_iastore 36 hK rfl rfl (sp_199 (h := h) hG) (by omega) (by omega) (by omega) ?_
    refine x_iconst 37 hK rfl rfl ?_
    refine x_istore_n 38 hK rfl rfl [(2, .int (I 0)), (0, .ref 171), (1, .int (I n))] rfl ?_
    obtain ⟨u, hu1, hu2⟩ : ∃ u : Nat, n = u ∧ u < 3 := ⟨n.toNat, by omega, by omega⟩
    exact loop _ 0 _ rfl (by omega) (by omega) (GD_wn (GD_wu (GD_w1 (hG) (r := 54) rfl (by omega) rfl (by omega) (by omega)) (r := 81) rfl (by omega) rfl (by omega) (by omega)) (r := 82) rfl rfl) u hu2 hu1 ((gi_a (by decide) _).trans ((gi_a (by decide) _).trans (gi_same (by omega)))) (FRM_wn 0 2 (FRM_wn 0 2 (FRM_w (FRM.rf) (r := 54) rfl rfl) (r := 81) rfl rfl rfl (by omega) (by omega)) (r := 82) rfl rfl rfl (by omega) (by omega)) fun b hb => ((hb.w (by decide)).w (by decide)).w (by decide)
  · refine x_if_ne 19 17 hK rfl rfl rfl (by omega) (fun c => by omega) (fun _ => ?_)
    refine x_iconst 18 hK rfl rfl ?_
    exact x_zret hK rfl (by omega) ⟨Or.inr ⟨rfl, i1⟩, GD_w1 (hG) (r := 54) rfl (by omega) rfl (by omega) (by omega), FRM_w (FRM.rf) (r := 54) rfl rfl, gi_same (by omega), fun b hb => hb.w (by decide)⟩
theorem ctX11_again {SP : CT} (hSP : MONO SP) {sh : List (Nat × Nat)} {h : aH} (hG : GD gE gRL sh h) {n : Int} (hn : r32 n) (hu : 0 ≤ gi h 171 29 ∧ gi h 171 29 ≤ 15) : CLd SP 4 mX11_again [.ref 171, .int (I n)] h 0 0 (fun rv h' => (∃ e, rv = some (.int (I e)) ∧ 0 ≤ e ∧ e ≤ 1) ∧ GD gE gRL sh h' ∧ FRM gRL [(0, 54, 0, 0), (0, 54, 29, 29), (0, 61, 0, 56)] h h' ∧ (0 ≤ gi h' 171 29 ∧ gi h' 171 29 ≤ 15) ∧ gi h' 171 0 = 0 ∧ ∀ b, NB b h → NB b h') := by
  refine x_met _ rfl (Nat.le_of_ble_eq_true rfl) (fun K hK => ?_)
  have hmono := MONO_CLd hSP 3
  have loop : ∀ (m : Nat) (k : Int) (h1 : aH), ((57 - k).toNat = m) → 0 ≤ k → k ≤ 57 → GD gE gRL sh h1 → ∀ u : Nat, u < 3 → n = u → gi h1 171 0 = 0 → FRM gRL [(0, 54, 0, 0), (0, 54, 29, 29), (0, 61, 0, 56)] h h1 → (∀ b, NB b h → NB b h1) → K 43 [(2, .int (I k)), (0, .ref 171), (1, .int (I n))] [] h1 0 0 := by
    intro m
    induction m using Nat.strongRecOn with
    | ind m ih =>
    intro k h1 hm h0 hk hG1 u hu2 hu3 ht hF hN
    subst hu3
    refine x_iload_n 44 hK rfl rfl rfl ?_
    refine x_bipush 46 hK rfl rfl rfl ?_
    refine x_if_icmp_ge 72 49 hK rfl rfl rfl (by omega) (by omega) (fun c3 => ?_) (fun c3 => ?_)
    · refine x_aload_n 73 hK rfl rfl rfl ?_
      refine x_iconst 74 hK rfl rfl ?_
      refine x_putI 77 hK rfl rfl (sp_171 (h := h1) hG1) ?_
      refine x_iconst 78 hK rfl rfl ?_
      exact x_zret hK rfl (by omega) ⟨⟨_, rfl, by omega, by omega⟩, GD_w1 (hG1) (r := 54) rfl (by omega) rfl (by omega) (by omega), FRM_w (hF) (r := 54) rfl rfl, by rw [gi_same (by omega)]; omega, (gi_k (by decide) _).trans ht, fun b hb => (hN b hb).w (by decide)⟩
    · refine x_aload_n 50 hK rfl rfl rfl ?_
      refine x_getR 53 hK rfl rfl (sp_171 (h := h1) hG1) (rf_171_14 (h := h1) hG1) ?_
      refine x_iload_n 54 hK rfl rfl rfl ?_
      refine x_aload_n 55 hK rfl rfl rfl ?_
      refine x_getR 58 hK rfl rfl (sp_171 (h := h1) hG1) (rf_171_52 (h := h1) hG1) ?_
      refine x_bipush 60 hK rfl rfl rfl ?_
      refine x_iload_n 61 hK rfl rfl rfl ?_
      refine x_imul 62 hK rfl rfl ?_
      refine x_iload_n 63 hK rfl rfl rfl ?_
      refine x_iadd 64 hK rfl rfl ?_
      refine x_ialoadE 65 hK rfl rfl (sp_200 (h := h1) hG1) (by omega) (by omega) (by omega) (e' := (gi h1 200 ((57 * (u : Int)) + k).toNat)) (rfl) ?_
      refine x_iastore 66 hK rfl rfl (sp_178 (h := h1) hG1) (by omega) (by omega) (by omega) ?_
      refine x_iinc 69 hK rfl rfl rfl [(2, .int (I (k + 1))), (0, .ref 171), (1, .int (I (u : Int)))] rfl ?_
      refine x_goto 43 hK rfl rfl ?_
      have e1 : (57 * (u : Int) + k).toNat = 57 * u + k.toNat := by omega
      rw [e1]
      exact ih _ (by omega) (k + 1) _ rfl (by omega) (by omega) (cp_out ri83 (r := 83) rfl hG1 u k.toNat hu2 (by omega)) u hu2 rfl ((gi_a (by decide) _).trans ht) (FRM_wn 0 56 hF (r := 61) rfl rfl rfl (by omega) (by omega)) fun b hb => nb_outK (hN b hb) u k.toNat hu2 (by omega)
  have gr0 := gi_r h 171 8
  have gr1 := gi_r h 198
  have gr2 := gi_r h 199
  refine x_aload_n 1 hK rfl rfl rfl ?_
  refine x_iconst 2 hK rfl rfl ?_
  refine x_putI 5 hK rfl rfl (sp_171 (h := h) hG) ?_
  refine x_iload_n 6 hK rfl rfl rfl ?_
  refine x_i2l 7 hK rfl rfl (by first | omega | (have := gr1 n.toNat; have := gr2 n.toNat; omega)) ?_
  refine x_lconstE 8 0 hK rfl rfl rfl ?_
  refine x_ldc2_w 11 hK rfl rfl ?_
  refine x_callS 14 hK hmono rfl (Or.inl rfl) rfl [.long (J n), .long (J 0), .long (J 2)] [] rfl rfl (Nat.le_of_ble_eq_true rfl) (Nat.le_of_ble_eq_true rfl) (CLd_le (Nat.le_of_ble_eq_true rfl) (ctX11_in (by omega) (by omega) (by omega))) ?_
  rintro v h9 ⟨rfl, ⟨rfl, i1, i2⟩ | ⟨rfl, i1⟩⟩
  · refine x_if_eq 39 17 hK rfl rfl rfl (by first | omega | (have := gr1 n.toNat; have := gr2 n.toNat; omega)) (fun c => by omega) (fun _ => ?_)
    refine x_aload_n 18 hK rfl rfl rfl ?_
    refine x_getR 21 hK rfl rfl (sp_171 (h := h) hG) (rf_171_50 (h := h) hG) ?_
    refine x_iload_n 22 hK rfl rfl rfl ?_
    refine x_baloadE 23 hK rfl rfl (sp_198 (h := h) hG) (by first | omega | (have := gr1 n.toNat; have := gr2 n.toNat; omega)) (by first | omega | (have := gr1 n.toNat; have := gr2 n.toNat; omega)) (by first | omega | (have := gr1 n.toNat; have := gr2 n.toNat; omega)) (e' := (gi h 198 n.toNat)) (gi_a (by decide) _) ?_
    refine x_if_eq 39 26 hK rfl rfl rfl (by first | omega | (have := gr1 n.toNat; have := gr2 n.toNat; omega)) (fun c14 => ?_) (fun c14 => ?_)
    · refine x_iconst 40 hK rfl rfl ?_
      exact x_zret hK rfl (by omega) ⟨⟨_, rfl, by omega, by omega⟩, GD_w1 (hG) (r := 54) rfl (by omega) rfl (by omega) (by omega), FRM_w (FRM.rf) (r := 54) rfl rfl, by rw [gi_k (by decide)]; exact hu, gi_same (by omega), fun b hb => hb.w (by decide)⟩
    · refine x_aload_n 27 hK rfl rfl rfl ?_
      refine x_getR 30 hK rfl rfl (sp_171 (h := h) hG) (rf_171_51 (h := h) hG) ?_
      refine x_iload_n 31 hK rfl rfl rfl ?_
      refine x_ialoadE 32 hK rfl rfl (sp_199 (h := h) hG) (by first | omega | (have := gr1 n.toNat; have := gr2 n.toNat; omega)) (by first | omega | (have := gr1 n.toNat; have := gr2 n.toNat; omega)) (by first | omega | (have := gr1 n.toNat; have := gr2 n.toNat; omega)) (e' := (gi h 199 n.toNat)) (gi_a (by decide) _) ?_
      refine x_aload_n 33 hK rfl rfl rfl ?_
      refine x_getE 36 hK rfl (Or.inl rfl) rfl (sp_171 (h := h) hG) (e := (gi h 171 8)) (gi_k (by decide) _) ?_
      refine x_if_icmp_eq 41 39 hK rfl rfl rfl (by first | omega | (have := gr1 n.toNat; have := gr2 n.toNat; omega)) (by first | omega | (have := gr1 n.toNat; have := gr2 n.toNat; omega)) (fun c23 => ?_) (fun c23 => ?_)
      · refine x_iconst 42 hK rfl rfl ?_
        refine x_istore_n 43 hK rfl rfl [(2, .int (I 0)), (0, .ref 171), (1, .int (I n))] rfl ?_
        obtain ⟨u, hu1, hu2⟩ : ∃ u : Nat, n = u ∧ u < 3 := ⟨n.toNat, by omega, by omega⟩
        exact loop _ 0 _ rfl (by omega) (by omega) (GD_w1 (hG) (r := 54) rfl (by omega) rfl (by omega) (by omega)) u hu2 hu1 (gi_same (by omega)) (FRM_w (FRM.rf) (r := 54) rfl rfl) fun b hb => hb.w (by decide)
      · refine x_iconst 40 hK rfl rfl ?_
        exact x_zret hK rfl (by omega) ⟨⟨_, rfl, by omega, by omega⟩, GD_w1 (hG) (r := 54) rfl (by omega) rfl (by omega) (by omega), FRM_w (FRM.rf) (r := 54) rfl rfl, by rw [gi_k (by decide)]; exact hu, gi_same (by omega), fun b hb => hb.w (by decide)⟩
  · refine x_if_eq 39 17 hK rfl rfl rfl (by first | omega | (have := gr1 n.toNat; have := gr2 n.toNat; omega)) (fun _ => ?_) (fun c => by omega)
    refine x_iconst 40 hK rfl rfl ?_
    exact x_zret hK rfl (by omega) ⟨⟨_, rfl, by omega, by omega⟩, GD_w1 (hG) (r := 54) rfl (by omega) rfl (by omega) (by omega), FRM_w (FRM.rf) (r := 54) rfl rfl, by rw [gi_k (by decide)]; exact hu, gi_same (by omega), fun b hb => hb.w (by decide)⟩
