/-! COPIES: the object's state put by, brought back, kept; how late she can be (NB) -/
section LCM
variable {CL : CT} {ac : AC} {ret : Option FieldType} {Q : QT} {K : KT} {r1 r2 r1' r2' : Nat} {r3 r3' : Int} {pc : Nat} {ls : List (Nat × Value)} {st : List Value} {h : aH} {bc bs : Nat}
/-- comparing longs, and the branch behind it -/
theorem lc_r {a b : Int} : r32 (if a < b then -1 else if b < a then 1 else 0) := by
  split
  · omega
  · split <;> omega
theorem lc_eq {a b : Int} : (if a < b then (-1 : Int) else if b < a then 1 else 0) = 0 ↔ a = b := by
  split
  · omega
  · split <;> omega
theorem x_lcmp_eq (p q : Nat) {a b : Int} {off : Int} (hK : CLO CL ac ret Q K) (hf : fr ac pc = some (.lcmp, r1, r2, r3)) (hf2 : fr ac (pc + 1) = some (.ifCond .eq off, r1', r2', r3')) (hp : tg (pc + 1) off = p) (hq : pc + 4 = q) (ha : r64 a) (hb : r64 b) (h1 : a = b → K p ls st h bc bs) (h2 : ¬ (a = b) → K q ls st h bc bs) : K pc ls (.long (J b) :: .long (J a) :: st) h bc bs :=
  x_lcmp (pc + 1) hK hf rfl ha hb (x_if_eq p q hK hf2 hp hq lc_r (fun w => h1 (lc_eq.mp w)) fun w => h2 fun y => w (lc_eq.mpr y))
theorem lc_ne {a b : Int} : (if a < b then (-1 : Int) else if b < a then 1 else 0) ≠ 0 ↔ a ≠ b := by
  split
  · omega
  · split <;> omega
theorem x_lcmp_ne (p q : Nat) {a b : Int} {off : Int} (hK : CLO CL ac ret Q K) (hf : fr ac pc = some (.lcmp, r1, r2, r3)) (hf2 : fr ac (pc + 1) = some (.ifCond .ne off, r1', r2', r3')) (hp : tg (pc + 1) off = p) (hq : pc + 4 = q) (ha : r64 a) (hb : r64 b) (h1 : a ≠ b → K p ls st h bc bs) (h2 : ¬ (a ≠ b) → K q ls st h bc bs) : K pc ls (.long (J b) :: .long (J a) :: st) h bc bs :=
  x_lcmp (pc + 1) hK hf rfl ha hb (x_if_ne p q hK hf2 hp hq lc_r (fun w => h1 (lc_ne.mp w)) fun w => h2 fun y => w (lc_ne.mpr y))
theorem lc_lt {a b : Int} : (if a < b then (-1 : Int) else if b < a then 1 else 0) < 0 ↔ a < b := by
  split
  · omega
  · split <;> omega
theorem x_lcmp_lt (p q : Nat) {a b : Int} {off : Int} (hK : CLO CL ac ret Q K) (hf : fr ac pc = some (.lcmp, r1, r2, r3)) (hf2 : fr ac (pc + 1) = some (.ifCond .lt off, r1', r2', r3')) (hp : tg (pc + 1) off = p) (hq : pc + 4 = q) (ha : r64 a) (hb : r64 b) (h1 : a < b → K p ls st h bc bs) (h2 : ¬ (a < b) → K q ls st h bc bs) : K pc ls (.long (J b) :: .long (J a) :: st) h bc bs :=
  x_lcmp (pc + 1) hK hf rfl ha hb (x_if_lt p q hK hf2 hp hq lc_r (fun w => h1 (lc_lt.mp w)) fun w => h2 fun y => w (lc_lt.mpr y))
theorem lc_gt {a b : Int} : 0 < (if a < b then (-1 : Int) else if b < a then 1 else 0) ↔ b < a := by
  split
  · omega
  · split <;> omega
theorem x_lcmp_gt (p q : Nat) {a b : Int} {off : Int} (hK : CLO CL ac ret Q K) (hf : fr ac pc = some (.lcmp, r1, r2, r3)) (hf2 : fr ac (pc + 1) = some (.ifCond .gt off, r1', r2', r3')) (hp : tg (pc + 1) off = p) (hq : pc + 4 = q) (ha : r64 a) (hb : r64 b) (h1 : b < a → K p ls st h bc bs) (h2 : ¬ (b < a) → K q ls st h bc bs) : K pc ls (.long (J b) :: .long (J a) :: st) h bc bs :=
  x_lcmp (pc + 1) hK hf rfl ha hb (x_if_gt p q hK hf2 hp hq lc_r (fun w => h1 (lc_gt.mp w)) fun w => h2 fun y => w (lc_gt.mpr y))
end LCM

section LKS
variable {ls : List (Nat × Value)} {i j : Nat} {v x : Value}
theorem lk_flt {f : Nat × Value → Bool} : ∀ {ls : List (Nat × Value)} {j : Nat} {x : Value}, lk ls j = some x → f (j, x) = true → lk (ls.filter f) j = some x
  | [], _, _, h, _ => by cases h
  | q :: t, j, x, h, hf => by
    unfold lk at h
    by_cases e : q.1 = j
    · rw [if_pos e] at h
      cases h
      have : f q = true := by rw [← hf, ← e]
      rw [List.filter_cons_of_pos this]
      unfold lk
      rw [if_pos e]
    · rw [if_neg e] at h
      have ih := lk_flt (f := f) h hf
      by_cases hq : f q = true
      · rw [List.filter_cons_of_pos hq]
        unfold lk
        rw [if_neg e]
        exact ih
      · rw [List.filter_cons_of_neg hq]
        exact ih
theorem lk1_s : lk (so1 ls i v) i = some v := if_pos rfl
theorem lk2_s : lk (so2 ls i v) i = some v := if_pos rfl
theorem lk1_n (hl : lk ls j = some x) (h : j ≠ i) (hc : x.category = 1 ∨ j + 1 ≠ i) : lk (so1 ls i v) j = some x := by
  show (if i = j then some v else lk (ls.filter _) j) = some x
  rw [if_neg (fun e => h e.symm)]
  refine lk_flt hl ?_
  rcases hc with hc | hc
  · simp [h, hc]
  · simp [h, hc]
theorem lk2_n (hl : lk ls j = some x) (h : j ≠ i) (h2 : j ≠ i + 1) (hc : x.category = 1 ∨ j + 1 ≠ i) : lk (so2 ls i v) j = some x := by
  show (if i = j then some v else lk (ls.filter _) j) = some x
  rw [if_neg (fun e => h e.symm)]
  refine lk_flt hl ?_
  rcases hc with hc | hc
  · simp [h, h2, hc]
  · simp [h, h2, hc]
end LKS
section JDV
theorem J_inj {a b : Int} (ha : r64 a) (hb : r64 b) : J a = J b ↔ a = b := ⟨fun h => by have := congrArg Int64.toInt h; rwa [J_t ha, J_t hb] at this, fun h => by rw [h]⟩
theorem J_ne0 {b : Int} (hb : r64 b) (h0 : b ≠ 0) : ¬ J b = 0 := by
  rw [show (0 : Int64) = J 0 from rfl, J_inj hb ⟨by omega, by omega⟩]; exact h0
theorem J_divp {a b : Int} (ha : r64 a) (hb : r64 b) (h0 : 0 ≤ a) (h1 : 0 < b) : J a / J b = J (a / b) := by
  apply Int64.toInt.inj
  have h2 : 0 ≤ a / b := Int.ediv_nonneg h0 (by omega)
  have h3 : a / b ≤ a := Int.ediv_le_self _ h0
  have hne : J b ≠ -1 := fun h => by
    have := congrArg Int64.toInt h
    rw [J_t hb] at this
    have e : (-1 : Int64).toInt = -1 := rfl
    rw [e] at this
    omega
  rw [Int64.toInt_div_of_ne_right _ _ hne, J_t ha, J_t hb, J_t ⟨by omega, by omega⟩, Int.tdiv_eq_ediv_of_nonneg h0]
theorem J_remp {a b : Int} (ha : r64 a) (hb : r64 b) (h0 : 0 ≤ a) (h1 : 0 < b) : J a - J a / J b * J b = J (a % b) := by
  rw [J_divp ha hb h0 h1, J_mul, J_sub]
  congr 1
  have := Int.emod_add_mul_ediv a b
  have e : b * (a / b) = a / b * b := Int.mul_comm _ _
  omega
variable {CL : CT} {ac : AC} {ret : Option FieldType} {Q : QT} {K : KT} {r1 r2 : Nat} {r3 : Int} {pc : Nat} {ls : List (Nat × Value)} {st : List Value} {h : aH} {bc bs : Nat}
theorem x_lconstE (p : Nat) (e : Int) {n : Fin 2} (hK : CLO CL ac ret Q K) (hf : fr ac pc = some (.lconst n, r1, r2, r3)) (hp : pc + 1 = p) (he : (((n : Fin 2) : Nat) : Int) = e) (hk : K p ls (.long (J e) :: st) h bc bs) : K pc ls st h bc bs := by
  subst he; exact x_lconst p hK hf hp hk
theorem x_ldivp (p : Nat) {a b : Int} (hK : CLO CL ac ret Q K) (hf : fr ac pc = some (.ldiv, r1, r2, r3)) (hp : pc + 1 = p) (ha : r64 a) (hb : r64 b) (h0 : 0 ≤ a) (h1 : 0 < b) (hk : K p ls (.long (J (a / b)) :: st) h bc bs) : K pc ls (.long (J b) :: .long (J a) :: st) h bc bs := by
  subst hp
  rw [← J_divp ha hb h0 h1] at hk
  exact x_row hK hf ⟨J_ne0 hb (by omega), hk⟩
theorem x_lremp (p : Nat) {a b : Int} (hK : CLO CL ac ret Q K) (hf : fr ac pc = some (.lrem, r1, r2, r3)) (hp : pc + 1 = p) (ha : r64 a) (hb : r64 b) (h0 : 0 ≤ a) (h1 : 0 < b) (hk : K p ls (.long (J (a % b)) :: st) h bc bs) : K pc ls (.long (J b) :: .long (J a) :: st) h bc bs := by
  subst hp
  rw [← J_remp ha hb h0 h1] at hk
  exact x_row hK hf ⟨J_ne0 hb (by omega), hk⟩
/-- whatever it is -/
theorem x_ldivX (p : Nat) {a b : Int} (hK : CLO CL ac ret Q K) (hf : fr ac pc = some (.ldiv, r1, r2, r3)) (hp : pc + 1 = p) (hb : r64 b) (h1 : b ≠ 0) (hk : ∀ e, r64 e → K p ls (.long (J e) :: st) h bc bs) : K pc ls (.long (J b) :: .long (J a) :: st) h bc bs := by
  subst hp
  have := hk (J a / J b).toInt (r_J _)
  rw [t_J] at this
  exact x_row hK hf ⟨J_ne0 hb h1, this⟩
theorem x_lremX (p : Nat) {a b : Int} (hK : CLO CL ac ret Q K) (hf : fr ac pc = some (.lrem, r1, r2, r3)) (hp : pc + 1 = p) (hb : r64 b) (h1 : b ≠ 0) (hk : ∀ e, r64 e → K p ls (.long (J e) :: st) h bc bs) : K pc ls (.long (J b) :: .long (J a) :: st) h bc bs := by
  subst hp
  have := hk (J a - J a / J b * J b).toInt (r_J _)
  rw [t_J] at this
  exact x_row hK hf ⟨J_ne0 hb h1, this⟩
theorem x_lsw {a : Int} {d : Int} {ps : Array (Int × Int)} (hK : CLO CL ac ret Q K) (hf : fr ac pc = some (.lookupswitch d ps, r1, r2, r3)) (ha : r32 a) {l : List (Int × Int)} (hl : ps.toList = l) (hk : K (tg pc (Op.lookupswitch.offset l d a)) ls st h bc bs) : K pc ls (.int (I a) :: st) h bc bs := by
  subst hl
  have e : (I a).toInt = a := I_t ha
  rw [← e] at hk
  exact x_row hK hf hk
theorem x_iandX (p : Nat) {a b : Int} (hK : CLO CL ac ret Q K) (hf : fr ac pc = some (.iand, r1, r2, r3)) (hp : pc + 1 = p) (hk : ∀ c, r32 c → K p ls (.int (I c) :: st) h bc bs) : K pc ls (.int (I b) :: .int (I a) :: st) h bc bs :=
  x_iand p hK hf hp (t_I _).symm (hk _ (r_I _))
theorem x_iorX (p : Nat) {a b : Int} (hK : CLO CL ac ret Q K) (hf : fr ac pc = some (.ior, r1, r2, r3)) (hp : pc + 1 = p) (hk : ∀ c, r32 c → K p ls (.int (I c) :: st) h bc bs) : K pc ls (.int (I b) :: .int (I a) :: st) h bc bs :=
  x_ior p hK hf hp (t_I _).symm (hk _ (r_I _))
theorem x_ixorX (p : Nat) {a b : Int} (hK : CLO CL ac ret Q K) (hf : fr ac pc = some (.ixor, r1, r2, r3)) (hp : pc + 1 = p) (hk : ∀ c, r32 c → K p ls (.int (I c) :: st) h bc bs) : K pc ls (.int (I b) :: .int (I a) :: st) h bc bs :=
  x_ixor p hK hf hp (t_I _).symm (hk _ (r_I _))
theorem x_ishlX (p : Nat) {a b : Int} (hK : CLO CL ac ret Q K) (hf : fr ac pc = some (.ishl, r1, r2, r3)) (hp : pc + 1 = p) (hk : ∀ c, r32 c → K p ls (.int (I c) :: st) h bc bs) : K pc ls (.int (I b) :: .int (I a) :: st) h bc bs :=
  x_ishl p hK hf hp (t_I _).symm (hk _ (r_I _))
theorem x_ishrX (p : Nat) {a b : Int} (hK : CLO CL ac ret Q K) (hf : fr ac pc = some (.ishr, r1, r2, r3)) (hp : pc + 1 = p) (hk : ∀ c, r32 c → K p ls (.int (I c) :: st) h bc bs) : K pc ls (.int (I b) :: .int (I a) :: st) h bc bs :=
  x_ishr p hK hf hp (t_I _).symm (hk _ (r_I _))
theorem FRM_Jn {M : MD} {h0 : aH} {a r k : Nat} {v : Int64} (x y : Nat) (hF : FRM gRL M h0 h) (hr : gRL[a]? = some r) (hm : mIn M 1 r x y = true) (hb : bse r = r) (h1 : x ≤ k) (h2 : k ≤ y) : FRM gRL M h0 (sJ h a k v) := FRM_J hF hr (mHas_n hm hb h1 h2)
end JDV

/-- the number of the step, in the state and in what is put by, is at most b -/
def NB (b : Int) (h : aH) : Prop := (0 ≤ gi h 178 0 ∧ gi h 178 0 ≤ b) ∧ (∀ u : Nat, u < 16 → 0 ≤ gi h 186 (57 * u) ∧ gi h 186 (57 * u) ≤ b) ∧ ∀ u : Nat, u < 3 → 0 ≤ gi h 200 (57 * u) ∧ gi h 200 (57 * u) ≤ b
theorem NB.mono {b c : Int} {h : aH} (hb : b ≤ c) (n : NB b h) : NB c h := ⟨⟨n.1.1, by have := n.1.2; omega⟩, fun u hu => ⟨(n.2.1 u hu).1, by have := (n.2.1 u hu).2; omega⟩, fun u hu => ⟨(n.2.2 u hu).1, by have := (n.2.2 u hu).2; omega⟩⟩
/-- what is elsewhere doesn't matter -/
theorem NB.w {b : Int} {h : aH} {a k : Nat} {e : Int} (n : NB b h) (ha : a ≠ 178 ∧ a ≠ 186 ∧ a ≠ 200) : NB b (wI h a k e) := by
  refine ⟨?_, fun u hu => ?_, fun u hu => ?_⟩
  · rw [gi_a (fun q => ha.1 q.symm)]; exact n.1
  · rw [gi_a (fun q => ha.2.1 q.symm)]; exact n.2.1 u hu
  · rw [gi_a (fun q => ha.2.2 q.symm)]; exact n.2.2 u hu
/-- what is said of the rows that are put by (69, 83) is what is said of the state (61), row by row -/
def rowsOf (n r : Nat) : Bool := (eG gE r).all fun q => Nat.beq q.1 q.2.1 && (List.range n).any fun u => (eG gE 61).any fun s => Nat.beq s.1 s.2.1 && Nat.beq q.1 (57 * u + s.1) && decide (q.2.2 = s.2.2)
def rowsIn (n r : Nat) : Bool := (eG gE 61).all fun s => Nat.beq s.1 s.2.1 && Nat.blt s.1 57 && (List.range n).all fun u => decide ((57 * u + s.1, 57 * u + s.1, s.2.2) ∈ eG gE r)
theorem rowsOf_ok {n r : Nat} (h : rowsOf n r = true) {q : Nat × Nat × Int × Int} (hq : q ∈ eG gE r) : q.1 = q.2.1 ∧ ∃ u, u < n ∧ ∃ s ∈ eG gE 61, q.1 = 57 * u + s.1 ∧ q.2.2 = s.2.2 ∧ s.1 = s.2.1 := by
  have z := List.all_eq_true.mp h q hq
  rw [Bool.and_eq_true] at z
  obtain ⟨u, hu, z2⟩ := List.any_eq_true.mp z.2
  obtain ⟨s, hs, z3⟩ := List.any_eq_true.mp z2
  simp only [Bool.and_eq_true, Nat.beq_eq, decide_eq_true_eq] at z3
  exact ⟨Nat.beq_eq.mp z.1, u, List.mem_range.mp hu, s, hs, z3.1.2, z3.2, z3.1.1⟩
theorem rowsIn_ok {n r : Nat} (h : rowsIn n r = true) {s : Nat × Nat × Int × Int} (hs : s ∈ eG gE 61) : s.1 = s.2.1 ∧ s.1 < 57 ∧ ∀ u, u < n → (57 * u + s.1, 57 * u + s.1, s.2.2) ∈ eG gE r := by
  have z := List.all_eq_true.mp h s hs
  simp only [Bool.and_eq_true, Nat.beq_eq] at z
  refine ⟨z.1.1, bt z.1.2, fun u hu => ?_⟩
  have := List.all_eq_true.mp z.2 u (List.mem_range.mpr hu)
  exact of_decide_eq_true this
theorem ro69 : rowsOf 16 69 = true := by decide +kernel
theorem ri69 : rowsIn 16 69 = true := by decide +kernel
theorem ro83 : rowsOf 3 83 = true := by decide +kernel
theorem ri83 : rowsIn 3 83 = true := by decide +kernel
theorem e6162 : eG gE 62 = eG gE 61 := rfl
section CPY
variable {sh : List (Nat × Nat)} {h : aH}
/-- a place of the state is copied into a row -/
theorem cp_in {r a n : Nat} (hro : rowsOf n r = true) (hr : gRL[a]? = some r) (hG : GD gE gRL sh h) (u k : Nat) (hu : u < n) (hk : k < 57) : GD gE gRL sh (wI h a (57 * u + k) (gi h 178 k)) := by
  refine GD_w hG hr (gi_r _ _ _) fun q hq h1 h2 => ?_
  obtain ⟨e1, v, hv, s, hs, e2, e3, e4⟩ := rowsOf_ok hro hq
  obtain ⟨-, s57, -⟩ := rowsIn_ok ri69 hs
  have : k = s.1 := by omega
  rw [e3, this]
  exact hG.2.2.1 178 61 rfl s hs s.1 (Nat.le_refl _) (by omega)
/-- and back -/
theorem cp_out {r a n : Nat} (hri : rowsIn n r = true) (hr : gRL[a]? = some r) (hG : GD gE gRL sh h) (u k : Nat) (hu : u < n) (hk : k < 57) : GD gE gRL sh (wI h 178 k (gi h a (57 * u + k))) := by
  refine GD_w hG (r := 61) rfl (gi_r _ _ _) fun s hs h1 h2 => ?_
  obtain ⟨e1, s57, hin⟩ := rowsIn_ok hri hs
  have : k = s.1 := by omega
  rw [this]
  exact hG.2.2.1 a r hr _ (hin u hu) (57 * u + s.1) (Nat.le_refl _) (Nat.le_refl _)
theorem cp_then (hG : GD gE gRL sh h) (k : Nat) (hk : k < 57) : GD gE gRL sh (wI h 179 k (gi h 178 k)) := by
  refine GD_w hG (r := 62) rfl (gi_r _ _ _) fun s hs h1 h2 => ?_
  rw [e6162] at hs
  exact hG.2.2.1 178 61 rfl s hs k h1 h2
theorem cp_sh (hG : GD gE gRL sh h) (k : Nat) (hk : k < 855) : GD gE gRL sh (wI h 186 k (gi h 186 (k + 57))) := by
  refine GD_w hG (r := 69) rfl (gi_r _ _ _) fun q hq h1 h2 => ?_
  obtain ⟨e1, v, hv, s, hs, e2, e3, e4⟩ := rowsOf_ok ro69 hq
  obtain ⟨-, s57, hin⟩ := rowsIn_ok ri69 hs
  have z := hG.2.2.1 186 69 rfl _ (hin (v + 1) (by omega)) (k + 57) (by show 57 * (v + 1) + s.1 ≤ _; omega) (by show _ ≤ 57 * (v + 1) + s.1; omega)
  rw [e3]
  exact z
end CPY
theorem ctX11_puts {SP : CT} (hSP : MONO SP) {sh : List (Nat × Nat)} {h : aH} (hG : GD gE gRL sh h) : CLd SP 2 mX11_puts [.ref 171] h 0 0 (fun rv h' => rv = none ∧ GD gE gRL sh h' ∧ FRM gRL [(0, 62, 0, 56)] h h') := by
  refine x_met _ rfl (Nat.le_of_ble_eq_true rfl) (fun K hK => ?_)
  have hmono := MONO_CLd hSP 1
  have loop : ∀ (m : Nat) (k : Int) (h1 : aH), ((57 - k).toNat = m) → 0 ≤ k → k ≤ 57 → GD gE gRL sh h1 → FRM gRL [(0, 62, 0, 56)] h h1 → K 2 [(1, .int (I k)), (0, .ref 171)] [] h1 0 0 := by
    intro m
    induction m using Nat.strongRecOn with
    | ind m ih =>
    intro k h1 hm h0 hk hG1 hF
    refine x_iload_n 3 hK rfl rfl rfl ?_
    refine x_bipush 5 hK rfl rfl rfl ?_
    refine x_if_icmp_ge 26 8 hK rfl rfl rfl (by omega) (by omega) (fun c3 => ?_) (fun c3 => ?_)
    · exact x_vret hK rfl ⟨rfl, hG1, hF⟩
    · refine x_aload_n 9 hK rfl rfl rfl ?_
      refine x_getR 12 hK rfl rfl (sp_171 (h := h1) hG1) (rf_171_15 (h := h1) hG1) ?_
      refine x_iload_n 13 hK rfl rfl rfl ?_
      refine x_aload_n 14 hK rfl rfl rfl ?_
      refine x_getR 17 hK rfl rfl (sp_171 (h := h1) hG1) (rf_171_14 (h := h1) hG1) ?_
      refine x_iload_n 18 hK rfl rfl rfl ?_
      refine x_ialoadE 19 hK rfl rfl (sp_178 (h := h1) hG1) (by omega) (by omega) (by omega) (e' := (gi h1 178 k.toNat)) (rfl) ?_
      refine x_iastore 20 hK rfl rfl (sp_179 (h := h1) hG1) (by omega) (by omega) (by omega) ?_
      refine x_iinc 23 hK rfl rfl rfl [(1, .int (I (k + 1))), (0, .ref 171)] rfl ?_
      refine x_goto 2 hK rfl rfl ?_
      exact ih _ (by omega) (k + 1) _ rfl (by omega) (by omega) (cp_then hG1 k.toNat (by omega)) (FRM_wn 0 56 hF (r := 62) rfl rfl rfl (by omega) (by omega))
  refine x_iconst 1 hK rfl rfl ?_
  refine x_istore_n 2 hK rfl rfl [(1, .int (I 0)), (0, .ref 171)] rfl ?_
  exact loop _ 0 h rfl (by omega) (by omega) hG FRM.rf
/-! small ones -/
theorem ctX11_in {SP : CT} {h : aH} {a b c : Int} (ha : r64 a) (hb : r64 b) (hc : r64 c) : CLd SP 1 mX11_in [.long (J a), .long (J b), .long (J c)] h 0 0 (fun rv h' => h' = h ∧ ((rv = some (.int (I 1)) ∧ b ≤ a ∧ a ≤ c) ∨ (rv = some (.int (I 0)) ∧ ¬ (b ≤ a ∧ a ≤ c)))) := by
  refine x_met _ rfl (Nat.le_of_ble_eq_true rfl) (fun K hK => ?_)
  refine x_lload_n 1 hK rfl rfl rfl ?_
  refine x_lload_n 2 hK rfl rfl rfl ?_
  refine x_lcmp_lt 17 6 hK rfl rfl rfl rfl (by omega) (by omega) (fun c3 => ?_) (fun c3 => ?_)
  · refine x_iconst 18 hK rfl rfl ?_
    exact x_zret hK rfl (by omega) ⟨rfl, Or.inr ⟨rfl, by omega⟩⟩
  · refine x_lload_n 7 hK rfl rfl rfl ?_
    refine x_lload 9 hK rfl rfl rfl ?_
    refine x_lcmp_gt 17 13 hK rfl rfl rfl rfl (by omega) (by omega) (fun c8 => ?_) (fun c8 => ?_)
    · refine x_iconst 18 hK rfl rfl ?_
      exact x_zret hK rfl (by omega) ⟨rfl, Or.inr ⟨rfl, by omega⟩⟩
    · refine x_iconst 14 hK rfl rfl ?_
      refine x_goto 18 hK rfl rfl ?_
      exact x_zret hK rfl (by omega) ⟨rfl, Or.inl ⟨rfl, by omega, by omega⟩⟩
theorem ctX11_flag {SP : CT} {h : aH} {a : Int} (ha : a = 0 ∨ a = 1) : CLd SP 1 mX11_flag [.int (I a)] h 0 0 (fun rv h' => h' = h ∧ rv = some (.int (I a))) := by
  refine x_met _ rfl (Nat.le_of_ble_eq_true rfl) (fun K hK => ?_)
  refine x_iload_n 1 hK rfl rfl rfl ?_
  refine x_if_eq 8 4 hK rfl rfl rfl (by omega) (fun c2 => ?_) (fun c2 => ?_)
  · refine x_iconst 9 hK rfl rfl ?_
    exact x_iret hK rfl ⟨rfl, by rw [show a = 0 by omega]⟩
  · refine x_iconst 5 hK rfl rfl ?_
    refine x_goto 9 hK rfl rfl ?_
    exact x_iret hK rfl ⟨rfl, by rw [show a = 1 by omega]⟩
