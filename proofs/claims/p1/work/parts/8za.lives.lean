/-! LIVES, THE SAFEST LANE, COMES -/
def sumF (f : Nat → Int) (a : Int) : Nat → Int
  | 0 => 0
  | n + 1 => sumF f a n + f (a + n).toNat
theorem sumF_s {f : Nat → Int} {a i : Int} (h : a ≤ i) : sumF f a (i + 1 - a).toNat = sumF f a (i - a).toNat + f i.toNat := by
  rw [show (i + 1 - a).toNat = (i - a).toNat + 1 by omega]
  show sumF f a (i - a).toNat + f (a + ((i - a).toNat : Int)).toNat = _
  rw [show a + ((i - a).toNat : Int) = i by omega]
theorem sumF_b {f : Nat → Int} {a m B : Int} (h0 : 0 ≤ a) (hB : 0 ≤ B) (hf : ∀ j : Nat, (j : Int) < m → 0 ≤ f j ∧ f j ≤ B) : ∀ n : Nat, a + n ≤ m → 0 ≤ sumF f a n ∧ sumF f a n ≤ B * n
  | 0, _ => ⟨Int.le_refl _, by show (0 : Int) ≤ B * 0; omega⟩
  | n + 1, h => by
    have ih := sumF_b h0 hB hf n (by omega)
    have z := hf (a + n).toNat (by omega)
    show 0 ≤ sumF f a n + f (a + n).toNat ∧ sumF f a n + f (a + n).toNat ≤ B * ((n + 1 : Nat) : Int)
    rw [show ((n + 1 : Nat) : Int) = (n : Int) + 1 from rfl, Int.mul_add, Int.mul_one]
    omega
/-- how long MESSES a .. b live by what they have in all -/
def luF (fd ea : Nat → Int) (a b : Int) : Int := if sumF ea a (b + 1 - a).toNat = 0 then 99999 else sumF fd a (b + 1 - a).toNat / sumF ea a (b + 1 - a).toNat
theorem luF_b {fd ea : Nat → Int} {a b m : Int} (h0 : 0 ≤ a) (hb : b < m) (h8 : m ≤ 8) (hf : ∀ j : Nat, (j : Int) < m → 0 ≤ fd j ∧ fd j ≤ 99) (he : ∀ j : Nat, (j : Int) < m → 0 ≤ ea j ∧ ea j ≤ 9) (hab : a ≤ b + 1) : 0 ≤ luF fd ea a b ∧ luF fd ea a b ≤ 99999 := by
  have x := sumF_b (f := fd) (B := 99) h0 (by omega) hf (b + 1 - a).toNat (by omega)
  have y := sumF_b (f := ea) (B := 9) h0 (by omega) he (b + 1 - a).toNat (by omega)
  unfold luF
  split
  · omega
  · have p : 0 < sumF ea a (b + 1 - a).toNat := by omega
    have q1 := Int.ediv_nonneg x.1 y.1
    have q2 := Int.ediv_le_self (sumF ea a (b + 1 - a).toNat) x.1
    omega
def lvT (fd ea : Nat → Int) (how ms i : Int) : Int := luF fd ea (if how = 0 ∨ how = 2 then i else 0) (if how = 0 ∨ how = 1 then i else ms - 1)
def lvF (fd ea : Nat → Int) (how ms : Int) : Nat → Int × Int
  | 0 => (99999, -1)
  | i + 1 => if lvT fd ea how ms i < (lvF fd ea how ms i).1 then (lvT fd ea how ms i, i) else lvF fd ea how ms i
theorem lvF_s {fd ea : Nat → Int} {how ms i : Int} (h : 0 ≤ i) : lvF fd ea how ms (i + 1).toNat = if lvT fd ea how ms i < (lvF fd ea how ms i.toNat).1 then (lvT fd ea how ms i, i) else lvF fd ea how ms i.toNat := by
  rw [tn_s h]
  show (if lvT fd ea how ms (i.toNat : Int) < _ then (lvT fd ea how ms (i.toNat : Int), (i.toNat : Int)) else _) = _
  rw [show ((i.toNat : Nat) : Int) = i by omega]
theorem lv_3 {fd ea : Nat → Int} {ms : Int} (hb : luF fd ea 0 (ms - 1) ≤ 99999) : ∀ n : Nat, lvF fd ea 3 ms (n + 1) = if luF fd ea 0 (ms - 1) < 99999 then (luF fd ea 0 (ms - 1), 0) else (99999, -1)
  | 0 => by
    show (if lvT fd ea 3 ms 0 < 99999 then (lvT fd ea 3 ms 0, ((0 : Nat) : Int)) else (99999, -1)) = _
    rfl
  | n + 1 => by
    show (if lvT fd ea 3 ms ((n + 1 : Nat) : Int) < (lvF fd ea 3 ms (n + 1)).1 then _ else lvF fd ea 3 ms (n + 1)) = _
    rw [lv_3 hb n]
    have e : lvT fd ea 3 ms ((n + 1 : Nat) : Int) = luF fd ea 0 (ms - 1) := rfl
    rw [e]
    by_cases c : luF fd ea 0 (ms - 1) < 99999
    · rw [if_pos c, if_neg (by show ¬ luF fd ea 0 (ms - 1) < luF fd ea 0 (ms - 1); omega)]
    · rw [if_neg c, if_neg (by show ¬ luF fd ea 0 (ms - 1) < 99999; omega)]
/-- ROCKS in a LANE in n STEPS, of the first i -/
def rkN (ml ln : Nat → Int) (now n l : Int) : Nat → Int
  | 0 => 0
  | i + 1 => rkN ml ln now n l i + if ln i = l ∧ 1 ≤ ml i - now ∧ ml i - now ≤ n then 1 else 0
theorem rkN_s {ml ln : Nat → Int} {now n l i : Int} (h : 0 ≤ i) : rkN ml ln now n l (i + 1).toNat = rkN ml ln now n l i.toNat + if ln i.toNat = l ∧ 1 ≤ ml i.toNat - now ∧ ml i.toNat - now ≤ n then 1 else 0 := by rw [tn_s h]; rfl
theorem rkN_b (ml ln : Nat → Int) (now n l : Int) : ∀ i : Nat, 0 ≤ rkN ml ln now n l i ∧ rkN ml ln now n l i ≤ i
  | 0 => ⟨Int.le_refl _, Int.le_refl _⟩
  | i + 1 => by
    have := rkN_b ml ln now n l i
    show 0 ≤ rkN ml ln now n l i + (if ln i = l ∧ 1 ≤ ml i - now ∧ ml i - now ≤ n then 1 else 0) ∧ rkN ml ln now n l i + (if ln i = l ∧ 1 ≤ ml i - now ∧ ml i - now ≤ n then 1 else 0) ≤ ((i + 1 : Nat) : Int)
    split <;> omega
theorem rkN_c {ml ln ml' ln' : Nat → Int} {now n l : Int} : ∀ i : Nat, (∀ j, j < i → ml' j = ml j ∧ ln' j = ln j) → rkN ml' ln' now n l i = rkN ml ln now n l i
  | 0, _ => rfl
  | i + 1, h => by
    show rkN ml' ln' now n l i + (if ln' i = l ∧ 1 ≤ ml' i - now ∧ ml' i - now ≤ n then 1 else 0) = rkN ml ln now n l i + (if ln i = l ∧ 1 ≤ ml i - now ∧ ml i - now ≤ n then 1 else 0)
    rw [rkN_c i fun j hj => h j (by omega), (h i (by omega)).1, (h i (by omega)).2]
def apt (lane l : Int) : Int := if 0 ≤ l - lane then l - lane else -(l - lane)
/-- b is the best of those for which S holds -/
def BST (c : Int → Int) (lane : Int) (S : Int → Prop) (b : Int) : Prop := ∀ l : Int, S l → c b < c l ∨ (c b = c l ∧ (apt lane b < apt lane l ∨ (apt lane b = apt lane l ∧ b ≤ l)))
theorem BST_u {c : Int → Int} {lane b b' : Int} {S : Int → Prop} (hb : S b) (hb' : S b') (h : BST c lane S b) (h' : BST c lane S b') : b = b' := by
  have z := h b' hb'
  have y := h' b hb
  omega
theorem cm_b {S n d : Int} (hS : 2 ≤ S ∧ S ≤ 40) (hn : 0 ≤ n ∧ n ≤ 12) (hd : 1 ≤ d ∧ d ≤ 12) : 0 ≤ (S - 1) * n ∧ (S - 1) * n ≤ 468 ∧ 0 ≤ ((S - 1) * n) / d ∧ ((S - 1) * n) / d ≤ 468 ∧ min (S - 1) (((S - 1) * n) / d) = if d ≤ n then S - 1 else ((S - 1) * n) / d := by
  have p0 : 0 ≤ (S - 1) * n := Int.mul_nonneg (by omega) (by omega)
  have p1 : (S - 1) * n ≤ 39 * 12 := Int.mul_le_mul (by omega) (by omega) (by omega) (by omega)
  have q0 := Int.ediv_nonneg p0 (show 0 ≤ d by omega)
  have q1 := Int.ediv_le_self d p0
  refine ⟨p0, by omega, q0, by omega, ?_⟩
  by_cases c : d ≤ n
  · rw [if_pos c]
    have h1 : (S - 1) * d ≤ (S - 1) * n := Int.mul_le_mul_of_nonneg_left c (by omega)
    have h2 := (Int.le_ediv_iff_mul_le (show 0 < d by omega)).mpr h1
    omega
  · rw [if_neg c]
    have h1 : (S - 1) * n ≤ (S - 1) * d := Int.mul_le_mul_of_nonneg_left (by omega) (by omega)
    have h2 := Int.ediv_le_of_le_mul (show 0 < d by omega) h1
    omega
set_option maxRecDepth 4000 in
theorem ctX10_lastsForF {SP : CT} (hSP : MONO SP) {sh : List (Nat × Nat)} {h : aH} (hG : GD gE gRL sh h) {fd ea : Nat → Int} (hf : ∀ j : Nat, (j : Int) < gi h 0 9 → gi h 26 j = fd j ∧ 0 ≤ fd j ∧ fd j ≤ 99) (he : ∀ j : Nat, (j : Int) < gi h 0 9 → gi h 22 j = ea j ∧ 0 ≤ ea j ∧ ea j ≤ 9) {a z : Int} (ha : 0 ≤ a) (haz : a ≤ z + 1) (hz : z < (gi h 0 9)) : CLd SP 1 mX10_lastsFor [.ref 0, .int (I a), .int (I z)] h 0 0 (fun rv h' => h' = h ∧ rv = some (.int (I (luF fd ea a z)))) := by
  refine x_met _ rfl (Nat.le_of_ble_eq_true rfl) (fun K hK => ?_)
  have hmono := MONO_CLd hSP 0
  have g9 := gri 0 8 hG (a := 0) (r := 0) (k := 9) rfl rfl
  have loop : ∀ (mz : Nat) (s t i : Int) (ls : List (Nat × Value)), ((z + 1 - i).toNat = mz) → (a ≤ i ∧ i ≤ z + 1) → (s = sumF fd a (i - a).toNat) → (t = sumF ea a (i - a).toNat) → lk ls 0 = some (.ref 0) → lk ls 1 = some (.int (I a)) → lk ls 2 = some (.int (I z)) → lk ls 3 = some (.int (I s)) → lk ls 4 = some (.int (I t)) → lk ls 5 = some (.int (I i)) → K 8 ls [] h 0 0 := by
    intro mz
    induction mz using Nat.strongRecOn with
    | ind mz ih =>
    intro s t i ls hm i0 s0 t0 l0 l1 l2 l3 l4 l5
    have sb := sumF_b (f := fd) (B := 99) ha (by omega) (fun j hj => (hf j hj).2) (i - a).toNat (by omega)
    have tb := sumF_b (f := ea) (B := 9) ha (by omega) (fun j hj => (he j hj).2) (i - a).toNat (by omega)
    have fi := fun y : i ≤ z => hf i.toNat (by omega)
    have ei := fun y : i ≤ z => he i.toNat (by omega)
    refine x_iload 10 hK rfl rfl l5 ?_
    refine x_iload_n 11 hK rfl rfl l2 ?_
    refine x_if_icmp_gt 45 14 hK rfl rfl rfl (by omega) (by omega) (fun c3 => ?_) (fun c3 => ?_)
    · refine x_iload 47 hK rfl rfl l4 ?_
      refine x_if_ne 56 50 hK rfl rfl rfl (by omega) (fun c5 => ?_) (fun c5 => ?_)
      · refine x_iload_n 57 hK rfl rfl l3 ?_
        refine x_iload 59 hK rfl rfl l4 ?_
        refine x_idivp 60 hK rfl rfl (by omega) (by omega) (by omega) (by omega) ?_
        have ew : luF fd ea a z = (s / t) := by
          unfold luF
          rw [show (z + 1 - a).toNat = (i - a).toNat by omega, ← s0, ← t0]
          rw [if_neg (by omega)]
        exact x_iret hK rfl ⟨rfl, by rw [ew]⟩
      · refine x_ldc_w 53 hK rfl rfl ?_
        refine x_goto 60 hK rfl rfl ?_
        have ew : luF fd ea a z = 99999 := by
          unfold luF
          rw [show (z + 1 - a).toNat = (i - a).toNat by omega, ← s0, ← t0]
          rw [if_pos (by omega)]
        exact x_iret hK rfl ⟨rfl, by rw [ew]⟩
    · have fi2 := fi (by omega)
      have ei2 := ei (by omega)
      refine x_iload_n 15 hK rfl rfl l3 ?_
      refine x_aload_n 16 hK rfl rfl l0 ?_
      refine x_getR 19 hK rfl rfl (sp_0 (h := h) hG) (rf_0_10 (h := h) hG) ?_
      refine x_getR 22 hK rfl rfl (sp_23 (h := h) hG) (rf_23_7 (h := h) hG) ?_
      refine x_iload 24 hK rfl rfl l5 ?_
      refine x_ialoadE 25 hK rfl rfl (sp_26 (h := h) hG) (by omega) (by omega) (by omega) (e' := (fd i.toNat)) ((fi (by omega)).1) ?_
      refine x_iadd 26 hK rfl rfl ?_
      refine x_istore_n 27 hK rfl rfl _ rfl ?_
      refine x_iload 29 hK rfl rfl (lk1_n l4 (by decide) (Or.inl rfl)) ?_
      refine x_aload_n 30 hK rfl rfl (lk1_n l0 (by decide) (Or.inl rfl)) ?_
      refine x_getR 33 hK rfl rfl (sp_0 (h := h) hG) (rf_0_8 (h := h) hG) ?_
      refine x_iload 35 hK rfl rfl (lk1_n l5 (by decide) (Or.inl rfl)) ?_
      refine x_ialoadE 36 hK rfl rfl (sp_22 (h := h) hG) (by omega) (by omega) (by omega) (e' := (ea i.toNat)) ((ei (by omega)).1) ?_
      refine x_iadd 37 hK rfl rfl ?_
      refine x_istore 39 hK rfl rfl _ rfl ?_
      refine x_iinc 42 hK rfl rfl (lk1_n (lk1_n l5 (by decide) (Or.inl rfl)) (by decide) (Or.inl rfl)) _ rfl ?_
      refine x_goto 8 hK rfl rfl ?_
      exact ih _ (by omega) (s + (fd i.toNat)) (t + (ea i.toNat)) (i + 1) _ rfl (by omega) (by rw [s0, sumF_s i0.1]) (by rw [t0, sumF_s i0.1]) (lk1_n (lk1_n (lk1_n l0 (by decide) (Or.inl rfl)) (by decide) (Or.inl rfl)) (by decide) (Or.inl rfl)) (lk1_n (lk1_n (lk1_n l1 (by decide) (Or.inl rfl)) (by decide) (Or.inl rfl)) (by decide) (Or.inl rfl)) (lk1_n (lk1_n (lk1_n l2 (by decide) (Or.inl rfl)) (by decide) (Or.inl rfl)) (by decide) (Or.inl rfl)) (lk1_n (lk1_n lk1_s (by decide) (Or.inl rfl)) (by decide) (Or.inl rfl)) (lk1_n lk1_s (by decide) (Or.inl rfl)) lk1_s
  refine x_iconst 1 hK rfl rfl ?_
  refine x_istore_n 2 hK rfl rfl [(3, .int (I 0)), (0, .ref 0), (1, .int (I a)), (2, .int (I z))] rfl ?_
  refine x_iconst 3 hK rfl rfl ?_
  refine x_istore 5 hK rfl rfl [(4, .int (I 0)), (3, .int (I 0)), (0, .ref 0), (1, .int (I a)), (2, .int (I z))] rfl ?_
  refine x_iload_n 6 hK rfl rfl rfl ?_
  refine x_istore 8 hK rfl rfl [(5, .int (I a)), (4, .int (I 0)), (3, .int (I 0)), (0, .ref 0), (1, .int (I a)), (2, .int (I z))] rfl ?_
  exact loop _ 0 0 a _ rfl (by omega) (by rw [show a - a = 0 by omega]; rfl) (by rw [show a - a = 0 by omega]; rfl) rfl rfl rfl rfl rfl rfl
set_option maxRecDepth 4000 in
theorem ctX11_lastsForF {SP : CT} (hSP : MONO SP) {sh : List (Nat × Nat)} {h : aH} (hG : GD gE gRL sh h) {fd ea : Nat → Int} (hf : ∀ j : Nat, (j : Int) < gi h 171 7 → gi h 178 (41 + j) = fd j ∧ 0 ≤ fd j ∧ fd j ≤ 99) (he : ∀ j : Nat, (j : Int) < gi h 171 7 → gi h 177 j = ea j ∧ 0 ≤ ea j ∧ ea j ≤ 9) {a z : Int} (ha : 0 ≤ a) (haz : a ≤ z + 1) (hz : z < (gi h 171 7)) : CLd SP 1 mX11_lastsFor [.ref 171, .int (I a), .int (I z)] h 0 0 (fun rv h' => h' = h ∧ rv = some (.int (I (luF fd ea a z)))) := by
  refine x_met _ rfl (Nat.le_of_ble_eq_true rfl) (fun K hK => ?_)
  have hmono := MONO_CLd hSP 0
  have g9 := gri 0 8 hG (a := 171) (r := 54) (k := 7) rfl rfl
  have loop : ∀ (mz : Nat) (s t i : Int) (ls : List (Nat × Value)), ((z + 1 - i).toNat = mz) → (a ≤ i ∧ i ≤ z + 1) → (s = sumF fd a (i - a).toNat) → (t = sumF ea a (i - a).toNat) → lk ls 0 = some (.ref 171) → lk ls 1 = some (.int (I a)) → lk ls 2 = some (.int (I z)) → lk ls 3 = some (.int (I s)) → lk ls 4 = some (.int (I t)) → lk ls 5 = some (.int (I i)) → K 8 ls [] h 0 0 := by
    intro mz
    induction mz using Nat.strongRecOn with
    | ind mz ih =>
    intro s t i ls hm i0 s0 t0 l0 l1 l2 l3 l4 l5
    have sb := sumF_b (f := fd) (B := 99) ha (by omega) (fun j hj => (hf j hj).2) (i - a).toNat (by omega)
    have tb := sumF_b (f := ea) (B := 9) ha (by omega) (fun j hj => (he j hj).2) (i - a).toNat (by omega)
    have fi := fun y : i ≤ z => hf i.toNat (by omega)
    have ei := fun y : i ≤ z => he i.toNat (by omega)
    refine x_iload 10 hK rfl rfl l5 ?_
    refine x_iload_n 11 hK rfl rfl l2 ?_
    refine x_if_icmp_gt 45 14 hK rfl rfl rfl (by omega) (by omega) (fun c3 => ?_) (fun c3 => ?_)
    · refine x_iload 47 hK rfl rfl l4 ?_
      refine x_if_ne 56 50 hK rfl rfl rfl (by omega) (fun c5 => ?_) (fun c5 => ?_)
      · refine x_iload_n 57 hK rfl rfl l3 ?_
        refine x_iload 59 hK rfl rfl l4 ?_
        refine x_idivp 60 hK rfl rfl (by omega) (by omega) (by omega) (by omega) ?_
        have ew : luF fd ea a z = (s / t) := by
          unfold luF
          rw [show (z + 1 - a).toNat = (i - a).toNat by omega, ← s0, ← t0]
          rw [if_neg (by omega)]
        exact x_iret hK rfl ⟨rfl, by rw [ew]⟩
      · refine x_ldc_w 53 hK rfl rfl ?_
        refine x_goto 60 hK rfl rfl ?_
        have ew : luF fd ea a z = 99999 := by
          unfold luF
          rw [show (z + 1 - a).toNat = (i - a).toNat by omega, ← s0, ← t0]
          rw [if_pos (by omega)]
        exact x_iret hK rfl ⟨rfl, by rw [ew]⟩
    · have fi2 := fi (by omega)
      have ei2 := ei (by omega)
      refine x_iload_n 15 hK rfl rfl l3 ?_
      refine x_aload_n 16 hK rfl rfl l0 ?_
      refine x_getR 19 hK rfl rfl (sp_171 (h := h) hG) (rf_171_14 (h := h) hG) ?_
      refine x_bipush 21 hK rfl rfl rfl ?_
      refine x_iload 23 hK rfl rfl l5 ?_
      refine x_iadd 24 hK rfl rfl ?_
      refine x_ialoadE 25 hK rfl rfl (sp_178 (h := h) hG) (by omega) (by omega) (by omega) (e' := (fd i.toNat)) ((gi_to (show (41 + i).toNat = 41 + i.toNat by omega)).trans (fi (by omega)).1) ?_
      refine x_iadd 26 hK rfl rfl ?_
      refine x_istore_n 27 hK rfl rfl _ rfl ?_
      refine x_iload 29 hK rfl rfl (lk1_n l4 (by decide) (Or.inl rfl)) ?_
      refine x_aload_n 30 hK rfl rfl (lk1_n l0 (by decide) (Or.inl rfl)) ?_
      refine x_getR 33 hK rfl rfl (sp_171 (h := h) hG) (rf_171_13 (h := h) hG) ?_
      refine x_iload 35 hK rfl rfl (lk1_n l5 (by decide) (Or.inl rfl)) ?_
      refine x_ialoadE 36 hK rfl rfl (sp_177 (h := h) hG) (by omega) (by omega) (by omega) (e' := (ea i.toNat)) ((ei (by omega)).1) ?_
      refine x_iadd 37 hK rfl rfl ?_
      refine x_istore 39 hK rfl rfl _ rfl ?_
      refine x_iinc 42 hK rfl rfl (lk1_n (lk1_n l5 (by decide) (Or.inl rfl)) (by decide) (Or.inl rfl)) _ rfl ?_
      refine x_goto 8 hK rfl rfl ?_
      exact ih _ (by omega) (s + (fd i.toNat)) (t + (ea i.toNat)) (i + 1) _ rfl (by omega) (by rw [s0, sumF_s i0.1]) (by rw [t0, sumF_s i0.1]) (lk1_n (lk1_n (lk1_n l0 (by decide) (Or.inl rfl)) (by decide) (Or.inl rfl)) (by decide) (Or.inl rfl)) (lk1_n (lk1_n (lk1_n l1 (by decide) (Or.inl rfl)) (by decide) (Or.inl rfl)) (by decide) (Or.inl rfl)) (lk1_n (lk1_n (lk1_n l2 (by decide) (Or.inl rfl)) (by decide) (Or.inl rfl)) (by decide) (Or.inl rfl)) (lk1_n (lk1_n lk1_s (by decide) (Or.inl rfl)) (by decide) (Or.inl rfl)) (lk1_n lk1_s (by decide) (Or.inl rfl)) lk1_s
  refine x_iconst 1 hK rfl rfl ?_
  refine x_istore_n 2 hK rfl rfl [(3, .int (I 0)), (0, .ref 171), (1, .int (I a)), (2, .int (I z))] rfl ?_
  refine x_iconst 3 hK rfl rfl ?_
  refine x_istore 5 hK rfl rfl [(4, .int (I 0)), (3, .int (I 0)), (0, .ref 171), (1, .int (I a)), (2, .int (I z))] rfl ?_
  refine x_iload_n 6 hK rfl rfl rfl ?_
  refine x_istore 8 hK rfl rfl [(5, .int (I a)), (4, .int (I 0)), (3, .int (I 0)), (0, .ref 171), (1, .int (I a)), (2, .int (I z))] rfl ?_
  exact loop _ 0 0 a _ rfl (by omega) (by rw [show a - a = 0 by omega]; rfl) (by rw [show a - a = 0 by omega]; rfl) rfl rfl rfl rfl rfl rfl
set_option maxRecDepth 4000 in
theorem ctX10_livesF {SP : CT} (hSP : MONO SP) {sh : List (Nat × Nat)} {h : aH} (hG : GD gE gRL sh h) {fd ea : Nat → Int} (hf : ∀ j : Nat, (j : Int) < gi h 0 9 → gi h 26 j = fd j ∧ 0 ≤ fd j ∧ fd j ≤ 99) (he : ∀ j : Nat, (j : Int) < gi h 0 9 → gi h 22 j = ea j ∧ 0 ≤ ea j ∧ ea j ≤ 9) {n : Int} (rn : r32 n) : CLd SP 3 mX10_lives [.ref 0, .int (I n)] h 0 0 (fun rv h' => ((¬ ((0 ≤ n ∧ n ≤ 3) ∧ gi h 0 9 ≠ 0) ∧ rv = some (.int (I (-1))) ∧ h' = h) ∨ (((0 ≤ n ∧ n ≤ 3) ∧ gi h 0 9 ≠ 0) ∧ rv = some (.int (I (lvF fd ea n (gi h 0 9) (gi h 0 9).toNat).1)) ∧ gi h' 3 1 = 1 ∧ crow h' = [(lvF fd ea n (gi h 0 9) (gi h 0 9).toNat).2])) ∧ GD gE gRL sh h' ∧ FRM gRL [(0, 3, 1, 1), (1, 4, 0, 29)] h h') := by
  refine x_met _ rfl (Nat.le_of_ble_eq_true rfl) (fun K hK => ?_)
  have hmono := MONO_CLd hSP 2
  have g9 := gri 0 8 hG (a := 0) (r := 0) (k := 9) rfl rfl
  have loop : ∀ (mz : Nat) (s w i : Int) (ls : List (Nat × Value)), ((gi h 0 9 - i).toNat = mz) → ((0 ≤ n ∧ n ≤ 3) ∧ gi h 0 9 ≠ 0) → (0 ≤ i ∧ i ≤ gi h 0 9) → ((lvF fd ea n (gi h 0 9) i.toNat) = (s, w)) → (0 ≤ s ∧ s ≤ 99999) → (-1 ≤ w ∧ w ≤ 8) → lk ls 0 = some (.ref 0) → lk ls 1 = some (.int (I n)) → lk ls 2 = some (.int (I s)) → lk ls 3 = some (.int (I w)) → lk ls 4 = some (.int (I i)) → K 27 ls [] h 0 0 := by
    intro mz
    induction mz using Nat.strongRecOn with
    | ind mz ih =>
    intro s w i ls hm n0 i0 e0 s0 w0 l0 l1 l2 l3 l4
    refine x_iload 29 hK rfl rfl l4 ?_
    refine x_aload_n 30 hK rfl rfl l0 ?_
    have g579 := gri (0) (8) hG (a := 0) (r := 0) (k := 9) rfl rfl
    refine x_getE 33 hK rfl (Or.inl rfl) rfl (sp_0 (h := h) hG) (e := (gi h 0 9)) (rfl) ?_
    refine x_if_icmp_ge 103 36 hK rfl rfl rfl (by omega) (by omega) (fun c4 => ?_) (fun c4 => ?_)
    · refine x_aload_n 104 hK rfl rfl l0 ?_
      refine x_getR 107 hK rfl rfl (sp_0 (h := h) hG) (rf_0_1 (h := h) hG) ?_
      refine x_iload_n 108 hK rfl rfl l3 ?_
      refine x_i2l 109 hK rfl rfl (by omega) ?_
      refine x_callV 112 hK hmono rfl rfl [.ref 3, .long (J w)] [] rfl rfl (Nat.le_of_ble_eq_true rfl) (Nat.le_of_ble_eq_true rfl) rfl (sp_3 (h := h) hG) (CLd_le (Nat.le_of_ble_eq_true rfl) (ctX3_tellOne hSP hG (by omega))) ?_
      rintro v580 h580 ⟨rfl, hG580, hF580, t580, s580⟩
      refine x_iload_n 113 hK rfl rfl l2 ?_
      obtain ei : i = gi h 0 9 := by omega
      rw [ei] at e0
      exact x_iret hK rfl ⟨Or.inr ⟨n0, by rw [e0], t580, by rw [e0]; exact s580⟩, hG580, hF580⟩
    · refine x_iload_n 37 hK rfl rfl l1 ?_
      refine x_if_eq 45 40 hK rfl rfl rfl (by omega) (fun c13 => ?_) (fun c13 => ?_)
      · refine x_iload 47 hK rfl rfl l4 ?_
        refine x_goto 51 hK rfl rfl ?_
        refine x_istore 53 hK rfl rfl _ rfl ?_
        refine x_iload_n 54 hK rfl rfl (lk1_n l1 (by decide) (Or.inl rfl)) ?_
        refine x_if_eq 62 57 hK rfl rfl rfl (by omega) (fun _ => ?_) (fun c => by omega)
        refine x_iload 64 hK rfl rfl (lk1_n l4 (by decide) (Or.inl rfl)) ?_
        refine x_goto 73 hK rfl rfl ?_
        refine x_istore 75 hK rfl rfl _ rfl ?_
        refine x_aload_n 76 hK rfl rfl (lk1_n (lk1_n l0 (by decide) (Or.inl rfl)) (by decide) (Or.inl rfl)) ?_
        refine x_iload 78 hK rfl rfl (lk1_n lk1_s (by decide) (Or.inl rfl)) ?_
        refine x_iload 80 hK rfl rfl lk1_s ?_
        have me581 : gi h 0 9 = (gi h 0 9) := rfl
        have lb581 := luF_b (fd := fd) (ea := ea) (a := i) (b := i) (m := (gi h 0 9)) (by omega) (by omega) g9.2 (fun j hj => (hf j hj).2) (fun j hj => (he j hj).2) (by omega)
        refine x_callV 83 hK hmono rfl rfl [.ref 0, .int (I i), .int (I i)] [] rfl rfl (Nat.le_of_ble_eq_true rfl) (Nat.le_of_ble_eq_true rfl) rfl (sp_0 (h := h) hG) (CLd_le (Nat.le_of_ble_eq_true rfl) (ctX10_lastsForF hSP hG (fd := fd) (ea := ea) (a := i) (z := i) (by rw [me581]; exact hf) (by rw [me581]; exact he) (by omega) (by omega) (by rw [me581]; omega))) ?_
        rintro v9 h9 ⟨e9, rfl⟩
        rw [e9]
        clear e9
        refine x_istore 85 hK rfl rfl _ rfl ?_
        refine x_iload 87 hK rfl rfl lk1_s ?_
        refine x_iload_n 88 hK rfl rfl (lk1_n (lk1_n (lk1_n l2 (by decide) (Or.inl rfl)) (by decide) (Or.inl rfl)) (by decide) (Or.inl rfl)) ?_
        refine x_if_icmp_ge 97 91 hK rfl rfl rfl (by omega) (by omega) (fun c29 => ?_) (fun c29 => ?_)
        · refine x_iinc 100 hK rfl rfl (lk1_n (lk1_n (lk1_n l4 (by decide) (Or.inl rfl)) (by decide) (Or.inl rfl)) (by decide) (Or.inl rfl)) _ rfl ?_
          refine x_goto 27 hK rfl rfl ?_
          have tt : lvT fd ea n (gi h 0 9) i = (luF fd ea i i) := by unfold lvT; first | (rw [if_pos (by omega), if_pos (by omega)]; done) | (rw [if_pos (by omega), if_neg (by omega)]; done) | (rw [if_neg (by omega), if_pos (by omega)]; done) | (rw [if_neg (by omega), if_neg (by omega)]; done)
          have en : (lvF fd ea n (gi h 0 9) (i + 1).toNat) = (s, w) := by rw [lvF_s i0.1, e0, tt]; exact if_neg (by show ¬ (luF fd ea i i) < s; omega)
          exact ih _ (by omega) s w (i + 1) _ rfl (n0) (by omega) (en) (by omega) (by omega) (lk1_n (lk1_n (lk1_n (lk1_n l0 (by decide) (Or.inl rfl)) (by decide) (Or.inl rfl)) (by decide) (Or.inl rfl)) (by decide) (Or.inl rfl)) (lk1_n (lk1_n (lk1_n (lk1_n l1 (by decide) (Or.inl rfl)) (by decide) (Or.inl rfl)) (by decide) (Or.inl rfl)) (by decide) (Or.inl rfl)) (lk1_n (lk1_n (lk1_n (lk1_n l2 (by decide) (Or.inl rfl)) (by decide) (Or.inl rfl)) (by decide) (Or.inl rfl)) (by decide) (Or.inl rfl)) (lk1_n (lk1_n (lk1_n (lk1_n l3 (by decide) (Or.inl rfl)) (by decide) (Or.inl rfl)) (by decide) (Or.inl rfl)) (by decide) (Or.inl rfl)) lk1_s
        · refine x_iload 93 hK rfl rfl lk1_s ?_
          refine x_istore_n 94 hK rfl rfl _ rfl ?_
          refine x_iload 96 hK rfl rfl (lk1_n (lk1_n (lk1_n (lk1_n l4 (by decide) (Or.inl rfl)) (by decide) (Or.inl rfl)) (by decide) (Or.inl rfl)) (by decide) (Or.inl rfl)) ?_
          refine x_istore_n 97 hK rfl rfl _ rfl ?_
          refine x_iinc 100 hK rfl rfl (lk1_n (lk1_n (lk1_n (lk1_n (lk1_n l4 (by decide) (Or.inl rfl)) (by decide) (Or.inl rfl)) (by decide) (Or.inl rfl)) (by decide) (Or.inl rfl)) (by decide) (Or.inl rfl)) _ rfl ?_
          refine x_goto 27 hK rfl rfl ?_
          have tt : lvT fd ea n (gi h 0 9) i = (luF fd ea i i) := by unfold lvT; first | (rw [if_pos (by omega), if_pos (by omega)]; done) | (rw [if_pos (by omega), if_neg (by omega)]; done) | (rw [if_neg (by omega), if_pos (by omega)]; done) | (rw [if_neg (by omega), if_neg (by omega)]; done)
          have en : (lvF fd ea n (gi h 0 9) (i + 1).toNat) = ((luF fd ea i i), i) := by rw [lvF_s i0.1, e0, tt]; exact if_pos (by show (luF fd ea i i) < s; omega)
          exact ih _ (by omega) (luF fd ea i i) i (i + 1) _ rfl (n0) (by omega) (en) (by omega) (by omega) (lk1_n (lk1_n (lk1_n (lk1_n (lk1_n (lk1_n l0 (by decide) (Or.inl rfl)) (by decide) (Or.inl rfl)) (by decide) (Or.inl rfl)) (by decide) (Or.inl rfl)) (by decide) (Or.inl rfl)) (by decide) (Or.inl rfl)) (lk1_n (lk1_n (lk1_n (lk1_n (lk1_n (lk1_n l1 (by decide) (Or.inl rfl)) (by decide) (Or.inl rfl)) (by decide) (Or.inl rfl)) (by decide) (Or.inl rfl)) (by decide) (Or.inl rfl)) (by decide) (Or.inl rfl)) (lk1_n (lk1_n lk1_s (by decide) (Or.inl rfl)) (by decide) (Or.inl rfl)) (lk1_n lk1_s (by decide) (Or.inl rfl)) lk1_s
      · refine x_iload_n 41 hK rfl rfl l1 ?_
        refine x_iconst 42 hK rfl rfl ?_
        refine x_if_icmp_ne 50 45 hK rfl rfl rfl (by omega) (by omega) (fun c42 => ?_) (fun c42 => ?_)
        · refine x_iconst 51 hK rfl rfl ?_
          refine x_istore 53 hK rfl rfl _ rfl ?_
          refine x_iload_n 54 hK rfl rfl (lk1_n l1 (by decide) (Or.inl rfl)) ?_
          refine x_if_eq 62 57 hK rfl rfl rfl (by omega) (fun c => by omega) (fun _ => ?_)
          refine x_iload_n 58 hK rfl rfl (lk1_n l1 (by decide) (Or.inl rfl)) ?_
          refine x_iconst 59 hK rfl rfl ?_
          refine x_if_icmp_ne 67 62 hK rfl rfl rfl (by omega) (by omega) (fun c49 => ?_) (fun c49 => ?_)
          · refine x_aload_n 68 hK rfl rfl (lk1_n l0 (by decide) (Or.inl rfl)) ?_
            refine x_getE 71 hK rfl (Or.inl rfl) rfl (sp_0 (h := h) hG) (e := (gi h 0 9)) (rfl) ?_
            refine x_iconst 72 hK rfl rfl ?_
            refine x_isub 73 hK rfl rfl ?_
            refine x_istore 75 hK rfl rfl _ rfl ?_
            refine x_aload_n 76 hK rfl rfl (lk1_n (lk1_n l0 (by decide) (Or.inl rfl)) (by decide) (Or.inl rfl)) ?_
            refine x_iload 78 hK rfl rfl (lk1_n lk1_s (by decide) (Or.inl rfl)) ?_
            refine x_iload 80 hK rfl rfl lk1_s ?_
            have me582 : gi h 0 9 = (gi h 0 9) := rfl
            have lb582 := luF_b (fd := fd) (ea := ea) (a := 0) (b := ((gi h 0 9) - 1)) (m := (gi h 0 9)) (by omega) (by omega) g9.2 (fun j hj => (hf j hj).2) (fun j hj => (he j hj).2) (by omega)
            refine x_callV 83 hK hmono rfl rfl [.ref 0, .int (I 0), .int (I ((gi h 0 9) - 1))] [] rfl rfl (Nat.le_of_ble_eq_true rfl) (Nat.le_of_ble_eq_true rfl) rfl (sp_0 (h := h) hG) (CLd_le (Nat.le_of_ble_eq_true rfl) (ctX10_lastsForF hSP hG (fd := fd) (ea := ea) (a := 0) (z := ((gi h 0 9) - 1)) (by rw [me582]; exact hf) (by rw [me582]; exact he) (by omega) (by omega) (by rw [me582]; omega))) ?_
            rintro v9 h9 ⟨e9, rfl⟩
            rw [e9]
            clear e9
            refine x_istore 85 hK rfl rfl _ rfl ?_
            refine x_iload 87 hK rfl rfl lk1_s ?_
            refine x_iload_n 88 hK rfl rfl (lk1_n (lk1_n (lk1_n l2 (by decide) (Or.inl rfl)) (by decide) (Or.inl rfl)) (by decide) (Or.inl rfl)) ?_
            refine x_if_icmp_ge 97 91 hK rfl rfl rfl (by omega) (by omega) (fun c62 => ?_) (fun c62 => ?_)
            · refine x_iinc 100 hK rfl rfl (lk1_n (lk1_n (lk1_n l4 (by decide) (Or.inl rfl)) (by decide) (Or.inl rfl)) (by decide) (Or.inl rfl)) _ rfl ?_
              refine x_goto 27 hK rfl rfl ?_
              have tt : lvT fd ea n (gi h 0 9) i = (luF fd ea 0 ((gi h 0 9) - 1)) := by unfold lvT; first | (rw [if_pos (by omega), if_pos (by omega)]; done) | (rw [if_pos (by omega), if_neg (by omega)]; done) | (rw [if_neg (by omega), if_pos (by omega)]; done) | (rw [if_neg (by omega), if_neg (by omega)]; done)
              have en : (lvF fd ea n (gi h 0 9) (i + 1).toNat) = (s, w) := by rw [lvF_s i0.1, e0, tt]; exact if_neg (by show ¬ (luF fd ea 0 ((gi h 0 9) - 1)) < s; omega)
              exact ih _ (by omega) s w (i + 1) _ rfl (n0) (by omega) (en) (by omega) (by omega) (lk1_n (lk1_n (lk1_n (lk1_n l0 (by decide) (Or.inl rfl)) (by decide) (Or.inl rfl)) (by decide) (Or.inl rfl)) (by decide) (Or.inl rfl)) (lk1_n (lk1_n (lk1_n (lk1_n l1 (by decide) (Or.inl rfl)) (by decide) (Or.inl rfl)) (by decide) (Or.inl rfl)) (by decide) (Or.inl rfl)) (lk1_n (lk1_n (lk1_n (lk1_n l2 (by decide) (Or.inl rfl)) (by decide) (Or.inl rfl)) (by decide) (Or.inl rfl)) (by decide) (Or.inl rfl)) (lk1_n (lk1_n (lk1_n (lk1_n l3 (by decide) (Or.inl rfl)) (by decide) (Or.inl rfl)) (by decide) (Or.inl rfl)) (by decide) (Or.inl rfl)) lk1_s
            · refine x_iload 93 hK rfl rfl lk1_s ?_
              refine x_istore_n 94 hK rfl rfl _ rfl ?_
              refine x_iload 96 hK rfl rfl (lk1_n (lk1_n (lk1_n (lk1_n l4 (by decide) (Or.inl rfl)) (by decide) (Or.inl rfl)) (by decide) (Or.inl rfl)) (by decide) (Or.inl rfl)) ?_
              refine x_istore_n 97 hK rfl rfl _ rfl ?_
              refine x_iinc 100 hK rfl rfl (lk1_n (lk1_n (lk1_n (lk1_n (lk1_n l4 (by decide) (Or.inl rfl)) (by decide) (Or.inl rfl)) (by decide) (Or.inl rfl)) (by decide) (Or.inl rfl)) (by decide) (Or.inl rfl)) _ rfl ?_
              refine x_goto 27 hK rfl rfl ?_
              have tt : lvT fd ea n (gi h 0 9) i = (luF fd ea 0 ((gi h 0 9) - 1)) := by unfold lvT; first | (rw [if_pos (by omega), if_pos (by omega)]; done) | (rw [if_pos (by omega), if_neg (by omega)]; done) | (rw [if_neg (by omega), if_pos (by omega)]; done) | (rw [if_neg (by omega), if_neg (by omega)]; done)
              have en : (lvF fd ea n (gi h 0 9) (i + 1).toNat) = ((luF fd ea 0 ((gi h 0 9) - 1)), i) := by rw [lvF_s i0.1, e0, tt]; exact if_pos (by show (luF fd ea 0 ((gi h 0 9) - 1)) < s; omega)
              exact ih _ (by omega) (luF fd ea 0 ((gi h 0 9) - 1)) i (i + 1) _ rfl (n0) (by omega) (en) (by omega) (by omega) (lk1_n (lk1_n (lk1_n (lk1_n (lk1_n (lk1_n l0 (by decide) (Or.inl rfl)) (by decide) (Or.inl rfl)) (by decide) (Or.inl rfl)) (by decide) (Or.inl rfl)) (by decide) (Or.inl rfl)) (by decide) (Or.inl rfl)) (lk1_n (lk1_n (lk1_n (lk1_n (lk1_n (lk1_n l1 (by decide) (Or.inl rfl)) (by decide) (Or.inl rfl)) (by decide) (Or.inl rfl)) (by decide) (Or.inl rfl)) (by decide) (Or.inl rfl)) (by decide) (Or.inl rfl)) (lk1_n (lk1_n lk1_s (by decide) (Or.inl rfl)) (by decide) (Or.inl rfl)) (lk1_n lk1_s (by decide) (Or.inl rfl)) lk1_s
          · refine x_iload 64 hK rfl rfl (lk1_n l4 (by decide) (Or.inl rfl)) ?_
            refine x_goto 73 hK rfl rfl ?_
            refine x_istore 75 hK rfl rfl _ rfl ?_
            refine x_aload_n 76 hK rfl rfl (lk1_n (lk1_n l0 (by decide) (Or.inl rfl)) (by decide) (Or.inl rfl)) ?_
            refine x_iload 78 hK rfl rfl (lk1_n lk1_s (by decide) (Or.inl rfl)) ?_
            refine x_iload 80 hK rfl rfl lk1_s ?_
            have me583 : gi h 0 9 = (gi h 0 9) := rfl
            have lb583 := luF_b (fd := fd) (ea := ea) (a := 0) (b := i) (m := (gi h 0 9)) (by omega) (by omega) g9.2 (fun j hj => (hf j hj).2) (fun j hj => (he j hj).2) (by omega)
            refine x_callV 83 hK hmono rfl rfl [.ref 0, .int (I 0), .int (I i)] [] rfl rfl (Nat.le_of_ble_eq_true rfl) (Nat.le_of_ble_eq_true rfl) rfl (sp_0 (h := h) hG) (CLd_le (Nat.le_of_ble_eq_true rfl) (ctX10_lastsForF hSP hG (fd := fd) (ea := ea) (a := 0) (z := i) (by rw [me583]; exact hf) (by rw [me583]; exact he) (by omega) (by omega) (by rw [me583]; omega))) ?_
            rintro v9 h9 ⟨e9, rfl⟩
            rw [e9]
            clear e9
            refine x_istore 85 hK rfl rfl _ rfl ?_
            refine x_iload 87 hK rfl rfl lk1_s ?_
            refine x_iload_n 88 hK rfl rfl (lk1_n (lk1_n (lk1_n l2 (by decide) (Or.inl rfl)) (by decide) (Or.inl rfl)) (by decide) (Or.inl rfl)) ?_
            refine x_if_icmp_ge 97 91 hK rfl rfl rfl (by omega) (by omega) (fun c83 => ?_) (fun c83 => ?_)
            · refine x_iinc 100 hK rfl rfl (lk1_n (lk1_n (lk1_n l4 (by decide) (Or.inl rfl)) (by decide) (Or.inl rfl)) (by decide) (Or.inl rfl)) _ rfl ?_
              refine x_goto 27 hK rfl rfl ?_
              have tt : lvT fd ea n (gi h 0 9) i = (luF fd ea 0 i) := by unfold lvT; first | (rw [if_pos (by omega), if_pos (by omega)]; done) | (rw [if_pos (by omega), if_neg (by omega)]; done) | (rw [if_neg (by omega), if_pos (by omega)]; done) | (rw [if_neg (by omega), if_neg (by omega)]; done)
              have en : (lvF fd ea n (gi h 0 9) (i + 1).toNat) = (s, w) := by rw [lvF_s i0.1, e0, tt]; exact if_neg (by show ¬ (luF fd ea 0 i) < s; omega)
              exact ih _ (by omega) s w (i + 1) _ rfl (n0) (by omega) (en) (by omega) (by omega) (lk1_n (lk1_n (lk1_n (lk1_n l0 (by decide) (Or.inl rfl)) (by decide) (Or.inl rfl)) (by decide) (Or.inl rfl)) (by decide) (Or.inl rfl)) (lk1_n (lk1_n (lk1_n (lk1_n l1 (by decide) (Or.inl rfl)) (by decide) (Or.inl rfl)) (by decide) (Or.inl rfl)) (by decide) (Or.inl rfl)) (lk1_n (lk1_n (lk1_n (lk1_n l2 (by decide) (Or.inl rfl)) (by decide) (Or.inl rfl)) (by decide) (Or.inl rfl)) (by decide) (Or.inl rfl)) (lk1_n (lk1_n (lk1_n (lk1_n l3 (by decide) (Or.inl rfl)) (by decide) (Or.inl rfl)) (by decide) (Or.inl rfl)) (by decide) (Or.inl rfl)) lk1_s
            · refine x_iload 93 hK rfl rfl lk1_s ?_
              refine x_istore_n 94 hK rfl rfl _ rfl ?_
              refine x_iload 96 hK rfl rfl (lk1_n (lk1_n (lk1_n (lk1_n l4 (by decide) (Or.inl rfl)) (by decide) (Or.inl rfl)) (by decide) (Or.inl rfl)) (by decide) (Or.inl rfl)) ?_
              refine x_istore_n 97 hK rfl rfl _ rfl ?_
              refine x_iinc 100 hK rfl rfl (lk1_n (lk1_n (lk1_n (lk1_n (lk1_n l4 (by decide) (Or.inl rfl)) (by decide) (Or.inl rfl)) (by decide) (Or.inl rfl)) (by decide) (Or.inl rfl)) (by decide) (Or.inl rfl)) _ rfl ?_
              refine x_goto 27 hK rfl rfl ?_
              have tt : lvT fd ea n (gi h 0 9) i = (luF fd ea 0 i) := by unfold lvT; first | (rw [if_pos (by omega), if_pos (by omega)]; done) | (rw [if_pos (by omega), if_neg (by omega)]; done) | (rw [if_neg (by omega), if_pos (by omega)]; done) | (rw [if_neg (by omega), if_neg (by omega)]; done)
              have en : (lvF fd ea n (gi h 0 9) (i + 1).toNat) = ((luF fd ea 0 i), i) := by rw [lvF_s i0.1, e0, tt]; exact if_pos (by show (luF fd ea 0 i) < s; omega)
              exact ih _ (by omega) (luF fd ea 0 i) i (i + 1) _ rfl (n0) (by omega) (en) (by omega) (by omega) (lk1_n (lk1_n (lk1_n (lk1_n (lk1_n (lk1_n l0 (by decide) (Or.inl rfl)) (by decide) (Or.inl rfl)) (by decide) (Or.inl rfl)) (by decide) (Or.inl rfl)) (by decide) (Or.inl rfl)) (by decide) (Or.inl rfl)) (lk1_n (lk1_n (lk1_n (lk1_n (lk1_n (lk1_n l1 (by decide) (Or.inl rfl)) (by decide) (Or.inl rfl)) (by decide) (Or.inl rfl)) (by decide) (Or.inl rfl)) (by decide) (Or.inl rfl)) (by decide) (Or.inl rfl)) (lk1_n (lk1_n lk1_s (by decide) (Or.inl rfl)) (by decide) (Or.inl rfl)) (lk1_n lk1_s (by decide) (Or.inl rfl)) lk1_s
        · refine x_iload 47 hK rfl rfl l4 ?_
          refine x_goto 51 hK rfl rfl ?_
          refine x_istore 53 hK rfl rfl _ rfl ?_
          refine x_iload_n 54 hK rfl rfl (lk1_n l1 (by decide) (Or.inl rfl)) ?_
          refine x_if_eq 62 57 hK rfl rfl rfl (by omega) (fun c => by omega) (fun _ => ?_)
          refine x_iload_n 58 hK rfl rfl (lk1_n l1 (by decide) (Or.inl rfl)) ?_
          refine x_iconst 59 hK rfl rfl ?_
          refine x_if_icmp_ne 67 62 hK rfl rfl rfl (by omega) (by omega) (fun _ => ?_) (fun c => by omega)
          refine x_aload_n 68 hK rfl rfl (lk1_n l0 (by decide) (Or.inl rfl)) ?_
          refine x_getE 71 hK rfl (Or.inl rfl) rfl (sp_0 (h := h) hG) (e := (gi h 0 9)) (rfl) ?_
          refine x_iconst 72 hK rfl rfl ?_
          refine x_isub 73 hK rfl rfl ?_
          refine x_istore 75 hK rfl rfl _ rfl ?_
          refine x_aload_n 76 hK rfl rfl (lk1_n (lk1_n l0 (by decide) (Or.inl rfl)) (by decide) (Or.inl rfl)) ?_
          refine x_iload 78 hK rfl rfl (lk1_n lk1_s (by decide) (Or.inl rfl)) ?_
          refine x_iload 80 hK rfl rfl lk1_s ?_
          have me584 : gi h 0 9 = (gi h 0 9) := rfl
          have lb584 := luF_b (fd := fd) (ea := ea) (a := i) (b := ((gi h 0 9) - 1)) (m := (gi h 0 9)) (by omega) (by omega) g9.2 (fun j hj => (hf j hj).2) (fun j hj => (he j hj).2) (by omega)
          refine x_callV 83 hK hmono rfl rfl [.ref 0, .int (I i), .int (I ((gi h 0 9) - 1))] [] rfl rfl (Nat.le_of_ble_eq_true rfl) (Nat.le_of_ble_eq_true rfl) rfl (sp_0 (h := h) hG) (CLd_le (Nat.le_of_ble_eq_true rfl) (ctX10_lastsForF hSP hG (fd := fd) (ea := ea) (a := i) (z := ((gi h 0 9) - 1)) (by rw [me584]; exact hf) (by rw [me584]; exact he) (by omega) (by omega) (by rw [me584]; omega))) ?_
          rintro v9 h9 ⟨e9, rfl⟩
          rw [e9]
          clear e9
          refine x_istore 85 hK rfl rfl _ rfl ?_
          refine x_iload 87 hK rfl rfl lk1_s ?_
          refine x_iload_n 88 hK rfl rfl (lk1_n (lk1_n (lk1_n l2 (by decide) (Or.inl rfl)) (by decide) (Or.inl rfl)) (by decide) (Or.inl rfl)) ?_
          refine x_if_icmp_ge 97 91 hK rfl rfl rfl (by omega) (by omega) (fun c114 => ?_) (fun c114 => ?_)
          · refine x_iinc 100 hK rfl rfl (lk1_n (lk1_n (lk1_n l4 (by decide) (Or.inl rfl)) (by decide) (Or.inl rfl)) (by decide) (Or.inl rfl)) _ rfl ?_
            refine x_goto 27 hK rfl rfl ?_
            have tt : lvT fd ea n (gi h 0 9) i = (luF fd ea i ((gi h 0 9) - 1)) := by unfold lvT; first | (rw [if_pos (by omega), if_pos (by omega)]; done) | (rw [if_pos (by omega), if_neg (by omega)]; done) | (rw [if_neg (by omega), if_pos (by omega)]; done) | (rw [if_neg (by omega), if_neg (by omega)]; done)
            have en : (lvF fd ea n (gi h 0 9) (i + 1).toNat) = (s, w) := by rw [lvF_s i0.1, e0, tt]; exact if_neg (by show ¬ (luF fd ea i ((gi h 0 9) - 1)) < s; omega)
            exact ih _ (by omega) s w (i + 1) _ rfl (n0) (by omega) (en) (by omega) (by omega) (lk1_n (lk1_n (lk1_n (lk1_n l0 (by decide) (Or.inl rfl)) (by decide) (Or.inl rfl)) (by decide) (Or.inl rfl)) (by decide) (Or.inl rfl)) (lk1_n (lk1_n (lk1_n (lk1_n l1 (by decide) (Or.inl rfl)) (by decide) (Or.inl rfl)) (by decide) (Or.inl rfl)) (by decide) (Or.inl rfl)) (lk1_n (lk1_n (lk1_n (lk1_n l2 (by decide) (Or.inl rfl)) (by decide) (Or.inl rfl)) (by decide) (Or.inl rfl)) (by decide) (Or.inl rfl)) (lk1_n (lk1_n (lk1_n (lk1_n l3 (by decide) (Or.inl rfl)) (by decide) (Or.inl rfl)) (by decide) (Or.inl rfl)) (by decide) (Or.inl rfl)) lk1_s
          · refine x_iload 93 hK rfl rfl lk1_s ?_
            refine x_istore_n 94 hK rfl rfl _ rfl ?_
            refine x_iload 96 hK rfl rfl (lk1_n (lk1_n (lk1_n (lk1_n l4 (by decide) (Or.inl rfl)) (by decide) (Or.inl rfl)) (by decide) (Or.inl rfl)) (by decide) (Or.inl rfl)) ?_
            refine x_istore_n 97 hK rfl rfl _ rfl ?_
            refine x_iinc 100 hK rfl rfl (lk1_n (lk1_n (lk1_n (lk1_n (lk1_n l4 (by decide) (Or.inl rfl)) (by decide) (Or.inl rfl)) (by decide) (Or.inl rfl)) (by decide) (Or.inl rfl)) (by decide) (Or.inl rfl)) _ rfl ?_
            refine x_goto 27 hK rfl rfl ?_
            have tt : lvT fd ea n (gi h 0 9) i = (luF fd ea i ((gi h 0 9) - 1)) := by unfold lvT; first | (rw [if_pos (by omega), if_pos (by omega)]; done) | (rw [if_pos (by omega), if_neg (by omega)]; done) | (rw [if_neg (by omega), if_pos (by omega)]; done) | (rw [if_neg (by omega), if_neg (by omega)]; done)
            have en : (lvF fd ea n (gi h 0 9) (i + 1).toNat) = ((luF fd ea i ((gi h 0 9) - 1)), i) := by rw [lvF_s i0.1, e0, tt]; exact if_pos (by show (luF fd ea i ((gi h 0 9) - 1)) < s; omega)
            exact ih _ (by omega) (luF fd ea i ((gi h 0 9) - 1)) i (i + 1) _ rfl (n0) (by omega) (en) (by omega) (by omega) (lk1_n (lk1_n (lk1_n (lk1_n (lk1_n (lk1_n l0 (by decide) (Or.inl rfl)) (by decide) (Or.inl rfl)) (by decide) (Or.inl rfl)) (by decide) (Or.inl rfl)) (by decide) (Or.inl rfl)) (by decide) (Or.inl rfl)) (lk1_n (lk1_n (lk1_n (lk1_n (lk1_n (lk1_n l1 (by decide) (Or.inl rfl)) (by decide) (Or.inl rfl)) (by decide) (Or.inl rfl)) (by decide) (Or.inl rfl)) (by decide) (Or.inl rfl)) (by decide) (Or.inl rfl)) (lk1_n (lk1_n lk1_s (by decide) (Or.inl rfl)) (by decide) (Or.inl rfl)) (lk1_n lk1_s (by decide) (Or.inl rfl)) lk1_s
  refine x_iload_n 1 hK rfl rfl rfl ?_
  refine x_if_lt 16 4 hK rfl rfl rfl (by omega) (fun c2 => ?_) (fun c2 => ?_)
  · refine x_iconst 17 hK rfl rfl ?_
    exact x_iret hK rfl ⟨Or.inl ⟨fun z => by have z1 := z.1; have z2 := z.2; omega, rfl, rfl⟩, hG, FRM.rf⟩
  · refine x_iload_n 5 hK rfl rfl rfl ?_
    refine x_iconst 6 hK rfl rfl ?_
    refine x_if_icmp_gt 16 9 hK rfl rfl rfl (by omega) (by omega) (fun c7 => ?_) (fun c7 => ?_)
    · refine x_iconst 17 hK rfl rfl ?_
      exact x_iret hK rfl ⟨Or.inl ⟨fun z => by have z1 := z.1; have z2 := z.2; omega, rfl, rfl⟩, hG, FRM.rf⟩
    · refine x_aload_n 10 hK rfl rfl rfl ?_
      have g585 := gri (0) (8) hG (a := 0) (r := 0) (k := 9) rfl rfl
      refine x_getE 13 hK rfl (Or.inl rfl) rfl (sp_0 (h := h) hG) (e := (gi h 0 9)) (rfl) ?_
      refine x_if_ne 18 16 hK rfl rfl rfl (by omega) (fun c12 => ?_) (fun c12 => ?_)
      · refine x_ldc_w 21 hK rfl rfl ?_
        refine x_istore_n 22 hK rfl rfl [(2, .int (I 99999)), (0, .ref 0), (1, .int (I n))] rfl ?_
        refine x_iconst 23 hK rfl rfl ?_
        refine x_istore_n 24 hK rfl rfl [(3, .int (I (-1))), (2, .int (I 99999)), (0, .ref 0), (1, .int (I n))] rfl ?_
        refine x_iconst 25 hK rfl rfl ?_
        refine x_istore 27 hK rfl rfl [(4, .int (I 0)), (3, .int (I (-1))), (2, .int (I 99999)), (0, .ref 0), (1, .int (I n))] rfl ?_
        exact loop _ 99999 (-1) 0 _ rfl (⟨⟨by omega, by omega⟩, by omega⟩) (by omega) (rfl) (by omega) (by omega) rfl rfl rfl rfl rfl
      · refine x_iconst 17 hK rfl rfl ?_
        exact x_iret hK rfl ⟨Or.inl ⟨fun z => by have z1 := z.1; have z2 := z.2; omega, rfl, rfl⟩, hG, FRM.rf⟩
set_option maxRecDepth 4000 in
theorem ctX11_livesF {SP : CT} (hSP : MONO SP) {sh : List (Nat × Nat)} {h : aH} (hG : GD gE gRL sh h) {fd ea : Nat → Int} (hf : ∀ j : Nat, (j : Int) < gi h 171 7 → gi h 178 (41 + j) = fd j ∧ 0 ≤ fd j ∧ fd j ≤ 99) (he : ∀ j : Nat, (j : Int) < gi h 171 7 → gi h 177 j = ea j ∧ 0 ≤ ea j ∧ ea j ≤ 9) {n : Int} (rn : r32 n) : CLd SP 3 mX11_lives [.ref 171, .int (I n)] h 0 0 (fun rv h' => ((¬ ((0 ≤ n ∧ n ≤ 3) ∧ gi h 171 7 ≠ 0) ∧ rv = some (.int (I (-1))) ∧ mrow h' = mrow h ∧ gi h' 171 1 = gi h 171 1) ∨ (((0 ≤ n ∧ n ≤ 3) ∧ gi h 171 7 ≠ 0) ∧ rv = some (.int (I (lvF fd ea n (gi h 171 7) (gi h 171 7).toNat).1)) ∧ mrow h' = [(lvF fd ea n (gi h 171 7) (gi h 171 7).toNat).2])) ∧ GD gE gRL sh h' ∧ FRM gRL [(0, 54, 0, 0), (0, 54, 1, 1), (1, 55, 0, 39)] h h') := by
  refine x_met _ rfl (Nat.le_of_ble_eq_true rfl) (fun K hK => ?_)
  have hmono := MONO_CLd hSP 2
  have g9 := gri 0 8 hG (a := 171) (r := 54) (k := 7) rfl rfl
  have loop : ∀ (mz : Nat) (s w i : Int) (h4 : aH) (ls : List (Nat × Value)), ((gi h 171 7 - i).toNat = mz) → ((0 ≤ n ∧ n ≤ 3) ∧ gi h 171 7 ≠ 0) → (0 ≤ i ∧ i ≤ gi h 171 7) → (n < 3 → (lvF fd ea n (gi h 171 7) i.toNat) = (s, w)) → (n = 3 → (lvF fd ea n (gi h 171 7) (gi h 171 7).toNat) = (s, w)) → (0 ≤ s ∧ s ≤ 99999) → (-1 ≤ w ∧ w ≤ 8) → lk ls 0 = some (.ref 171) → lk ls 1 = some (.int (I n)) → lk ls 2 = some (.int (I s)) → lk ls 3 = some (.int (I w)) → lk ls 4 = some (.int (I i)) → GD gE gRL sh h4 → FRM gRL [(0, 54, 0, 0), (0, 54, 1, 1), (1, 55, 0, 39)] h h4 → K 70 ls [] h4 0 0 := by
    intro mz
    induction mz using Nat.strongRecOn with
    | ind mz ih =>
    intro s w i h4 ls hm n0 i0 e0 e3 s0 w0 l0 l1 l2 l3 l4 hG4 hF4
    have m4 : gi h4 171 7 = gi h 171 7 := FRM_gi hF4 (r := 54) rfl (by decide)
    refine x_iload 72 hK rfl rfl l4 ?_
    refine x_aload_n 73 hK rfl rfl l0 ?_
    have g586 := gri (0) (8) hG (a := 171) (r := 54) (k := 7) rfl rfl
    refine x_getE 76 hK rfl (Or.inl rfl) rfl (sp_171 (h := h4) hG4) (e := (gi h 171 7)) (m4) ?_
    refine x_if_icmp_ge 143 79 hK rfl rfl rfl (by omega) (by omega) (fun c4 => ?_) (fun c4 => ?_)
    · refine x_aload_n 144 hK rfl rfl l0 ?_
      refine x_iconst 145 hK rfl rfl ?_
      refine x_putI 148 hK rfl rfl (sp_171 (h := h4) hG4) ?_
      refine x_aload_n 149 hK rfl rfl l0 ?_
      refine x_iload_n 150 hK rfl rfl l3 ?_
      refine x_i2l 151 hK rfl rfl (by omega) ?_
      have hGp587 : GD gE gRL sh (wI h4 171 1 0) := GD_w1 (hG4) (r := 54) rfl (by omega) rfl (by omega) (by omega)
      have z589 : gi (wI h4 171 1 0) 171 1 = 0 := gi_same (by omega)
      have z589r : mrow (wI h4 171 1 0) = [] := mrow_0 (gi_same (by omega))
      refine x_callV 154 hK hmono rfl rfl [.ref 171, .long (J w)] [] rfl rfl (Nat.le_of_ble_eq_true rfl) (Nat.le_of_ble_eq_true rfl) rfl (sp_171 (h := h4) hG4) (CLd_le (Nat.le_of_ble_eq_true rfl) (ctX11_entersF hSP hGp587 (by omega) (by omega))) ?_
      rintro v588 h588 ⟨rfl, hG588, hF588, t588, s588⟩
      rw [z589] at t588
      rw [z589r] at s588
      replace t588 : gi h588 171 1 = 1 := t588
      change mrow h588 = [w] at s588
      refine x_iload_n 155 hK rfl rfl l2 ?_
      have ee : (lvF fd ea n (gi h 171 7) (gi h 171 7).toNat) = (s, w) := by
        by_cases q : n = 3
        · exact e3 q
        · rw [show (gi h 171 7).toNat = i.toNat by omega]; exact e0 (by omega)
      exact x_iret hK rfl ⟨Or.inr ⟨n0, by rw [ee], by rw [ee]; exact s588⟩, hG588, (FRM_w (hF4) (r := 54) rfl rfl).trans ((hF588).mono rfl)⟩
    · refine x_iload_n 80 hK rfl rfl l1 ?_
      refine x_iconst 81 hK rfl rfl ?_
      refine x_if_icmp_ge 143 84 hK rfl rfl rfl (by omega) (by omega) (fun c16 => ?_) (fun c16 => ?_)
      · refine x_aload_n 144 hK rfl rfl l0 ?_
        refine x_iconst 145 hK rfl rfl ?_
        refine x_putI 148 hK rfl rfl (sp_171 (h := h4) hG4) ?_
        refine x_aload_n 149 hK rfl rfl l0 ?_
        refine x_iload_n 150 hK rfl rfl l3 ?_
        refine x_i2l 151 hK rfl rfl (by omega) ?_
        have hGp590 : GD gE gRL sh (wI h4 171 1 0) := GD_w1 (hG4) (r := 54) rfl (by omega) rfl (by omega) (by omega)
        have z592 : gi (wI h4 171 1 0) 171 1 = 0 := gi_same (by omega)
        have z592r : mrow (wI h4 171 1 0) = [] := mrow_0 (gi_same (by omega))
        refine x_callV 154 hK hmono rfl rfl [.ref 171, .long (J w)] [] rfl rfl (Nat.le_of_ble_eq_true rfl) (Nat.le_of_ble_eq_true rfl) rfl (sp_171 (h := h4) hG4) (CLd_le (Nat.le_of_ble_eq_true rfl) (ctX11_entersF hSP hGp590 (by omega) (by omega))) ?_
        rintro v591 h591 ⟨rfl, hG591, hF591, t591, s591⟩
        rw [z592] at t591
        rw [z592r] at s591
        replace t591 : gi h591 171 1 = 1 := t591
        change mrow h591 = [w] at s591
        refine x_iload_n 155 hK rfl rfl l2 ?_
        have ee : (lvF fd ea n (gi h 171 7) (gi h 171 7).toNat) = (s, w) := by
          by_cases q : n = 3
          · exact e3 q
          · rw [show (gi h 171 7).toNat = i.toNat by omega]; exact e0 (by omega)
        exact x_iret hK rfl ⟨Or.inr ⟨n0, by rw [ee], by rw [ee]; exact s591⟩, hG591, (FRM_w (hF4) (r := 54) rfl rfl).trans ((hF591).mono rfl)⟩
      · refine x_aload_n 85 hK rfl rfl l0 ?_
        refine x_iload_n 86 hK rfl rfl l1 ?_
        refine x_iconst 87 hK rfl rfl ?_
        refine x_if_icmp_ne 94 90 hK rfl rfl rfl (by omega) (by omega) (fun c29 => ?_) (fun c29 => ?_)
        · refine x_iload 96 hK rfl rfl l4 ?_
          refine x_iload_n 97 hK rfl rfl l1 ?_
          refine x_iconst 98 hK rfl rfl ?_
          refine x_if_icmp_ne 110 101 hK rfl rfl rfl (by omega) (by omega) (fun c33 => ?_) (fun c33 => ?_)
          · refine x_iload 112 hK rfl rfl l4 ?_
            have me593 : gi h4 171 7 = (gi h 171 7) := m4
            have lb593 := luF_b (fd := fd) (ea := ea) (a := i) (b := i) (m := (gi h 171 7)) (by omega) (by omega) g9.2 (fun j hj => (hf j hj).2) (fun j hj => (he j hj).2) (by omega)
            refine x_callV 115 hK hmono rfl rfl [.ref 171, .int (I i), .int (I i)] [] rfl rfl (Nat.le_of_ble_eq_true rfl) (Nat.le_of_ble_eq_true rfl) rfl (sp_171 (h := h4) hG4) (CLd_le (Nat.le_of_ble_eq_true rfl) (ctX11_lastsForF hSP hG4 (fd := fd) (ea := ea) (a := i) (z := i) (by rw [me593]; exact (fun j hj => by rw [show gi h4 178 (41 + j) = gi h 178 (41 + j) from FRM_gi hF4 (r := 61) rfl rfl]; exact hf j hj)) (by rw [me593]; exact (fun j hj => by rw [show gi h4 177 j = gi h 177 j from FRM_gi hF4 (r := 60) rfl rfl]; exact he j hj)) (by omega) (by omega) (by rw [me593]; omega))) ?_
            rintro v9 h9 ⟨e9, rfl⟩
            rw [e9]
            clear e9
            refine x_istore 117 hK rfl rfl _ rfl ?_
            refine x_iload 119 hK rfl rfl lk1_s ?_
            refine x_iload_n 120 hK rfl rfl (lk1_n l2 (by decide) (Or.inl rfl)) ?_
            refine x_if_icmp_ge 128 123 hK rfl rfl rfl (by omega) (by omega) (fun c39 => ?_) (fun c39 => ?_)
            · refine x_iload_n 129 hK rfl rfl (lk1_n l3 (by decide) (Or.inl rfl)) ?_
              refine x_istore_n 130 hK rfl rfl _ rfl ?_
              refine x_iload_n 131 hK rfl rfl (lk1_n (lk1_n l2 (by decide) (Or.inl rfl)) (by decide) (Or.inl rfl)) ?_
              refine x_iload 133 hK rfl rfl (lk1_n lk1_s (by decide) (Or.inl rfl)) ?_
              refine x_min 136 hK rfl rfl (Nat.le_of_ble_eq_true rfl) (by omega) (by omega) ?_
              refine x_istore_n 137 hK rfl rfl _ rfl ?_
              refine x_iinc 140 hK rfl rfl (lk1_n (lk1_n (lk1_n l4 (by decide) (Or.inl rfl)) (by decide) (Or.inl rfl)) (by decide) (Or.inl rfl)) _ rfl ?_
              refine x_goto 70 hK rfl rfl ?_
              have tt : lvT fd ea n (gi h 171 7) i = (luF fd ea i i) := by unfold lvT; first | (rw [if_pos (by omega), if_pos (by omega)]; done) | (rw [if_pos (by omega), if_neg (by omega)]; done) | (rw [if_neg (by omega), if_pos (by omega)]; done) | (rw [if_neg (by omega), if_neg (by omega)]; done)
              have eb : (min s (luF fd ea i i)) = s := by omega
              have en : (lvF fd ea n (gi h 171 7) (i + 1).toNat) = ((min s (luF fd ea i i)), w) := by rw [eb, lvF_s i0.1, e0 (by omega), tt]; exact if_neg (by show ¬ (luF fd ea i i) < s; omega)
              exact ih _ (by omega) (min s (luF fd ea i i)) w (i + 1) _ _ rfl (n0) (by omega) (fun _ => en) (fun y => absurd y (by omega)) (by omega) (by omega) (lk1_n (lk1_n (lk1_n (lk1_n l0 (by decide) (Or.inl rfl)) (by decide) (Or.inl rfl)) (by decide) (Or.inl rfl)) (by decide) (Or.inl rfl)) (lk1_n (lk1_n (lk1_n (lk1_n l1 (by decide) (Or.inl rfl)) (by decide) (Or.inl rfl)) (by decide) (Or.inl rfl)) (by decide) (Or.inl rfl)) (lk1_n lk1_s (by decide) (Or.inl rfl)) (lk1_n (lk1_n lk1_s (by decide) (Or.inl rfl)) (by decide) (Or.inl rfl)) lk1_s (hG4) (hF4)
            · refine x_iload 125 hK rfl rfl (lk1_n l4 (by decide) (Or.inl rfl)) ?_
              refine x_goto 129 hK rfl rfl ?_
              refine x_istore_n 130 hK rfl rfl _ rfl ?_
              refine x_iload_n 131 hK rfl rfl (lk1_n (lk1_n l2 (by decide) (Or.inl rfl)) (by decide) (Or.inl rfl)) ?_
              refine x_iload 133 hK rfl rfl (lk1_n lk1_s (by decide) (Or.inl rfl)) ?_
              refine x_min 136 hK rfl rfl (Nat.le_of_ble_eq_true rfl) (by omega) (by omega) ?_
              refine x_istore_n 137 hK rfl rfl _ rfl ?_
              refine x_iinc 140 hK rfl rfl (lk1_n (lk1_n (lk1_n l4 (by decide) (Or.inl rfl)) (by decide) (Or.inl rfl)) (by decide) (Or.inl rfl)) _ rfl ?_
              refine x_goto 70 hK rfl rfl ?_
              have tt : lvT fd ea n (gi h 171 7) i = (luF fd ea i i) := by unfold lvT; first | (rw [if_pos (by omega), if_pos (by omega)]; done) | (rw [if_pos (by omega), if_neg (by omega)]; done) | (rw [if_neg (by omega), if_pos (by omega)]; done) | (rw [if_neg (by omega), if_neg (by omega)]; done)
              have eb : (min s (luF fd ea i i)) = (luF fd ea i i) := by omega
              have en : (lvF fd ea n (gi h 171 7) (i + 1).toNat) = ((min s (luF fd ea i i)), i) := by rw [eb, lvF_s i0.1, e0 (by omega), tt]; exact if_pos (by show (luF fd ea i i) < s; omega)
              exact ih _ (by omega) (min s (luF fd ea i i)) i (i + 1) _ _ rfl (n0) (by omega) (fun _ => en) (fun y => absurd y (by omega)) (by omega) (by omega) (lk1_n (lk1_n (lk1_n (lk1_n l0 (by decide) (Or.inl rfl)) (by decide) (Or.inl rfl)) (by decide) (Or.inl rfl)) (by decide) (Or.inl rfl)) (lk1_n (lk1_n (lk1_n (lk1_n l1 (by decide) (Or.inl rfl)) (by decide) (Or.inl rfl)) (by decide) (Or.inl rfl)) (by decide) (Or.inl rfl)) (lk1_n lk1_s (by decide) (Or.inl rfl)) (lk1_n (lk1_n lk1_s (by decide) (Or.inl rfl)) (by decide) (Or.inl rfl)) lk1_s (hG4) (hF4)
          · refine x_aload_n 102 hK rfl rfl l0 ?_
            refine x_getE 105 hK rfl (Or.inl rfl) rfl (sp_171 (h := h4) hG4) (e := (gi h 171 7)) (m4) ?_
            refine x_iconst 106 hK rfl rfl ?_
            refine x_isub 107 hK rfl rfl ?_
            refine x_goto 112 hK rfl rfl ?_
            have me594 : gi h4 171 7 = (gi h 171 7) := m4
            have lb594 := luF_b (fd := fd) (ea := ea) (a := i) (b := ((gi h 171 7) - 1)) (m := (gi h 171 7)) (by omega) (by omega) g9.2 (fun j hj => (hf j hj).2) (fun j hj => (he j hj).2) (by omega)
            refine x_callV 115 hK hmono rfl rfl [.ref 171, .int (I i), .int (I ((gi h 171 7) - 1))] [] rfl rfl (Nat.le_of_ble_eq_true rfl) (Nat.le_of_ble_eq_true rfl) rfl (sp_171 (h := h4) hG4) (CLd_le (Nat.le_of_ble_eq_true rfl) (ctX11_lastsForF hSP hG4 (fd := fd) (ea := ea) (a := i) (z := ((gi h 171 7) - 1)) (by rw [me594]; exact (fun j hj => by rw [show gi h4 178 (41 + j) = gi h 178 (41 + j) from FRM_gi hF4 (r := 61) rfl rfl]; exact hf j hj)) (by rw [me594]; exact (fun j hj => by rw [show gi h4 177 j = gi h 177 j from FRM_gi hF4 (r := 60) rfl rfl]; exact he j hj)) (by omega) (by omega) (by rw [me594]; omega))) ?_
            rintro v9 h9 ⟨e9, rfl⟩
            rw [e9]
            clear e9
            refine x_istore 117 hK rfl rfl _ rfl ?_
            refine x_iload 119 hK rfl rfl lk1_s ?_
            refine x_iload_n 120 hK rfl rfl (lk1_n l2 (by decide) (Or.inl rfl)) ?_
            refine x_if_icmp_ge 128 123 hK rfl rfl rfl (by omega) (by omega) (fun c68 => ?_) (fun c68 => ?_)
            · refine x_iload_n 129 hK rfl rfl (lk1_n l3 (by decide) (Or.inl rfl)) ?_
              refine x_istore_n 130 hK rfl rfl _ rfl ?_
              refine x_iload_n 131 hK rfl rfl (lk1_n (lk1_n l2 (by decide) (Or.inl rfl)) (by decide) (Or.inl rfl)) ?_
              refine x_iload 133 hK rfl rfl (lk1_n lk1_s (by decide) (Or.inl rfl)) ?_
              refine x_min 136 hK rfl rfl (Nat.le_of_ble_eq_true rfl) (by omega) (by omega) ?_
              refine x_istore_n 137 hK rfl rfl _ rfl ?_
              refine x_iinc 140 hK rfl rfl (lk1_n (lk1_n (lk1_n l4 (by decide) (Or.inl rfl)) (by decide) (Or.inl rfl)) (by decide) (Or.inl rfl)) _ rfl ?_
              refine x_goto 70 hK rfl rfl ?_
              have tt : lvT fd ea n (gi h 171 7) i = (luF fd ea i ((gi h 171 7) - 1)) := by unfold lvT; first | (rw [if_pos (by omega), if_pos (by omega)]; done) | (rw [if_pos (by omega), if_neg (by omega)]; done) | (rw [if_neg (by omega), if_pos (by omega)]; done) | (rw [if_neg (by omega), if_neg (by omega)]; done)
              have eb : (min s (luF fd ea i ((gi h 171 7) - 1))) = s := by omega
              have en : (lvF fd ea n (gi h 171 7) (i + 1).toNat) = ((min s (luF fd ea i ((gi h 171 7) - 1))), w) := by rw [eb, lvF_s i0.1, e0 (by omega), tt]; exact if_neg (by show ¬ (luF fd ea i ((gi h 171 7) - 1)) < s; omega)
              exact ih _ (by omega) (min s (luF fd ea i ((gi h 171 7) - 1))) w (i + 1) _ _ rfl (n0) (by omega) (fun _ => en) (fun y => absurd y (by omega)) (by omega) (by omega) (lk1_n (lk1_n (lk1_n (lk1_n l0 (by decide) (Or.inl rfl)) (by decide) (Or.inl rfl)) (by decide) (Or.inl rfl)) (by decide) (Or.inl rfl)) (lk1_n (lk1_n (lk1_n (lk1_n l1 (by decide) (Or.inl rfl)) (by decide) (Or.inl rfl)) (by decide) (Or.inl rfl)) (by decide) (Or.inl rfl)) (lk1_n lk1_s (by decide) (Or.inl rfl)) (lk1_n (lk1_n lk1_s (by decide) (Or.inl rfl)) (by decide) (Or.inl rfl)) lk1_s (hG4) (hF4)
            · refine x_iload 125 hK rfl rfl (lk1_n l4 (by decide) (Or.inl rfl)) ?_
              refine x_goto 129 hK rfl rfl ?_
              refine x_istore_n 130 hK rfl rfl _ rfl ?_
              refine x_iload_n 131 hK rfl rfl (lk1_n (lk1_n l2 (by decide) (Or.inl rfl)) (by decide) (Or.inl rfl)) ?_
              refine x_iload 133 hK rfl rfl (lk1_n lk1_s (by decide) (Or.inl rfl)) ?_
              refine x_min 136 hK rfl rfl (Nat.le_of_ble_eq_true rfl) (by omega) (by omega) ?_
              refine x_istore_n 137 hK rfl rfl _ rfl ?_
              refine x_iinc 140 hK rfl rfl (lk1_n (lk1_n (lk1_n l4 (by decide) (Or.inl rfl)) (by decide) (Or.inl rfl)) (by decide) (Or.inl rfl)) _ rfl ?_
              refine x_goto 70 hK rfl rfl ?_
              have tt : lvT fd ea n (gi h 171 7) i = (luF fd ea i ((gi h 171 7) - 1)) := by unfold lvT; first | (rw [if_pos (by omega), if_pos (by omega)]; done) | (rw [if_pos (by omega), if_neg (by omega)]; done) | (rw [if_neg (by omega), if_pos (by omega)]; done) | (rw [if_neg (by omega), if_neg (by omega)]; done)
              have eb : (min s (luF fd ea i ((gi h 171 7) - 1))) = (luF fd ea i ((gi h 171 7) - 1)) := by omega
              have en : (lvF fd ea n (gi h 171 7) (i + 1).toNat) = ((min s (luF fd ea i ((gi h 171 7) - 1))), i) := by rw [eb, lvF_s i0.1, e0 (by omega), tt]; exact if_pos (by show (luF fd ea i ((gi h 171 7) - 1)) < s; omega)
              exact ih _ (by omega) (min s (luF fd ea i ((gi h 171 7) - 1))) i (i + 1) _ _ rfl (n0) (by omega) (fun _ => en) (fun y => absurd y (by omega)) (by omega) (by omega) (lk1_n (lk1_n (lk1_n (lk1_n l0 (by decide) (Or.inl rfl)) (by decide) (Or.inl rfl)) (by decide) (Or.inl rfl)) (by decide) (Or.inl rfl)) (lk1_n (lk1_n (lk1_n (lk1_n l1 (by decide) (Or.inl rfl)) (by decide) (Or.inl rfl)) (by decide) (Or.inl rfl)) (by decide) (Or.inl rfl)) (lk1_n lk1_s (by decide) (Or.inl rfl)) (lk1_n (lk1_n lk1_s (by decide) (Or.inl rfl)) (by decide) (Or.inl rfl)) lk1_s (hG4) (hF4)
        · refine x_iconst 91 hK rfl rfl ?_
          refine x_goto 96 hK rfl rfl ?_
          refine x_iload_n 97 hK rfl rfl l1 ?_
          refine x_iconst 98 hK rfl rfl ?_
          refine x_if_icmp_ne 110 101 hK rfl rfl rfl (by omega) (by omega) (fun _ => ?_) (fun c => by omega)
          refine x_iload 112 hK rfl rfl l4 ?_
          have me595 : gi h4 171 7 = (gi h 171 7) := m4
          have lb595 := luF_b (fd := fd) (ea := ea) (a := 0) (b := i) (m := (gi h 171 7)) (by omega) (by omega) g9.2 (fun j hj => (hf j hj).2) (fun j hj => (he j hj).2) (by omega)
          refine x_callV 115 hK hmono rfl rfl [.ref 171, .int (I 0), .int (I i)] [] rfl rfl (Nat.le_of_ble_eq_true rfl) (Nat.le_of_ble_eq_true rfl) rfl (sp_171 (h := h4) hG4) (CLd_le (Nat.le_of_ble_eq_true rfl) (ctX11_lastsForF hSP hG4 (fd := fd) (ea := ea) (a := 0) (z := i) (by rw [me595]; exact (fun j hj => by rw [show gi h4 178 (41 + j) = gi h 178 (41 + j) from FRM_gi hF4 (r := 61) rfl rfl]; exact hf j hj)) (by rw [me595]; exact (fun j hj => by rw [show gi h4 177 j = gi h 177 j from FRM_gi hF4 (r := 60) rfl rfl]; exact he j hj)) (by omega) (by omega) (by rw [me595]; omega))) ?_
          rintro v9 h9 ⟨e9, rfl⟩
          rw [e9]
          clear e9
          refine x_istore 117 hK rfl rfl _ rfl ?_
          refine x_iload 119 hK rfl rfl lk1_s ?_
          refine x_iload_n 120 hK rfl rfl (lk1_n l2 (by decide) (Or.inl rfl)) ?_
          refine x_if_icmp_ge 128 123 hK rfl rfl rfl (by omega) (by omega) (fun c98 => ?_) (fun c98 => ?_)
          · refine x_iload_n 129 hK rfl rfl (lk1_n l3 (by decide) (Or.inl rfl)) ?_
            refine x_istore_n 130 hK rfl rfl _ rfl ?_
            refine x_iload_n 131 hK rfl rfl (lk1_n (lk1_n l2 (by decide) (Or.inl rfl)) (by decide) (Or.inl rfl)) ?_
            refine x_iload 133 hK rfl rfl (lk1_n lk1_s (by decide) (Or.inl rfl)) ?_
            refine x_min 136 hK rfl rfl (Nat.le_of_ble_eq_true rfl) (by omega) (by omega) ?_
            refine x_istore_n 137 hK rfl rfl _ rfl ?_
            refine x_iinc 140 hK rfl rfl (lk1_n (lk1_n (lk1_n l4 (by decide) (Or.inl rfl)) (by decide) (Or.inl rfl)) (by decide) (Or.inl rfl)) _ rfl ?_
            refine x_goto 70 hK rfl rfl ?_
            have tt : lvT fd ea n (gi h 171 7) i = (luF fd ea 0 i) := by unfold lvT; first | (rw [if_pos (by omega), if_pos (by omega)]; done) | (rw [if_pos (by omega), if_neg (by omega)]; done) | (rw [if_neg (by omega), if_pos (by omega)]; done) | (rw [if_neg (by omega), if_neg (by omega)]; done)
            have eb : (min s (luF fd ea 0 i)) = s := by omega
            have en : (lvF fd ea n (gi h 171 7) (i + 1).toNat) = ((min s (luF fd ea 0 i)), w) := by rw [eb, lvF_s i0.1, e0 (by omega), tt]; exact if_neg (by show ¬ (luF fd ea 0 i) < s; omega)
            exact ih _ (by omega) (min s (luF fd ea 0 i)) w (i + 1) _ _ rfl (n0) (by omega) (fun _ => en) (fun y => absurd y (by omega)) (by omega) (by omega) (lk1_n (lk1_n (lk1_n (lk1_n l0 (by decide) (Or.inl rfl)) (by decide) (Or.inl rfl)) (by decide) (Or.inl rfl)) (by decide) (Or.inl rfl)) (lk1_n (lk1_n (lk1_n (lk1_n l1 (by decide) (Or.inl rfl)) (by decide) (Or.inl rfl)) (by decide) (Or.inl rfl)) (by decide) (Or.inl rfl)) (lk1_n lk1_s (by decide) (Or.inl rfl)) (lk1_n (lk1_n lk1_s (by decide) (Or.inl rfl)) (by decide) (Or.inl rfl)) lk1_s (hG4) (hF4)
          · refine x_iload 125 hK rfl rfl (lk1_n l4 (by decide) (Or.inl rfl)) ?_
            refine x_goto 129 hK rfl rfl ?_
            refine x_istore_n 130 hK rfl rfl _ rfl ?_
            refine x_iload_n 131 hK rfl rfl (lk1_n (lk1_n l2 (by decide) (Or.inl rfl)) (by decide) (Or.inl rfl)) ?_
            refine x_iload 133 hK rfl rfl (lk1_n lk1_s (by decide) (Or.inl rfl)) ?_
            refine x_min 136 hK rfl rfl (Nat.le_of_ble_eq_true rfl) (by omega) (by omega) ?_
            refine x_istore_n 137 hK rfl rfl _ rfl ?_
            refine x_iinc 140 hK rfl rfl (lk1_n (lk1_n (lk1_n l4 (by decide) (Or.inl rfl)) (by decide) (Or.inl rfl)) (by decide) (Or.inl rfl)) _ rfl ?_
            refine x_goto 70 hK rfl rfl ?_
            have tt : lvT fd ea n (gi h 171 7) i = (luF fd ea 0 i) := by unfold lvT; first | (rw [if_pos (by omega), if_pos (by omega)]; done) | (rw [if_pos (by omega), if_neg (by omega)]; done) | (rw [if_neg (by omega), if_pos (by omega)]; done) | (rw [if_neg (by omega), if_neg (by omega)]; done)
            have eb : (min s (luF fd ea 0 i)) = (luF fd ea 0 i) := by omega
            have en : (lvF fd ea n (gi h 171 7) (i + 1).toNat) = ((min s (luF fd ea 0 i)), i) := by rw [eb, lvF_s i0.1, e0 (by omega), tt]; exact if_pos (by show (luF fd ea 0 i) < s; omega)
            exact ih _ (by omega) (min s (luF fd ea 0 i)) i (i + 1) _ _ rfl (n0) (by omega) (fun _ => en) (fun y => absurd y (by omega)) (by omega) (by omega) (lk1_n (lk1_n (lk1_n (lk1_n l0 (by decide) (Or.inl rfl)) (by decide) (Or.inl rfl)) (by decide) (Or.inl rfl)) (by decide) (Or.inl rfl)) (lk1_n (lk1_n (lk1_n (lk1_n l1 (by decide) (Or.inl rfl)) (by decide) (Or.inl rfl)) (by decide) (Or.inl rfl)) (by decide) (Or.inl rfl)) (lk1_n lk1_s (by decide) (Or.inl rfl)) (lk1_n (lk1_n lk1_s (by decide) (Or.inl rfl)) (by decide) (Or.inl rfl)) lk1_s (hG4) (hF4)
  refine x_aload_n 1 hK rfl rfl rfl ?_
  refine x_iconst 2 hK rfl rfl ?_
  refine x_putI 5 hK rfl rfl (sp_171 (h := h) hG) ?_
  refine x_iload_n 6 hK rfl rfl rfl ?_
  refine x_i2l 7 hK rfl rfl (by omega) ?_
  refine x_lconstE 8 0 hK rfl rfl rfl ?_
  refine x_ldc2_w 11 hK rfl rfl ?_
  have hGp596 : GD gE gRL sh (wI h 171 0 0) := GD_w1 (hG) (r := 54) rfl (by omega) rfl (by omega) (by omega)
  refine x_callS 14 hK hmono rfl (Or.inl rfl) rfl [.long (J n), .long (J 0), .long (J 3)] [] rfl rfl (Nat.le_of_ble_eq_true rfl) (Nat.le_of_ble_eq_true rfl) (CLd_le (Nat.le_of_ble_eq_true rfl) (ctX11_in (by omega) (by omega) (by omega))) ?_
  rintro v9 h9 ⟨e9, ⟨rfl, i1597, i2597⟩ | ⟨rfl, i1597⟩⟩ <;> rw [e9] <;> clear e9
  · refine x_if_eq 24 17 hK rfl rfl rfl (by omega) (fun c => by omega) (fun _ => ?_)
    refine x_aload_n 18 hK rfl rfl rfl ?_
    have g598 := gri (0) (8) hG (a := 171) (r := 54) (k := 7) rfl rfl
    refine x_getE 21 hK rfl (Or.inl rfl) rfl (sp_171 (h := h) hG) (e := (gi h 171 7)) (gi_k (by decide) _) ?_
    refine x_if_ne 26 24 hK rfl rfl rfl (by omega) (fun c12 => ?_) (fun c12 => ?_)
    · refine x_iload_n 27 hK rfl rfl rfl ?_
      refine x_iconst 28 hK rfl rfl ?_
      refine x_if_icmp_ne 45 31 hK rfl rfl rfl (by omega) (by omega) (fun c15 => ?_) (fun c15 => ?_)
      · refine x_ldc_w 48 hK rfl rfl ?_
        refine x_istore_n 49 hK rfl rfl [(2, .int (I 99999)), (0, .ref 171), (1, .int (I n))] rfl ?_
        refine x_iload_n 50 hK rfl rfl rfl ?_
        refine x_iconst 51 hK rfl rfl ?_
        refine x_if_icmp_ne 65 54 hK rfl rfl rfl (by omega) (by omega) (fun _ => ?_) (fun c => by omega)
        refine x_iconst 66 hK rfl rfl ?_
        refine x_istore_n 67 hK rfl rfl [(3, .int (I (-1))), (2, .int (I 99999)), (0, .ref 171), (1, .int (I n))] rfl ?_
        refine x_iconst 68 hK rfl rfl ?_
        refine x_istore 70 hK rfl rfl [(4, .int (I 0)), (3, .int (I (-1))), (2, .int (I 99999)), (0, .ref 171), (1, .int (I n))] rfl ?_
        exact loop _ 99999 (-1) 0 _ _ rfl (⟨⟨by omega, by omega⟩, by omega⟩) (by omega) (fun _ => rfl) (fun y => absurd y (by omega)) (by omega) (by omega) rfl rfl rfl rfl rfl (GD_w1 (hG) (r := 54) rfl (by omega) rfl (by omega) (by omega)) (FRM_w ((FRM.rf : FRM gRL [(0, 54, 0, 0), (0, 54, 1, 1), (1, 55, 0, 39)] h h)) (r := 54) rfl rfl)
      · refine x_aload_n 32 hK rfl rfl rfl ?_
        refine x_iconst 33 hK rfl rfl ?_
        refine x_aload_n 34 hK rfl rfl rfl ?_
        refine x_getE 37 hK rfl (Or.inl rfl) rfl (sp_171 (h := h) hG) (e := (gi h 171 7)) (gi_k (by decide) _) ?_
        refine x_iconst 38 hK rfl rfl ?_
        refine x_isub 39 hK rfl rfl ?_
        have hGp600 : GD gE gRL sh (wI h 171 0 0) := GD_w1 (hG) (r := 54) rfl (by omega) rfl (by omega) (by omega)
        have me599 : gi (wI h 171 0 0) 171 7 = (gi h 171 7) := gi_k (by decide) _
        have lb599 := luF_b (fd := fd) (ea := ea) (a := 0) (b := ((gi h 171 7) - 1)) (m := (gi h 171 7)) (by omega) (by omega) g9.2 (fun j hj => (hf j hj).2) (fun j hj => (he j hj).2) (by omega)
        refine x_callV 42 hK hmono rfl rfl [.ref 171, .int (I 0), .int (I ((gi h 171 7) - 1))] [] rfl rfl (Nat.le_of_ble_eq_true rfl) (Nat.le_of_ble_eq_true rfl) rfl (sp_171 (h := h) hG) (CLd_le (Nat.le_of_ble_eq_true rfl) (ctX11_lastsForF hSP hGp600 (fd := fd) (ea := ea) (a := 0) (z := ((gi h 171 7) - 1)) (by rw [me599]; exact (fun j hj => by rw [show gi (wI h 171 0 0) 178 (41 + j) = gi h 178 (41 + j) from gi_a (by decide) _]; exact hf j hj)) (by rw [me599]; exact (fun j hj => by rw [show gi (wI h 171 0 0) 177 j = gi h 177 j from gi_a (by decide) _]; exact he j hj)) (by omega) (by omega) (by rw [me599]; omega))) ?_
        rintro v9 h9 ⟨e9, rfl⟩
        rw [e9]
        clear e9
        refine x_goto 48 hK rfl rfl ?_
        refine x_istore_n 49 hK rfl rfl [(2, .int (I (luF fd ea 0 ((gi h 171 7) - 1)))), (0, .ref 171), (1, .int (I n))] rfl ?_
        refine x_iload_n 50 hK rfl rfl rfl ?_
        refine x_iconst 51 hK rfl rfl ?_
        refine x_if_icmp_ne 65 54 hK rfl rfl rfl (by omega) (by omega) (fun c => by omega) (fun _ => ?_)
        refine x_iload_n 55 hK rfl rfl rfl ?_
        refine x_ldc_w 58 hK rfl rfl ?_
        refine x_if_icmp_ge 65 61 hK rfl rfl rfl (by omega) (by omega) (fun c40 => ?_) (fun c40 => ?_)
        · refine x_iconst 66 hK rfl rfl ?_
          refine x_istore_n 67 hK rfl rfl [(3, .int (I (-1))), (2, .int (I (luF fd ea 0 ((gi h 171 7) - 1)))), (0, .ref 171), (1, .int (I n))] rfl ?_
          refine x_iconst 68 hK rfl rfl ?_
          refine x_istore 70 hK rfl rfl [(4, .int (I 0)), (3, .int (I (-1))), (2, .int (I (luF fd ea 0 ((gi h 171 7) - 1)))), (0, .ref 171), (1, .int (I n))] rfl ?_
          exact loop _ (luF fd ea 0 ((gi h 171 7) - 1)) (-1) 0 _ _ rfl (⟨⟨by omega, by omega⟩, by omega⟩) (by omega) (fun y => absurd y (by omega)) (fun y => by
            rw [y]
            have z := lv_3 (fd := fd) (ea := ea) (ms := gi h 171 7) (by omega) ((gi h 171 7).toNat - 1)
            rw [show (gi h 171 7).toNat - 1 + 1 = (gi h 171 7).toNat by omega] at z
            rw [z]
            first | (rw [if_pos (by omega)]; done) | (rw [if_neg (by omega)]; exact Prod.ext (by show (99999 : Int) = _; omega) rfl)) (by omega) (by omega) rfl rfl rfl rfl rfl (GD_w1 (hG) (r := 54) rfl (by omega) rfl (by omega) (by omega)) (FRM_w ((FRM.rf : FRM gRL [(0, 54, 0, 0), (0, 54, 1, 1), (1, 55, 0, 39)] h h)) (r := 54) rfl rfl)
        · refine x_iconst 62 hK rfl rfl ?_
          refine x_goto 66 hK rfl rfl ?_
          refine x_istore_n 67 hK rfl rfl [(3, .int (I 0)), (2, .int (I (luF fd ea 0 ((gi h 171 7) - 1)))), (0, .ref 171), (1, .int (I n))] rfl ?_
          refine x_iconst 68 hK rfl rfl ?_
          refine x_istore 70 hK rfl rfl [(4, .int (I 0)), (3, .int (I 0)), (2, .int (I (luF fd ea 0 ((gi h 171 7) - 1)))), (0, .ref 171), (1, .int (I n))] rfl ?_
          exact loop _ (luF fd ea 0 ((gi h 171 7) - 1)) 0 0 _ _ rfl (⟨⟨by omega, by omega⟩, by omega⟩) (by omega) (fun y => absurd y (by omega)) (fun y => by
            rw [y]
            have z := lv_3 (fd := fd) (ea := ea) (ms := gi h 171 7) (by omega) ((gi h 171 7).toNat - 1)
            rw [show (gi h 171 7).toNat - 1 + 1 = (gi h 171 7).toNat by omega] at z
            rw [z]
            first | (rw [if_pos (by omega)]; done) | (rw [if_neg (by omega)]; exact Prod.ext (by show (99999 : Int) = _; omega) rfl)) (by omega) (by omega) rfl rfl rfl rfl rfl (GD_w1 (hG) (r := 54) rfl (by omega) rfl (by omega) (by omega)) (FRM_w ((FRM.rf : FRM gRL [(0, 54, 0, 0), (0, 54, 1, 1), (1, 55, 0, 39)] h h)) (r := 54) rfl rfl)
    · refine x_iconst 25 hK rfl rfl ?_
      exact x_iret hK rfl ⟨Or.inl ⟨fun z => by have z1 := z.1; have z2 := z.2; omega, rfl, mrow_k (by decide), gi_k (by decide) _⟩, GD_w1 (hG) (r := 54) rfl (by omega) rfl (by omega) (by omega), FRM_w ((FRM.rf : FRM gRL [(0, 54, 0, 0), (0, 54, 1, 1), (1, 55, 0, 39)] h h)) (r := 54) rfl rfl⟩
  · refine x_if_eq 24 17 hK rfl rfl rfl (by omega) (fun _ => ?_) (fun c => by omega)
    refine x_iconst 25 hK rfl rfl ?_
    exact x_iret hK rfl ⟨Or.inl ⟨fun z => by have z1 := z.1; have z2 := z.2; omega, rfl, mrow_k (by decide), gi_k (by decide) _⟩, GD_w1 (hG) (r := 54) rfl (by omega) rfl (by omega) (by omega), FRM_w ((FRM.rf : FRM gRL [(0, 54, 0, 0), (0, 54, 1, 1), (1, 55, 0, 39)] h h)) (r := 54) rfl rfl⟩
set_option maxRecDepth 4000 in
theorem ctX10_rocksInLaneF {SP : CT} (hSP : MONO SP) {sh : List (Nat × Nat)} {h : aH} (hG : GD gE gRL sh h) {b : Int} {w : WS} {ms : Int} (hS : STR ms (kS h 23) w) (hw : WW b w) (hb : b ≤ 950000) (hml : ∀ j : Nat, (j : Int) < gi h 19 0 → 0 ≤ gi h 20 j ∧ gi h 20 j ≤ 999) {l n : Int} (rl : r32 l) (rn : r32 n) : CLd SP 2 mX10_rocksInLane [.ref 0, .int (I l), .int (I n)] h 0 0 (fun rv h' => h' = h ∧ rv = some (.int (I (rkN (gi h 20) (gi h 21) w.1 n l (gi h 19 0).toNat)))) := by
  refine x_met _ rfl (Nat.le_of_ble_eq_true rfl) (fun K hK => ?_)
  have hmono := MONO_CLd hSP 1
  obtain ⟨k0, k1, k2, k3, k4, k5, k6⟩ := STR_to hG hS
  have hb1 := STR_hb hG hS hw (by omega)
  have lb := hw.2.1
  have w0 := hw.1
  have g19 := gri 0 16 hG (a := 19) (r := 13) (k := 0) rfl rfl
  have loop : ∀ (mz : Nat) (c i : Int) (ls : List (Nat × Value)), ((gi h 19 0 - i).toNat = mz) → (0 ≤ i ∧ i ≤ gi h 19 0) → (c = (rkN (gi h 20) (gi h 21) w.1 n l i.toNat)) → lk ls 0 = some (.ref 0) → lk ls 1 = some (.int (I l)) → lk ls 2 = some (.int (I n)) → lk ls 3 = some (.int (I c)) → lk ls 4 = some (.int (I i)) → K 5 ls [] h 0 0 := by
    intro mz
    induction mz using Nat.strongRecOn with
    | ind mz ih =>
    intro c i ls hm i0 c0 l0 l1 l2 l3 l4
    have cb := rkN_b (gi h 20) (gi h 21) w.1 n l i.toNat
    have gm := fun z : i < gi h 19 0 => hml i.toNat (by omega)
    have gl2 := fun z : i < gi h 19 0 => grn 0 8 hG (a := 21) (r := 15) (k := i.toNat) rfl rfl (by omega)
    refine x_iload 7 hK rfl rfl l4 ?_
    refine x_aload_n 8 hK rfl rfl l0 ?_
    refine x_getR 11 hK rfl rfl (sp_0 (h := h) hG) (rf_0_7 (h := h) hG) ?_
    have g601 := gri (0) (16) hG (a := 19) (r := 13) (k := 0) rfl rfl
    refine x_getE 14 hK rfl (Or.inl rfl) rfl (sp_19 (h := h) hG) (e := (gi h 19 0)) (rfl) ?_
    refine x_if_icmp_ge 72 17 hK rfl rfl rfl (by omega) (by omega) (fun c5 => ?_) (fun c5 => ?_)
    · refine x_iload_n 73 hK rfl rfl l3 ?_
      exact x_iret hK rfl ⟨rfl, by rw [c0, show i.toNat = (gi h 19 0).toNat by omega]⟩
    · refine x_aload_n 18 hK rfl rfl l0 ?_
      refine x_getR 21 hK rfl rfl (sp_0 (h := h) hG) (rf_0_7 (h := h) hG) ?_
      refine x_getR 24 hK rfl rfl (sp_19 (h := h) hG) (rf_19_1 (h := h) hG) ?_
      refine x_iload 26 hK rfl rfl l4 ?_
      have g602 := gi_r h 20 i.toNat
      refine x_ialoadE 27 hK rfl rfl (sp_20 (h := h) hG) (by omega) (by omega) (by omega) (e' := (gi h 20 i.toNat)) (rfl) ?_
      refine x_aload_n 28 hK rfl rfl l0 ?_
      refine x_getR 31 hK rfl rfl (sp_0 (h := h) hG) (rf_0_10 (h := h) hG) ?_
      refine x_getE 34 hK rfl (Or.inl rfl) rfl (sp_23 (h := h) hG) (e := (w.1)) (k0) ?_
      refine x_isub 35 hK rfl rfl ?_
      refine x_istore 37 hK rfl rfl _ rfl ?_
      refine x_aload_n 38 hK rfl rfl (lk1_n l0 (by decide) (Or.inl rfl)) ?_
      refine x_getR 41 hK rfl rfl (sp_0 (h := h) hG) (rf_0_7 (h := h) hG) ?_
      refine x_getR 44 hK rfl rfl (sp_19 (h := h) hG) (rf_19_2 (h := h) hG) ?_
      refine x_iload 46 hK rfl rfl (lk1_n l4 (by decide) (Or.inl rfl)) ?_
      have g603 := grn (0) (8) hG (a := 21) (r := 15) (k := i.toNat) rfl rfl (by omega)
      refine x_ialoadE 47 hK rfl rfl (sp_21 (h := h) hG) (by omega) (by omega) (by omega) (e' := (gi h 21 i.toNat)) (rfl) ?_
      refine x_iload_n 48 hK rfl rfl (lk1_n l1 (by decide) (Or.inl rfl)) ?_
      refine x_if_icmp_ne 66 51 hK rfl rfl rfl (by omega) (by omega) (fun c24 => ?_) (fun c24 => ?_)
      · refine x_iinc 69 hK rfl rfl (lk1_n l4 (by decide) (Or.inl rfl)) _ rfl ?_
        refine x_goto 5 hK rfl rfl ?_
        exact ih _ (by omega) c (i + 1) _ rfl (by omega) (by rw [rkN_s i0.1, if_neg (by omega), c0]; exact (Int.add_zero _).symm) (lk1_n (lk1_n l0 (by decide) (Or.inl rfl)) (by decide) (Or.inl rfl)) (lk1_n (lk1_n l1 (by decide) (Or.inl rfl)) (by decide) (Or.inl rfl)) (lk1_n (lk1_n l2 (by decide) (Or.inl rfl)) (by decide) (Or.inl rfl)) (lk1_n (lk1_n l3 (by decide) (Or.inl rfl)) (by decide) (Or.inl rfl)) lk1_s
      · refine x_iload 53 hK rfl rfl lk1_s ?_
        refine x_iconst 54 hK rfl rfl ?_
        refine x_if_icmp_lt 66 57 hK rfl rfl rfl (by omega) (by omega) (fun c30 => ?_) (fun c30 => ?_)
        · refine x_iinc 69 hK rfl rfl (lk1_n l4 (by decide) (Or.inl rfl)) _ rfl ?_
          refine x_goto 5 hK rfl rfl ?_
          exact ih _ (by omega) c (i + 1) _ rfl (by omega) (by rw [rkN_s i0.1, if_neg (by omega), c0]; exact (Int.add_zero _).symm) (lk1_n (lk1_n l0 (by decide) (Or.inl rfl)) (by decide) (Or.inl rfl)) (lk1_n (lk1_n l1 (by decide) (Or.inl rfl)) (by decide) (Or.inl rfl)) (lk1_n (lk1_n l2 (by decide) (Or.inl rfl)) (by decide) (Or.inl rfl)) (lk1_n (lk1_n l3 (by decide) (Or.inl rfl)) (by decide) (Or.inl rfl)) lk1_s
        · refine x_iload 59 hK rfl rfl lk1_s ?_
          refine x_iload_n 60 hK rfl rfl (lk1_n l2 (by decide) (Or.inl rfl)) ?_
          refine x_if_icmp_gt 66 63 hK rfl rfl rfl (by omega) (by omega) (fun c36 => ?_) (fun c36 => ?_)
          · refine x_iinc 69 hK rfl rfl (lk1_n l4 (by decide) (Or.inl rfl)) _ rfl ?_
            refine x_goto 5 hK rfl rfl ?_
            exact ih _ (by omega) c (i + 1) _ rfl (by omega) (by rw [rkN_s i0.1, if_neg (by omega), c0]; exact (Int.add_zero _).symm) (lk1_n (lk1_n l0 (by decide) (Or.inl rfl)) (by decide) (Or.inl rfl)) (lk1_n (lk1_n l1 (by decide) (Or.inl rfl)) (by decide) (Or.inl rfl)) (lk1_n (lk1_n l2 (by decide) (Or.inl rfl)) (by decide) (Or.inl rfl)) (lk1_n (lk1_n l3 (by decide) (Or.inl rfl)) (by decide) (Or.inl rfl)) lk1_s
          · refine x_iinc 66 hK rfl rfl (lk1_n l3 (by decide) (Or.inl rfl)) _ rfl ?_
            refine x_iinc 69 hK rfl rfl (lk1_n (lk1_n l4 (by decide) (Or.inl rfl)) (by decide) (Or.inl rfl)) _ rfl ?_
            refine x_goto 5 hK rfl rfl ?_
            exact ih _ (by omega) (c + 1) (i + 1) _ rfl (by omega) (by rw [rkN_s i0.1, if_pos (by omega), c0]) (lk1_n (lk1_n (lk1_n l0 (by decide) (Or.inl rfl)) (by decide) (Or.inl rfl)) (by decide) (Or.inl rfl)) (lk1_n (lk1_n (lk1_n l1 (by decide) (Or.inl rfl)) (by decide) (Or.inl rfl)) (by decide) (Or.inl rfl)) (lk1_n (lk1_n (lk1_n l2 (by decide) (Or.inl rfl)) (by decide) (Or.inl rfl)) (by decide) (Or.inl rfl)) (lk1_n lk1_s (by decide) (Or.inl rfl)) lk1_s
  refine x_iconst 1 hK rfl rfl ?_
  refine x_istore_n 2 hK rfl rfl [(3, .int (I 0)), (0, .ref 0), (1, .int (I l)), (2, .int (I n))] rfl ?_
  refine x_iconst 3 hK rfl rfl ?_
  refine x_istore 5 hK rfl rfl [(4, .int (I 0)), (3, .int (I 0)), (0, .ref 0), (1, .int (I l)), (2, .int (I n))] rfl ?_
  exact loop _ 0 0 _ rfl (by omega) (rfl) rfl rfl rfl rfl rfl
set_option maxRecDepth 4000 in
theorem ctX10_apartF {SP : CT} (hSP : MONO SP) {sh : List (Nat × Nat)} {h : aH} (hG : GD gE gRL sh h) {l : Int} (hl : 0 ≤ l ∧ l ≤ 8) : CLd SP 1 mX10_apart [.ref 0, .int (I l)] h 0 0 (fun rv h' => h' = h ∧ rv = some (.int (I (apt (gi h 23 1) l)))) := by
  refine x_met _ rfl (Nat.le_of_ble_eq_true rfl) (fun K hK => ?_)
  have hmono := MONO_CLd hSP 0
  have g1 := gri 0 8 hG (a := 23) (r := 17) (k := 1) rfl rfl
  refine x_iload_n 1 hK rfl rfl rfl ?_
  refine x_aload_n 2 hK rfl rfl rfl ?_
  refine x_getR 5 hK rfl rfl (sp_0 (h := h) hG) (rf_0_10 (h := h) hG) ?_
  have g604 := gri (0) (8) hG (a := 23) (r := 17) (k := 1) rfl rfl
  refine x_getE 8 hK rfl (Or.inl rfl) rfl (sp_23 (h := h) hG) (e := (gi h 23 1)) (rfl) ?_
  refine x_isub 9 hK rfl rfl ?_
  refine x_abs 12 hK rfl rfl (Nat.le_of_ble_eq_true rfl) (by omega) ?_
  exact x_iret hK rfl ⟨rfl, rfl⟩
set_option maxRecDepth 4000 in
theorem ctX10_safestF {SP : CT} (hSP : MONO SP) {sh : List (Nat × Nat)} {h : aH} (hG : GD gE gRL sh h) {b : Int} {w : WS} {ms : Int} (hS : STR ms (kS h 23) w) (hw : WW b w) (hb : b ≤ 950000) (hml : ∀ j : Nat, (j : Int) < gi h 19 0 → 0 ≤ gi h 20 j ∧ gi h 20 j ≤ 999) {n : Int} (rn : r32 n) : CLd SP 4 mX10_safest [.ref 0, .int (I n)] h 0 0 (fun rv h' => ((¬ (1 ≤ n ∧ n ≤ 999) ∧ rv = some (.int (I (-1))) ∧ h' = h) ∨ ((1 ≤ n ∧ n ≤ 999) ∧ ∃ e : Int, rv = some (.int (I e)) ∧ (0 ≤ e ∧ e ≤ 8) ∧ BST (fun l => (rkN (gi h 20) (gi h 21) w.1 n l (gi h 19 0).toNat)) w.2.1 (fun l => 0 ≤ l ∧ l ≤ 8) e ∧ gi h' 3 1 = 2 ∧ crow h' = [(rkN (gi h 20) (gi h 21) w.1 n e (gi h 19 0).toNat), (rkN (gi h 20) (gi h 21) w.1 n (w.2.1) (gi h 19 0).toNat)])) ∧ GD gE gRL sh h' ∧ FRM gRL [(0, 3, 1, 1), (1, 4, 0, 29)] h h') := by
  refine x_met _ rfl (Nat.le_of_ble_eq_true rfl) (fun K hK => ?_)
  have hmono := MONO_CLd hSP 3
  obtain ⟨k0, k1, k2, k3, k4, k5, k6⟩ := STR_to hG hS
  have hb1 := STR_hb hG hS hw (by omega)
  have lb := hw.2.1
  have w0 := hw.1
  have g19 := gri 0 16 hG (a := 19) (r := 13) (k := 0) rfl rfl
  obtain ⟨c, hc⟩ : ∃ c : Int → Int, c = (fun l => (rkN (gi h 20) (gi h 21) w.1 n l (gi h 19 0).toNat)) := ⟨_, rfl⟩
  have hcl : ∀ l, (rkN (gi h 20) (gi h 21) w.1 n l (gi h 19 0).toNat) = c l := fun l => by rw [hc]
  rw [← hc] at hK
  simp only [hcl] at hK
  have cb : ∀ l, 0 ≤ c l ∧ c l ≤ 16 := fun l => by have z := rkN_b (gi h 20) (gi h 21) w.1 n l (gi h 19 0).toNat; rw [hcl] at z; omega
  have loop : ∀ (mz : Nat) (b_ f u i : Int) (ls : List (Nat × Value)), ((9 - i).toNat = mz) → (1 ≤ n ∧ n ≤ 999) → (0 ≤ i ∧ i ≤ 9) → (0 ≤ b_ ∧ b_ ≤ 8) → (f = c b_) → (u = c w.2.1) → (b_ = w.2.1 ∨ (0 ≤ b_ ∧ b_ < i)) → (BST c w.2.1 (fun l => l = w.2.1 ∨ (0 ≤ l ∧ l < i)) b_) → lk ls 0 = some (.ref 0) → lk ls 1 = some (.int (I n)) → lk ls 2 = some (.int (I b_)) → lk ls 3 = some (.int (I f)) → lk ls 4 = some (.int (I u)) → lk ls 5 = some (.int (I i)) → K 41 ls [] h 0 0 := by
    intro mz
    induction mz using Nat.strongRecOn with
    | ind mz ih =>
    intro b_ f u i ls hm n0 i0 b0 f0 u0 mb bs l0 l1 l2 l3 l4 l5
    have ci := cb i
    have cbb := cb b_
    have cbl := cb w.2.1
    have ab : ∀ l, 0 ≤ l → l ≤ 8 → 0 ≤ apt w.2.1 l ∧ apt w.2.1 l ≤ 8 := fun l h1 h2 => by unfold apt; split <;> omega
    refine x_iload 43 hK rfl rfl l5 ?_
    refine x_bipush 45 hK rfl rfl rfl ?_
    refine x_if_icmp_gt 95 48 hK rfl rfl rfl (by omega) (by omega) (fun c3 => ?_) (fun c3 => ?_)
    · refine x_aload_n 96 hK rfl rfl l0 ?_
      refine x_getR 99 hK rfl rfl (sp_0 (h := h) hG) (rf_0_1 (h := h) hG) ?_
      refine x_iload_n 100 hK rfl rfl l3 ?_
      refine x_i2l 101 hK rfl rfl (by omega) ?_
      refine x_iload 103 hK rfl rfl l4 ?_
      refine x_i2l 104 hK rfl rfl (by omega) ?_
      refine x_callV 107 hK hmono rfl rfl [.ref 3, .long (J f), .long (J u)] [] rfl rfl (Nat.le_of_ble_eq_true rfl) (Nat.le_of_ble_eq_true rfl) rfl (sp_3 (h := h) hG) (CLd_le (Nat.le_of_ble_eq_true rfl) (ctX3_tellTwo hSP hG (by omega) (by omega))) ?_
      rintro v605 h605 ⟨rfl, hG605, hF605, t605, s605⟩
      refine x_iload_n 108 hK rfl rfl l2 ?_
      have bf : BST c w.2.1 (fun l => 0 ≤ l ∧ l ≤ 8) b_ := fun l hl => bs l (Or.inr ⟨hl.1, by omega⟩)
      exact x_iret hK rfl ⟨Or.inr ⟨n0, b_, rfl, b0, bf, t605, by rw [← f0, ← u0]; exact s605⟩, hG605, hF605⟩
    · refine x_aload_n 49 hK rfl rfl l0 ?_
      refine x_iload 51 hK rfl rfl l5 ?_
      refine x_iload_n 52 hK rfl rfl l1 ?_
      have cz606 := cb i
      refine x_callV 55 hK hmono rfl rfl [.ref 0, .int (I i), .int (I n)] [] rfl rfl (Nat.le_of_ble_eq_true rfl) (Nat.le_of_ble_eq_true rfl) rfl (sp_0 (h := h) hG) (CLd_le (Nat.le_of_ble_eq_true rfl) (ctX10_rocksInLaneF hSP hG hS hw hb hml (l := i) (n := n) (by omega) rn)) ?_
      rintro v9 h9 ⟨e9, rfl⟩
      rw [e9, hcl i]
      clear e9
      refine x_istore 57 hK rfl rfl _ rfl ?_
      refine x_iload 59 hK rfl rfl lk1_s ?_
      refine x_iload_n 60 hK rfl rfl (lk1_n l3 (by decide) (Or.inl rfl)) ?_
      refine x_if_icmp_lt 83 63 hK rfl rfl rfl (by omega) (by omega) (fun c20 => ?_) (fun c20 => ?_)
      · refine x_iload 85 hK rfl rfl lk1_s ?_
        refine x_istore_n 86 hK rfl rfl _ rfl ?_
        refine x_iload 88 hK rfl rfl (lk1_n (lk1_n l5 (by decide) (Or.inl rfl)) (by decide) (Or.inl rfl)) ?_
        refine x_istore_n 89 hK rfl rfl _ rfl ?_
        refine x_iinc 92 hK rfl rfl (lk1_n (lk1_n (lk1_n l5 (by decide) (Or.inl rfl)) (by decide) (Or.inl rfl)) (by decide) (Or.inl rfl)) _ rfl ?_
        refine x_goto 41 hK rfl rfl ?_
        have ax0 : b_ = w.2.1 → apt w.2.1 b_ = 0 := fun q => by rw [q]; unfold apt; split <;> omega
        have ai0 : apt w.2.1 i = 0 → i = w.2.1 := fun q => by unfold apt at q; split at q <;> omega
        have bn : BST c w.2.1 (fun l => l = w.2.1 ∨ (0 ≤ l ∧ l < i + 1)) i := by
          intro l hl
          have hl : l = w.2.1 ∨ (0 ≤ l ∧ l < i + 1) := hl
          by_cases y : l = i
          · rw [y]
            exact Or.inr ⟨rfl, Or.inr ⟨rfl, Int.le_refl _⟩⟩
          · have hl2 : l = w.2.1 ∨ (0 ≤ l ∧ l < i) := Or.elim hl Or.inl (fun q => Or.inr ⟨q.1, by omega⟩)
            have z := bs l hl2
            omega
        exact ih _ (by omega) i (c i) u (i + 1) _ rfl (n0) (by omega) (by omega) (rfl) (u0) (by omega) (bn) (lk1_n (lk1_n (lk1_n (lk1_n l0 (by decide) (Or.inl rfl)) (by decide) (Or.inl rfl)) (by decide) (Or.inl rfl)) (by decide) (Or.inl rfl)) (lk1_n (lk1_n (lk1_n (lk1_n l1 (by decide) (Or.inl rfl)) (by decide) (Or.inl rfl)) (by decide) (Or.inl rfl)) (by decide) (Or.inl rfl)) (lk1_n lk1_s (by decide) (Or.inl rfl)) (lk1_n (lk1_n lk1_s (by decide) (Or.inl rfl)) (by decide) (Or.inl rfl)) (lk1_n (lk1_n (lk1_n (lk1_n l4 (by decide) (Or.inl rfl)) (by decide) (Or.inl rfl)) (by decide) (Or.inl rfl)) (by decide) (Or.inl rfl)) lk1_s
      · refine x_iload 65 hK rfl rfl lk1_s ?_
        refine x_iload_n 66 hK rfl rfl (lk1_n l3 (by decide) (Or.inl rfl)) ?_
        refine x_if_icmp_ne 89 69 hK rfl rfl rfl (by omega) (by omega) (fun c30 => ?_) (fun c30 => ?_)
        · refine x_iinc 92 hK rfl rfl (lk1_n l5 (by decide) (Or.inl rfl)) _ rfl ?_
          refine x_goto 41 hK rfl rfl ?_
          have ax0 : b_ = w.2.1 → apt w.2.1 b_ = 0 := fun q => by rw [q]; unfold apt; split <;> omega
          have ai0 : apt w.2.1 i = 0 → i = w.2.1 := fun q => by unfold apt at q; split at q <;> omega
          have bn : BST c w.2.1 (fun l => l = w.2.1 ∨ (0 ≤ l ∧ l < i + 1)) b_ := by
            intro l hl
            have hl : l = w.2.1 ∨ (0 ≤ l ∧ l < i + 1) := hl
            by_cases y : l = i
            · rw [y]
              rcases mb with q | q
              · have q1 := ax0 q
                have q2 := ab i (by omega) (by omega)
                by_cases q3 : apt w.2.1 i = 0
                · have q4 := ai0 q3
                  omega
                · omega
              · omega
            · have hl2 : l = w.2.1 ∨ (0 ≤ l ∧ l < i) := Or.elim hl Or.inl (fun q => Or.inr ⟨q.1, by omega⟩)
              have z := bs l hl2
              omega
          exact ih _ (by omega) b_ f u (i + 1) _ rfl (n0) (by omega) (by omega) (f0) (u0) (by omega) (bn) (lk1_n (lk1_n l0 (by decide) (Or.inl rfl)) (by decide) (Or.inl rfl)) (lk1_n (lk1_n l1 (by decide) (Or.inl rfl)) (by decide) (Or.inl rfl)) (lk1_n (lk1_n l2 (by decide) (Or.inl rfl)) (by decide) (Or.inl rfl)) (lk1_n (lk1_n l3 (by decide) (Or.inl rfl)) (by decide) (Or.inl rfl)) (lk1_n (lk1_n l4 (by decide) (Or.inl rfl)) (by decide) (Or.inl rfl)) lk1_s
        · refine x_aload_n 70 hK rfl rfl (lk1_n l0 (by decide) (Or.inl rfl)) ?_
          refine x_iload 72 hK rfl rfl (lk1_n l5 (by decide) (Or.inl rfl)) ?_
          have az607 := ab i (by omega) (by omega)
          refine x_callV 75 hK hmono rfl rfl [.ref 0, .int (I i)] [] rfl rfl (Nat.le_of_ble_eq_true rfl) (Nat.le_of_ble_eq_true rfl) rfl (sp_0 (h := h) hG) (CLd_le (Nat.le_of_ble_eq_true rfl) (ctX10_apartF hSP hG (l := i) (by omega))) ?_
          rintro v9 h9 ⟨e9, rfl⟩
          rw [e9, k1]
          clear e9
          refine x_aload_n 76 hK rfl rfl (lk1_n l0 (by decide) (Or.inl rfl)) ?_
          refine x_iload_n 77 hK rfl rfl (lk1_n l2 (by decide) (Or.inl rfl)) ?_
          have az608 := ab b_ (by omega) (by omega)
          refine x_callV 80 hK hmono rfl rfl [.ref 0, .int (I b_)] [.int (I (apt w.2.1 i))] rfl rfl (Nat.le_of_ble_eq_true rfl) (Nat.le_of_ble_eq_true rfl) rfl (sp_0 (h := h) hG) (CLd_le (Nat.le_of_ble_eq_true rfl) (ctX10_apartF hSP hG (l := b_) (by omega))) ?_
          rintro v9 h9 ⟨e9, rfl⟩
          rw [e9, k1]
          clear e9
          refine x_if_icmp_ge 89 83 hK rfl rfl rfl (by omega) (by omega) (fun c40 => ?_) (fun c40 => ?_)
          · refine x_iinc 92 hK rfl rfl (lk1_n l5 (by decide) (Or.inl rfl)) _ rfl ?_
            refine x_goto 41 hK rfl rfl ?_
            have ax0 : b_ = w.2.1 → apt w.2.1 b_ = 0 := fun q => by rw [q]; unfold apt; split <;> omega
            have ai0 : apt w.2.1 i = 0 → i = w.2.1 := fun q => by unfold apt at q; split at q <;> omega
            have bn : BST c w.2.1 (fun l => l = w.2.1 ∨ (0 ≤ l ∧ l < i + 1)) b_ := by
              intro l hl
              have hl : l = w.2.1 ∨ (0 ≤ l ∧ l < i + 1) := hl
              by_cases y : l = i
              · rw [y]
                rcases mb with q | q
                · have q1 := ax0 q
                  have q2 := ab i (by omega) (by omega)
                  by_cases q3 : apt w.2.1 i = 0
                  · have q4 := ai0 q3
                    omega
                  · omega
                · omega
              · have hl2 : l = w.2.1 ∨ (0 ≤ l ∧ l < i) := Or.elim hl Or.inl (fun q => Or.inr ⟨q.1, by omega⟩)
                have z := bs l hl2
                omega
            exact ih _ (by omega) b_ f u (i + 1) _ rfl (n0) (by omega) (by omega) (f0) (u0) (by omega) (bn) (lk1_n (lk1_n l0 (by decide) (Or.inl rfl)) (by decide) (Or.inl rfl)) (lk1_n (lk1_n l1 (by decide) (Or.inl rfl)) (by decide) (Or.inl rfl)) (lk1_n (lk1_n l2 (by decide) (Or.inl rfl)) (by decide) (Or.inl rfl)) (lk1_n (lk1_n l3 (by decide) (Or.inl rfl)) (by decide) (Or.inl rfl)) (lk1_n (lk1_n l4 (by decide) (Or.inl rfl)) (by decide) (Or.inl rfl)) lk1_s
          · refine x_iload 85 hK rfl rfl lk1_s ?_
            refine x_istore_n 86 hK rfl rfl _ rfl ?_
            refine x_iload 88 hK rfl rfl (lk1_n (lk1_n l5 (by decide) (Or.inl rfl)) (by decide) (Or.inl rfl)) ?_
            refine x_istore_n 89 hK rfl rfl _ rfl ?_
            refine x_iinc 92 hK rfl rfl (lk1_n (lk1_n (lk1_n l5 (by decide) (Or.inl rfl)) (by decide) (Or.inl rfl)) (by decide) (Or.inl rfl)) _ rfl ?_
            refine x_goto 41 hK rfl rfl ?_
            have ax0 : b_ = w.2.1 → apt w.2.1 b_ = 0 := fun q => by rw [q]; unfold apt; split <;> omega
            have ai0 : apt w.2.1 i = 0 → i = w.2.1 := fun q => by unfold apt at q; split at q <;> omega
            have bn : BST c w.2.1 (fun l => l = w.2.1 ∨ (0 ≤ l ∧ l < i + 1)) i := by
              intro l hl
              have hl : l = w.2.1 ∨ (0 ≤ l ∧ l < i + 1) := hl
              by_cases y : l = i
              · rw [y]
                exact Or.inr ⟨rfl, Or.inr ⟨rfl, Int.le_refl _⟩⟩
              · have hl2 : l = w.2.1 ∨ (0 ≤ l ∧ l < i) := Or.elim hl Or.inl (fun q => Or.inr ⟨q.1, by omega⟩)
                have z := bs l hl2
                omega
            exact ih _ (by omega) i (c i) u (i + 1) _ rfl (n0) (by omega) (by omega) (rfl) (u0) (by omega) (bn) (lk1_n (lk1_n (lk1_n (lk1_n l0 (by decide) (Or.inl rfl)) (by decide) (Or.inl rfl)) (by decide) (Or.inl rfl)) (by decide) (Or.inl rfl)) (lk1_n (lk1_n (lk1_n (lk1_n l1 (by decide) (Or.inl rfl)) (by decide) (Or.inl rfl)) (by decide) (Or.inl rfl)) (by decide) (Or.inl rfl)) (lk1_n lk1_s (by decide) (Or.inl rfl)) (lk1_n (lk1_n lk1_s (by decide) (Or.inl rfl)) (by decide) (Or.inl rfl)) (lk1_n (lk1_n (lk1_n (lk1_n l4 (by decide) (Or.inl rfl)) (by decide) (Or.inl rfl)) (by decide) (Or.inl rfl)) (by decide) (Or.inl rfl)) lk1_s
  refine x_iload_n 1 hK rfl rfl rfl ?_
  refine x_iconst 2 hK rfl rfl ?_
  refine x_if_icmp_lt 12 5 hK rfl rfl rfl (by omega) (by omega) (fun c3 => ?_) (fun c3 => ?_)
  · refine x_iconst 13 hK rfl rfl ?_
    exact x_iret hK rfl ⟨Or.inl ⟨by omega, rfl, rfl⟩, hG, FRM.rf⟩
  · refine x_iload_n 6 hK rfl rfl rfl ?_
    refine x_sipush 9 hK rfl rfl rfl ?_
    refine x_if_icmp_le 14 12 hK rfl rfl rfl (by omega) (by omega) (fun c8 => ?_) (fun c8 => ?_)
    · refine x_aload_n 15 hK rfl rfl rfl ?_
      refine x_getR 18 hK rfl rfl (sp_0 (h := h) hG) (rf_0_10 (h := h) hG) ?_
      refine x_getE 21 hK rfl (Or.inl rfl) rfl (sp_23 (h := h) hG) (e := (w.2.1)) (k1) ?_
      refine x_istore_n 22 hK rfl rfl [(2, .int (I (w.2.1))), (0, .ref 0), (1, .int (I n))] rfl ?_
      refine x_aload_n 23 hK rfl rfl rfl ?_
      refine x_aload_n 24 hK rfl rfl rfl ?_
      refine x_getR 27 hK rfl rfl (sp_0 (h := h) hG) (rf_0_10 (h := h) hG) ?_
      refine x_getE 30 hK rfl (Or.inl rfl) rfl (sp_23 (h := h) hG) (e := (w.2.1)) (k1) ?_
      refine x_iload_n 31 hK rfl rfl rfl ?_
      have cz609 := cb (w.2.1)
      refine x_callV 34 hK hmono rfl rfl [.ref 0, .int (I (w.2.1)), .int (I n)] [] rfl rfl (Nat.le_of_ble_eq_true rfl) (Nat.le_of_ble_eq_true rfl) rfl (sp_0 (h := h) hG) (CLd_le (Nat.le_of_ble_eq_true rfl) (ctX10_rocksInLaneF hSP hG hS hw hb hml (l := (w.2.1)) (n := n) (by omega) rn)) ?_
      rintro v9 h9 ⟨e9, rfl⟩
      rw [e9, hcl (w.2.1)]
      clear e9
      refine x_istore_n 35 hK rfl rfl [(3, .int (I (c (w.2.1)))), (2, .int (I (w.2.1))), (0, .ref 0), (1, .int (I n))] rfl ?_
      refine x_iload_n 36 hK rfl rfl rfl ?_
      refine x_istore 38 hK rfl rfl [(4, .int (I (c (w.2.1)))), (3, .int (I (c (w.2.1)))), (2, .int (I (w.2.1))), (0, .ref 0), (1, .int (I n))] rfl ?_
      refine x_iconst 39 hK rfl rfl ?_
      refine x_istore 41 hK rfl rfl [(5, .int (I 0)), (4, .int (I (c (w.2.1)))), (3, .int (I (c (w.2.1)))), (2, .int (I (w.2.1))), (0, .ref 0), (1, .int (I n))] rfl ?_
      exact loop _ (w.2.1) (c (w.2.1)) (c (w.2.1)) 0 _ rfl (⟨by omega, by omega⟩) (by omega) (by omega) (rfl) (rfl) (by omega) (fun l hl => by
        rcases hl with q | q
        · rw [q]; exact Or.inr ⟨rfl, Or.inr ⟨rfl, Int.le_refl _⟩⟩
        · omega) rfl rfl rfl rfl rfl rfl
    · refine x_iconst 13 hK rfl rfl ?_
      exact x_iret hK rfl ⟨Or.inl ⟨by omega, rfl, rfl⟩, hG, FRM.rf⟩
set_option maxRecDepth 4000 in
theorem ctX11_rocksInF {SP : CT} (hSP : MONO SP) {sh : List (Nat × Nat)} {h : aH} (hG : GD gE gRL sh h) (h0 : 0 ≤ gi h 178 0 ∧ gi h 178 0 ≤ 1000000) {l n : Int} (rl : r32 l) (rn : r32 n) : CLd SP 2 mX11_rocksIn [.ref 171, .int (I l), .int (I n)] h 0 0 (fun rv h' => h' = h ∧ rv = some (.int (I (rkN (gi h 175) (gi h 176) (gi h 178 0) n l (gi h 171 6).toNat)))) := by
  refine x_met _ rfl (Nat.le_of_ble_eq_true rfl) (fun K hK => ?_)
  have hmono := MONO_CLd hSP 1
  have g6 := gri 0 16 hG (a := 171) (r := 54) (k := 6) rfl rfl
  have loop : ∀ (mz : Nat) (c i : Int) (ls : List (Nat × Value)), ((gi h 171 6 - i).toNat = mz) → (0 ≤ i ∧ i ≤ gi h 171 6) → (c = (rkN (gi h 175) (gi h 176) (gi h 178 0) n l i.toNat)) → lk ls 0 = some (.ref 171) → lk ls 1 = some (.int (I l)) → lk ls 2 = some (.int (I n)) → lk ls 3 = some (.int (I c)) → lk ls 4 = some (.int (I i)) → K 5 ls [] h 0 0 := by
    intro mz
    induction mz using Nat.strongRecOn with
    | ind mz ih =>
    intro c i ls hm i0 c0 l0 l1 l2 l3 l4
    have cb := rkN_b (gi h 175) (gi h 176) (gi h 178 0) n l i.toNat
    refine x_iload 7 hK rfl rfl l4 ?_
    refine x_aload_n 8 hK rfl rfl l0 ?_
    have g610 := gri (0) (16) hG (a := 171) (r := 54) (k := 6) rfl rfl
    refine x_getE 11 hK rfl (Or.inl rfl) rfl (sp_171 (h := h) hG) (e := (gi h 171 6)) (rfl) ?_
    refine x_if_icmp_ge 75 14 hK rfl rfl rfl (by omega) (by omega) (fun c4 => ?_) (fun c4 => ?_)
    · refine x_iload_n 76 hK rfl rfl l3 ?_
      exact x_iret hK rfl ⟨rfl, by rw [c0, show i.toNat = (gi h 171 6).toNat by omega]⟩
    · refine x_iload_n 15 hK rfl rfl l3 ?_
      refine x_aload_n 16 hK rfl rfl l0 ?_
      refine x_getR 19 hK rfl rfl (sp_171 (h := h) hG) (rf_171_12 (h := h) hG) ?_
      refine x_iload 21 hK rfl rfl l4 ?_
      have g611 := gi_r h 176 i.toNat
      refine x_ialoadE 22 hK rfl rfl (sp_176 (h := h) hG) (by omega) (by omega) (by omega) (e' := (gi h 176 i.toNat)) (rfl) ?_
      refine x_iload_n 23 hK rfl rfl l1 ?_
      refine x_if_icmp_ne 63 26 hK rfl rfl rfl (by omega) (by omega) (fun c13 => ?_) (fun c13 => ?_)
      · refine x_iconst 64 hK rfl rfl ?_
        refine x_callS 67 hK hmono rfl (Or.inl rfl) rfl [.int (I 0)] [.int (I c)] rfl rfl (Nat.le_of_ble_eq_true rfl) (Nat.le_of_ble_eq_true rfl) (CLd_le (Nat.le_of_ble_eq_true rfl) (ctX11_flag (by omega))) ?_
        rintro v9 h9 ⟨e9, rfl⟩
        rw [e9]
        clear e9
        refine x_iadd 68 hK rfl rfl ?_
        refine x_istore_n 69 hK rfl rfl _ rfl ?_
        refine x_iinc 72 hK rfl rfl (lk1_n l4 (by decide) (Or.inl rfl)) _ rfl ?_
        refine x_goto 5 hK rfl rfl ?_
        exact ih _ (by omega) (c + 0) (i + 1) _ rfl (by omega) (by rw [rkN_s i0.1, if_neg (by omega), c0]) (lk1_n (lk1_n l0 (by decide) (Or.inl rfl)) (by decide) (Or.inl rfl)) (lk1_n (lk1_n l1 (by decide) (Or.inl rfl)) (by decide) (Or.inl rfl)) (lk1_n (lk1_n l2 (by decide) (Or.inl rfl)) (by decide) (Or.inl rfl)) (lk1_n lk1_s (by decide) (Or.inl rfl)) lk1_s
      · refine x_aload_n 27 hK rfl rfl l0 ?_
        refine x_getR 30 hK rfl rfl (sp_171 (h := h) hG) (rf_171_11 (h := h) hG) ?_
        refine x_iload 32 hK rfl rfl l4 ?_
        have g613 := grn (0) (999) hG (a := 175) (r := 58) (k := i.toNat) rfl rfl (by omega)
        refine x_ialoadE 33 hK rfl rfl (sp_175 (h := h) hG) (by omega) (by omega) (by omega) (e' := (gi h 175 i.toNat)) (rfl) ?_
        refine x_i2l 34 hK rfl rfl (by omega) ?_
        refine x_aload_n 35 hK rfl rfl l0 ?_
        refine x_getR 38 hK rfl rfl (sp_171 (h := h) hG) (rf_171_14 (h := h) hG) ?_
        refine x_iconst 39 hK rfl rfl ?_
        have g614 := gi_r h 178 0
        refine x_ialoadE 40 hK rfl rfl (sp_178 (h := h) hG) (by omega) (by omega) (by omega) (e' := (gi h 178 0)) (rfl) ?_
        refine x_iconst 41 hK rfl rfl ?_
        refine x_iadd 42 hK rfl rfl ?_
        refine x_i2l 43 hK rfl rfl (by omega) ?_
        refine x_aload_n 44 hK rfl rfl l0 ?_
        refine x_getR 47 hK rfl rfl (sp_171 (h := h) hG) (rf_171_14 (h := h) hG) ?_
        refine x_iconst 48 hK rfl rfl ?_
        refine x_ialoadE 49 hK rfl rfl (sp_178 (h := h) hG) (by omega) (by omega) (by omega) (e' := (gi h 178 0)) (rfl) ?_
        refine x_i2l 50 hK rfl rfl (by omega) ?_
        refine x_iload_n 51 hK rfl rfl l2 ?_
        refine x_i2l 52 hK rfl rfl (by omega) ?_
        refine x_ladd 53 hK rfl rfl ?_
        refine x_callS 56 hK hmono rfl (Or.inl rfl) rfl [.long (J (gi h 175 i.toNat)), .long (J ((gi h 178 0) + 1)), .long (J ((gi h 178 0) + n))] [.int (I c)] rfl rfl (Nat.le_of_ble_eq_true rfl) (Nat.le_of_ble_eq_true rfl) (CLd_le (Nat.le_of_ble_eq_true rfl) (ctX11_in (by omega) (by omega) (by omega))) ?_
        rintro v9 h9 ⟨e9, ⟨rfl, i1615, i2615⟩ | ⟨rfl, i1615⟩⟩ <;> rw [e9] <;> clear e9
        · refine x_if_eq 63 59 hK rfl rfl rfl (by omega) (fun c => by omega) (fun _ => ?_)
          refine x_iconst 60 hK rfl rfl ?_
          refine x_goto 64 hK rfl rfl ?_
          refine x_callS 67 hK hmono rfl (Or.inl rfl) rfl [.int (I 1)] [.int (I c)] rfl rfl (Nat.le_of_ble_eq_true rfl) (Nat.le_of_ble_eq_true rfl) (CLd_le (Nat.le_of_ble_eq_true rfl) (ctX11_flag (by omega))) ?_
          rintro v9 h9 ⟨e9, rfl⟩
          rw [e9]
          clear e9
          refine x_iadd 68 hK rfl rfl ?_
          refine x_istore_n 69 hK rfl rfl _ rfl ?_
          refine x_iinc 72 hK rfl rfl (lk1_n l4 (by decide) (Or.inl rfl)) _ rfl ?_
          refine x_goto 5 hK rfl rfl ?_
          exact ih _ (by omega) (c + 1) (i + 1) _ rfl (by omega) (by rw [rkN_s i0.1, if_pos (by omega), c0]) (lk1_n (lk1_n l0 (by decide) (Or.inl rfl)) (by decide) (Or.inl rfl)) (lk1_n (lk1_n l1 (by decide) (Or.inl rfl)) (by decide) (Or.inl rfl)) (lk1_n (lk1_n l2 (by decide) (Or.inl rfl)) (by decide) (Or.inl rfl)) (lk1_n lk1_s (by decide) (Or.inl rfl)) lk1_s
        · refine x_if_eq 63 59 hK rfl rfl rfl (by omega) (fun _ => ?_) (fun c => by omega)
          refine x_iconst 64 hK rfl rfl ?_
          refine x_callS 67 hK hmono rfl (Or.inl rfl) rfl [.int (I 0)] [.int (I c)] rfl rfl (Nat.le_of_ble_eq_true rfl) (Nat.le_of_ble_eq_true rfl) (CLd_le (Nat.le_of_ble_eq_true rfl) (ctX11_flag (by omega))) ?_
          rintro v9 h9 ⟨e9, rfl⟩
          rw [e9]
          clear e9
          refine x_iadd 68 hK rfl rfl ?_
          refine x_istore_n 69 hK rfl rfl _ rfl ?_
          refine x_iinc 72 hK rfl rfl (lk1_n l4 (by decide) (Or.inl rfl)) _ rfl ?_
          refine x_goto 5 hK rfl rfl ?_
          exact ih _ (by omega) (c + 0) (i + 1) _ rfl (by omega) (by rw [rkN_s i0.1, if_neg (by omega), c0]) (lk1_n (lk1_n l0 (by decide) (Or.inl rfl)) (by decide) (Or.inl rfl)) (lk1_n (lk1_n l1 (by decide) (Or.inl rfl)) (by decide) (Or.inl rfl)) (lk1_n (lk1_n l2 (by decide) (Or.inl rfl)) (by decide) (Or.inl rfl)) (lk1_n lk1_s (by decide) (Or.inl rfl)) lk1_s
  refine x_iconst 1 hK rfl rfl ?_
  refine x_istore_n 2 hK rfl rfl [(3, .int (I 0)), (0, .ref 171), (1, .int (I l)), (2, .int (I n))] rfl ?_
  refine x_iconst 3 hK rfl rfl ?_
  refine x_istore 5 hK rfl rfl [(4, .int (I 0)), (3, .int (I 0)), (0, .ref 171), (1, .int (I l)), (2, .int (I n))] rfl ?_
  exact loop _ 0 0 _ rfl (by omega) (rfl) rfl rfl rfl rfl rfl
set_option maxRecDepth 4000 in
theorem ctX11_safestF {SP : CT} (hSP : MONO SP) {sh : List (Nat × Nat)} {h : aH} (hG : GD gE gRL sh h) (h0 : 0 ≤ gi h 178 0 ∧ gi h 178 0 ≤ 1000000) {n : Int} (rn : r32 n) : CLd SP 4 mX11_safest [.ref 171, .int (I n)] h 0 0 (fun rv h' => ((¬ (1 ≤ n ∧ n ≤ 999) ∧ rv = some (.int (I (-1))) ∧ mrow h' = mrow h ∧ gi h' 171 1 = gi h 171 1) ∨ ((1 ≤ n ∧ n ≤ 999) ∧ ∃ e : Int, rv = some (.int (I e)) ∧ (0 ≤ e ∧ e ≤ 8) ∧ BST (fun l => (rkN (gi h 175) (gi h 176) (gi h 178 0) n l (gi h 171 6).toNat)) (gi h 178 1) (fun l => 0 ≤ l ∧ l ≤ 8) e ∧ mrow h' = [(rkN (gi h 175) (gi h 176) (gi h 178 0) n e (gi h 171 6).toNat), (rkN (gi h 175) (gi h 176) (gi h 178 0) n (gi h 178 1) (gi h 171 6).toNat)])) ∧ GD gE gRL sh h' ∧ FRM gRL [(0, 54, 0, 0), (0, 54, 1, 1), (1, 55, 0, 39)] h h') := by
  refine x_met _ rfl (Nat.le_of_ble_eq_true rfl) (fun K hK => ?_)
  have hmono := MONO_CLd hSP 3
  have g6 := gri 0 16 hG (a := 171) (r := 54) (k := 6) rfl rfl
  have gl := gri 0 8 hG (a := 178) (r := 61) (k := 1) rfl rfl
  obtain ⟨c, hc⟩ : ∃ c : Int → Int, c = (fun l => (rkN (gi h 175) (gi h 176) (gi h 178 0) n l (gi h 171 6).toNat)) := ⟨_, rfl⟩
  have hcl : ∀ l, (rkN (gi h 175) (gi h 176) (gi h 178 0) n l (gi h 171 6).toNat) = c l := fun l => by rw [hc]
  rw [← hc] at hK
  simp only [hcl] at hK
  have cb : ∀ l, 0 ≤ c l ∧ c l ≤ 16 := fun l => by have z := rkN_b (gi h 175) (gi h 176) (gi h 178 0) n l (gi h 171 6).toNat; rw [hcl] at z; omega
  have loop : ∀ (mz : Nat) (b_ i : Int) (h4 : aH) (ls : List (Nat × Value)), ((9 - i).toNat = mz) → (1 ≤ n ∧ n ≤ 999) → (1 ≤ i ∧ i ≤ 9) → (0 ≤ b_ ∧ b_ < i) → (BST c (gi h 178 1) (fun l => 0 ≤ l ∧ l < i) b_) → (mrow h4 = mrow h) → (gi h4 171 1 = gi h 171 1) → lk ls 0 = some (.ref 171) → lk ls 1 = some (.int (I n)) → lk ls 2 = some (.int (I b_)) → lk ls 3 = some (.int (I i)) → GD gE gRL sh h4 → FRM gRL [(0, 54, 0, 0), (0, 54, 1, 1), (1, 55, 0, 39)] h h4 → K 23 ls [] h4 0 0 := by
    intro mz
    induction mz using Nat.strongRecOn with
    | ind mz ih =>
    intro b_ i h4 ls hm n0 i0 b0 bs rw4 r14 l0 l1 l2 l3 hG4 hF4
    have ci := cb i
    have cbb := cb b_
    have ab : ∀ l, 0 ≤ l → l ≤ 8 → 0 ≤ apt (gi h 178 1) l ∧ apt (gi h 178 1) l ≤ 8 := fun l h1 h2 => by unfold apt; split <;> omega
    have ai := ab i
    have abb := ab b_
    refine x_iload_n 24 hK rfl rfl l3 ?_
    refine x_bipush 26 hK rfl rfl rfl ?_
    refine x_if_icmp_ge 96 29 hK rfl rfl rfl (by omega) (by omega) (fun c3 => ?_) (fun c3 => ?_)
    · refine x_aload_n 97 hK rfl rfl l0 ?_
      refine x_iconst 98 hK rfl rfl ?_
      refine x_putI 101 hK rfl rfl (sp_171 (h := h4) hG4) ?_
      refine x_aload_n 102 hK rfl rfl l0 ?_
      refine x_aload_n 103 hK rfl rfl l0 ?_
      refine x_iload_n 104 hK rfl rfl l2 ?_
      refine x_iload_n 105 hK rfl rfl l1 ?_
      have hGp619 : GD gE gRL sh (wI h4 171 1 0) := GD_w1 (hG4) (r := 54) rfl (by omega) rfl (by omega) (by omega)
      have cz618 := cb b_
      have ez618 : rkN (gi (wI h4 171 1 0) 175) (gi (wI h4 171 1 0) 176) (gi (wI h4 171 1 0) 178 0) n b_ (gi (wI h4 171 1 0) 171 6).toNat = c b_ := by rw [← hcl, show gi (wI h4 171 1 0) 175 = gi h 175 from funext fun j => (gi_a (by decide) _).trans (FRM_gi hF4 (r := 58) rfl rfl), show gi (wI h4 171 1 0) 176 = gi h 176 from funext fun j => (gi_a (by decide) _).trans (FRM_gi hF4 (r := 59) rfl rfl), show gi (wI h4 171 1 0) 178 0 = gi h 178 0 from (gi_a (by decide) _).trans (FRM_gi hF4 (r := 61) rfl rfl), show gi (wI h4 171 1 0) 171 6 = gi h 171 6 from (gi_k (by decide) _).trans (FRM_gi hF4 (r := 54) rfl rfl)]
      refine x_callV 108 hK hmono rfl rfl [.ref 171, .int (I b_), .int (I n)] [.ref 171] rfl rfl (Nat.le_of_ble_eq_true rfl) (Nat.le_of_ble_eq_true rfl) rfl (sp_171 (h := h4) hG4) (CLd_le (Nat.le_of_ble_eq_true rfl) (ctX11_rocksInF hSP hGp619 (by rw [show gi (wI h4 171 1 0) 178 0 = gi h 178 0 from (gi_a (by decide) _).trans (FRM_gi hF4 (r := 61) rfl rfl)]; exact h0) (l := b_) (n := n) (by omega) rn)) ?_
      rintro v9 h9 ⟨e9, rfl⟩
      rw [e9, ez618]
      clear e9
      refine x_i2l 109 hK rfl rfl (by omega) ?_
      have hGp620 : GD gE gRL sh (wI h4 171 1 0) := GD_w1 (hG4) (r := 54) rfl (by omega) rfl (by omega) (by omega)
      have z622 : gi (wI h4 171 1 0) 171 1 = 0 := gi_same (by omega)
      have z622r : mrow (wI h4 171 1 0) = [] := mrow_0 (gi_same (by omega))
      refine x_callV 112 hK hmono rfl rfl [.ref 171, .long (J (c b_))] [] rfl rfl (Nat.le_of_ble_eq_true rfl) (Nat.le_of_ble_eq_true rfl) rfl (sp_171 (h := h4) hG4) (CLd_le (Nat.le_of_ble_eq_true rfl) (ctX11_entersF hSP hGp620 (by omega) (by omega))) ?_
      rintro v621 h621 ⟨rfl, hG621, hF621, t621, s621⟩
      rw [z622] at t621
      rw [z622r] at s621
      replace t621 : gi h621 171 1 = 1 := t621
      change mrow h621 = [(c b_)] at s621
      refine x_aload_n 113 hK rfl rfl l0 ?_
      refine x_aload_n 114 hK rfl rfl l0 ?_
      refine x_aload_n 115 hK rfl rfl l0 ?_
      refine x_getR 118 hK rfl rfl (sp_171 (h := h621) hG621) (rf_171_14 (h := h621) hG621) ?_
      refine x_iconst 119 hK rfl rfl ?_
      have g623 := gri (0) (8) hG (a := 178) (r := 61) (k := 1) rfl rfl
      refine x_ialoadE 120 hK rfl rfl (sp_178 (h := h621) hG621) (by omega) (by omega) (by omega) (e' := (gi h 178 1)) ((FRM_gi hF621 (r := 61) rfl rfl).trans ((gi_a (by decide) _).trans (FRM_gi hF4 (r := 61) rfl rfl))) ?_
      refine x_iload_n 121 hK rfl rfl l1 ?_
      have cz624 := cb (gi h 178 1)
      have ez624 : rkN (gi h621 175) (gi h621 176) (gi h621 178 0) n (gi h 178 1) (gi h621 171 6).toNat = c (gi h 178 1) := by rw [← hcl, show gi h621 175 = gi h 175 from funext fun j => (FRM_gi hF621 (r := 58) rfl rfl).trans ((gi_a (by decide) _).trans (FRM_gi hF4 (r := 58) rfl rfl)), show gi h621 176 = gi h 176 from funext fun j => (FRM_gi hF621 (r := 59) rfl rfl).trans ((gi_a (by decide) _).trans (FRM_gi hF4 (r := 59) rfl rfl)), show gi h621 178 0 = gi h 178 0 from (FRM_gi hF621 (r := 61) rfl rfl).trans ((gi_a (by decide) _).trans (FRM_gi hF4 (r := 61) rfl rfl)), show gi h621 171 6 = gi h 171 6 from (FRM_gi hF621 (r := 54) rfl rfl).trans ((gi_k (by decide) _).trans (FRM_gi hF4 (r := 54) rfl rfl))]
      refine x_callV 124 hK hmono rfl rfl [.ref 171, .int (I (gi h 178 1)), .int (I n)] [.ref 171] rfl rfl (Nat.le_of_ble_eq_true rfl) (Nat.le_of_ble_eq_true rfl) rfl (sp_171 (h := h621) hG621) (CLd_le (Nat.le_of_ble_eq_true rfl) (ctX11_rocksInF hSP hG621 (by rw [show gi h621 178 0 = gi h 178 0 from (FRM_gi hF621 (r := 61) rfl rfl).trans ((gi_a (by decide) _).trans (FRM_gi hF4 (r := 61) rfl rfl))]; exact h0) (l := (gi h 178 1)) (n := n) (by omega) rn)) ?_
      rintro v9 h9 ⟨e9, rfl⟩
      rw [e9, ez624]
      clear e9
      refine x_i2l 125 hK rfl rfl (by omega) ?_
      have z626 : gi h621 171 1 = 1 := t621
      have z626r : mrow h621 = [(c b_)] := s621
      refine x_callV 128 hK hmono rfl rfl [.ref 171, .long (J (c (gi h 178 1)))] [] rfl rfl (Nat.le_of_ble_eq_true rfl) (Nat.le_of_ble_eq_true rfl) rfl (sp_171 (h := h621) hG621) (CLd_le (Nat.le_of_ble_eq_true rfl) (ctX11_entersF hSP hG621 (by omega) (by omega))) ?_
      rintro v625 h625 ⟨rfl, hG625, hF625, t625, s625⟩
      rw [z626] at t625
      rw [z626r] at s625
      replace t625 : gi h625 171 1 = 2 := t625
      change mrow h625 = [(c b_), (c (gi h 178 1))] at s625
      refine x_iload_n 129 hK rfl rfl l2 ?_
      have bf : BST c (gi h 178 1) (fun l => 0 ≤ l ∧ l ≤ 8) b_ := fun l hl => bs l ⟨hl.1, by omega⟩
      exact x_iret hK rfl ⟨Or.inr ⟨n0, b_, rfl, by omega, bf, s625⟩, hG625, ((FRM_w (hF4) (r := 54) rfl rfl).trans ((hF621).mono rfl)).trans ((hF625).mono rfl)⟩
    · refine x_aload_n 30 hK rfl rfl l0 ?_
      refine x_iload_n 31 hK rfl rfl l3 ?_
      refine x_iload_n 32 hK rfl rfl l1 ?_
      have cz627 := cb i
      have ez627 : rkN (gi h4 175) (gi h4 176) (gi h4 178 0) n i (gi h4 171 6).toNat = c i := by rw [← hcl, show gi h4 175 = gi h 175 from funext fun j => FRM_gi hF4 (r := 58) rfl rfl, show gi h4 176 = gi h 176 from funext fun j => FRM_gi hF4 (r := 59) rfl rfl, show gi h4 178 0 = gi h 178 0 from FRM_gi hF4 (r := 61) rfl rfl, show gi h4 171 6 = gi h 171 6 from FRM_gi hF4 (r := 54) rfl rfl]
      refine x_callV 35 hK hmono rfl rfl [.ref 171, .int (I i), .int (I n)] [] rfl rfl (Nat.le_of_ble_eq_true rfl) (Nat.le_of_ble_eq_true rfl) rfl (sp_171 (h := h4) hG4) (CLd_le (Nat.le_of_ble_eq_true rfl) (ctX11_rocksInF hSP hG4 (by rw [show gi h4 178 0 = gi h 178 0 from FRM_gi hF4 (r := 61) rfl rfl]; exact h0) (l := i) (n := n) (by omega) rn)) ?_
      rintro v9 h9 ⟨e9, rfl⟩
      rw [e9, ez627]
      clear e9
      refine x_aload_n 36 hK rfl rfl l0 ?_
      refine x_iload_n 37 hK rfl rfl l2 ?_
      refine x_iload_n 38 hK rfl rfl l1 ?_
      have cz628 := cb b_
      have ez628 : rkN (gi h4 175) (gi h4 176) (gi h4 178 0) n b_ (gi h4 171 6).toNat = c b_ := by rw [← hcl, show gi h4 175 = gi h 175 from funext fun j => FRM_gi hF4 (r := 58) rfl rfl, show gi h4 176 = gi h 176 from funext fun j => FRM_gi hF4 (r := 59) rfl rfl, show gi h4 178 0 = gi h 178 0 from FRM_gi hF4 (r := 61) rfl rfl, show gi h4 171 6 = gi h 171 6 from FRM_gi hF4 (r := 54) rfl rfl]
      refine x_callV 41 hK hmono rfl rfl [.ref 171, .int (I b_), .int (I n)] [.int (I (c i))] rfl rfl (Nat.le_of_ble_eq_true rfl) (Nat.le_of_ble_eq_true rfl) rfl (sp_171 (h := h4) hG4) (CLd_le (Nat.le_of_ble_eq_true rfl) (ctX11_rocksInF hSP hG4 (by rw [show gi h4 178 0 = gi h 178 0 from FRM_gi hF4 (r := 61) rfl rfl]; exact h0) (l := b_) (n := n) (by omega) rn)) ?_
      rintro v9 h9 ⟨e9, rfl⟩
      rw [e9, ez628]
      clear e9
      refine x_isub 42 hK rfl rfl ?_
      refine x_istore 44 hK rfl rfl _ rfl ?_
      refine x_iload_n 45 hK rfl rfl (lk1_n l3 (by decide) (Or.inl rfl)) ?_
      refine x_aload_n 46 hK rfl rfl (lk1_n l0 (by decide) (Or.inl rfl)) ?_
      refine x_getR 49 hK rfl rfl (sp_171 (h := h4) hG4) (rf_171_14 (h := h4) hG4) ?_
      refine x_iconst 50 hK rfl rfl ?_
      have g629 := gri (0) (8) hG (a := 178) (r := 61) (k := 1) rfl rfl
      refine x_ialoadE 51 hK rfl rfl (sp_178 (h := h4) hG4) (by omega) (by omega) (by omega) (e' := (gi h 178 1)) (FRM_gi hF4 (r := 61) rfl rfl) ?_
      refine x_isub 52 hK rfl rfl ?_
      refine x_abs 55 hK rfl rfl (Nat.le_of_ble_eq_true rfl) (by omega) ?_
      refine x_iload_n 56 hK rfl rfl (lk1_n l2 (by decide) (Or.inl rfl)) ?_
      refine x_aload_n 57 hK rfl rfl (lk1_n l0 (by decide) (Or.inl rfl)) ?_
      refine x_getR 60 hK rfl rfl (sp_171 (h := h4) hG4) (rf_171_14 (h := h4) hG4) ?_
      refine x_iconst 61 hK rfl rfl ?_
      refine x_ialoadE 62 hK rfl rfl (sp_178 (h := h4) hG4) (by omega) (by omega) (by omega) (e' := (gi h 178 1)) (FRM_gi hF4 (r := 61) rfl rfl) ?_
      refine x_isub 63 hK rfl rfl ?_
      refine x_abs 66 hK rfl rfl (Nat.le_of_ble_eq_true rfl) (by omega) ?_
      refine x_isub 67 hK rfl rfl ?_
      refine x_istore 69 hK rfl rfl _ rfl ?_
      refine x_iload 71 hK rfl rfl (lk1_n lk1_s (by decide) (Or.inl rfl)) ?_
      refine x_if_lt 84 74 hK rfl rfl rfl (by omega) (fun c53 => ?_) (fun c53 => ?_)
      · refine x_iload_n 85 hK rfl rfl (lk1_n (lk1_n l3 (by decide) (Or.inl rfl)) (by decide) (Or.inl rfl)) ?_
        refine x_goto 89 hK rfl rfl ?_
        refine x_istore_n 90 hK rfl rfl _ rfl ?_
        refine x_iinc 93 hK rfl rfl (lk1_n (lk1_n (lk1_n l3 (by decide) (Or.inl rfl)) (by decide) (Or.inl rfl)) (by decide) (Or.inl rfl)) _ rfl ?_
        refine x_goto 23 hK rfl rfl ?_
        unfold apt at ai abb
        have ei : apt (gi h 178 1) i = (if 0 ≤ i - gi h 178 1 then i - gi h 178 1 else -(i - gi h 178 1)) := rfl
        have eb : apt (gi h 178 1) b_ = (if 0 ≤ b_ - gi h 178 1 then b_ - gi h 178 1 else -(b_ - gi h 178 1)) := rfl
        have bn : BST c (gi h 178 1) (fun l => 0 ≤ l ∧ l < i + 1) i := by
          intro l hl
          have hl : 0 ≤ l ∧ l < i + 1 := hl
          by_cases y : l = i
          · rw [y]
            exact Or.inr ⟨rfl, Or.inr ⟨rfl, Int.le_refl _⟩⟩
          · have hl2 : 0 ≤ l ∧ l < i := by omega
            have z := bs l hl2
            omega
        exact ih _ (by omega) i (i + 1) _ _ rfl (n0) (by omega) (by omega) (bn) (rw4) (r14) (lk1_n (lk1_n (lk1_n (lk1_n l0 (by decide) (Or.inl rfl)) (by decide) (Or.inl rfl)) (by decide) (Or.inl rfl)) (by decide) (Or.inl rfl)) (lk1_n (lk1_n (lk1_n (lk1_n l1 (by decide) (Or.inl rfl)) (by decide) (Or.inl rfl)) (by decide) (Or.inl rfl)) (by decide) (Or.inl rfl)) (lk1_n lk1_s (by decide) (Or.inl rfl)) lk1_s (hG4) (hF4)
      · refine x_iload 76 hK rfl rfl (lk1_n lk1_s (by decide) (Or.inl rfl)) ?_
        refine x_if_ne 88 79 hK rfl rfl rfl (by omega) (fun c61 => ?_) (fun c61 => ?_)
        · refine x_iload_n 89 hK rfl rfl (lk1_n (lk1_n l2 (by decide) (Or.inl rfl)) (by decide) (Or.inl rfl)) ?_
          refine x_istore_n 90 hK rfl rfl _ rfl ?_
          refine x_iinc 93 hK rfl rfl (lk1_n (lk1_n (lk1_n l3 (by decide) (Or.inl rfl)) (by decide) (Or.inl rfl)) (by decide) (Or.inl rfl)) _ rfl ?_
          refine x_goto 23 hK rfl rfl ?_
          unfold apt at ai abb
          have ei : apt (gi h 178 1) i = (if 0 ≤ i - gi h 178 1 then i - gi h 178 1 else -(i - gi h 178 1)) := rfl
          have eb : apt (gi h 178 1) b_ = (if 0 ≤ b_ - gi h 178 1 then b_ - gi h 178 1 else -(b_ - gi h 178 1)) := rfl
          have bn : BST c (gi h 178 1) (fun l => 0 ≤ l ∧ l < i + 1) b_ := by
            intro l hl
            have hl : 0 ≤ l ∧ l < i + 1 := hl
            by_cases y : l = i
            · rw [y]
              omega
            · have hl2 : 0 ≤ l ∧ l < i := by omega
              have z := bs l hl2
              omega
          exact ih _ (by omega) b_ (i + 1) _ _ rfl (n0) (by omega) (by omega) (bn) (rw4) (r14) (lk1_n (lk1_n (lk1_n (lk1_n l0 (by decide) (Or.inl rfl)) (by decide) (Or.inl rfl)) (by decide) (Or.inl rfl)) (by decide) (Or.inl rfl)) (lk1_n (lk1_n (lk1_n (lk1_n l1 (by decide) (Or.inl rfl)) (by decide) (Or.inl rfl)) (by decide) (Or.inl rfl)) (by decide) (Or.inl rfl)) (lk1_n lk1_s (by decide) (Or.inl rfl)) lk1_s (hG4) (hF4)
        · refine x_iload 81 hK rfl rfl lk1_s ?_
          refine x_if_ge 88 84 hK rfl rfl rfl (by omega) (fun c68 => ?_) (fun c68 => ?_)
          · refine x_iload_n 89 hK rfl rfl (lk1_n (lk1_n l2 (by decide) (Or.inl rfl)) (by decide) (Or.inl rfl)) ?_
            refine x_istore_n 90 hK rfl rfl _ rfl ?_
            refine x_iinc 93 hK rfl rfl (lk1_n (lk1_n (lk1_n l3 (by decide) (Or.inl rfl)) (by decide) (Or.inl rfl)) (by decide) (Or.inl rfl)) _ rfl ?_
            refine x_goto 23 hK rfl rfl ?_
            unfold apt at ai abb
            have ei : apt (gi h 178 1) i = (if 0 ≤ i - gi h 178 1 then i - gi h 178 1 else -(i - gi h 178 1)) := rfl
            have eb : apt (gi h 178 1) b_ = (if 0 ≤ b_ - gi h 178 1 then b_ - gi h 178 1 else -(b_ - gi h 178 1)) := rfl
            have bn : BST c (gi h 178 1) (fun l => 0 ≤ l ∧ l < i + 1) b_ := by
              intro l hl
              have hl : 0 ≤ l ∧ l < i + 1 := hl
              by_cases y : l = i
              · rw [y]
                omega
              · have hl2 : 0 ≤ l ∧ l < i := by omega
                have z := bs l hl2
                omega
            exact ih _ (by omega) b_ (i + 1) _ _ rfl (n0) (by omega) (by omega) (bn) (rw4) (r14) (lk1_n (lk1_n (lk1_n (lk1_n l0 (by decide) (Or.inl rfl)) (by decide) (Or.inl rfl)) (by decide) (Or.inl rfl)) (by decide) (Or.inl rfl)) (lk1_n (lk1_n (lk1_n (lk1_n l1 (by decide) (Or.inl rfl)) (by decide) (Or.inl rfl)) (by decide) (Or.inl rfl)) (by decide) (Or.inl rfl)) (lk1_n lk1_s (by decide) (Or.inl rfl)) lk1_s (hG4) (hF4)
          · refine x_iload_n 85 hK rfl rfl (lk1_n (lk1_n l3 (by decide) (Or.inl rfl)) (by decide) (Or.inl rfl)) ?_
            refine x_goto 89 hK rfl rfl ?_
            refine x_istore_n 90 hK rfl rfl _ rfl ?_
            refine x_iinc 93 hK rfl rfl (lk1_n (lk1_n (lk1_n l3 (by decide) (Or.inl rfl)) (by decide) (Or.inl rfl)) (by decide) (Or.inl rfl)) _ rfl ?_
            refine x_goto 23 hK rfl rfl ?_
            unfold apt at ai abb
            have ei : apt (gi h 178 1) i = (if 0 ≤ i - gi h 178 1 then i - gi h 178 1 else -(i - gi h 178 1)) := rfl
            have eb : apt (gi h 178 1) b_ = (if 0 ≤ b_ - gi h 178 1 then b_ - gi h 178 1 else -(b_ - gi h 178 1)) := rfl
            have bn : BST c (gi h 178 1) (fun l => 0 ≤ l ∧ l < i + 1) i := by
              intro l hl
              have hl : 0 ≤ l ∧ l < i + 1 := hl
              by_cases y : l = i
              · rw [y]
                exact Or.inr ⟨rfl, Or.inr ⟨rfl, Int.le_refl _⟩⟩
              · have hl2 : 0 ≤ l ∧ l < i := by omega
                have z := bs l hl2
                omega
            exact ih _ (by omega) i (i + 1) _ _ rfl (n0) (by omega) (by omega) (bn) (rw4) (r14) (lk1_n (lk1_n (lk1_n (lk1_n l0 (by decide) (Or.inl rfl)) (by decide) (Or.inl rfl)) (by decide) (Or.inl rfl)) (by decide) (Or.inl rfl)) (lk1_n (lk1_n (lk1_n (lk1_n l1 (by decide) (Or.inl rfl)) (by decide) (Or.inl rfl)) (by decide) (Or.inl rfl)) (by decide) (Or.inl rfl)) (lk1_n lk1_s (by decide) (Or.inl rfl)) lk1_s (hG4) (hF4)
  refine x_aload_n 1 hK rfl rfl rfl ?_
  refine x_iconst 2 hK rfl rfl ?_
  refine x_putI 5 hK rfl rfl (sp_171 (h := h) hG) ?_
  refine x_iload_n 6 hK rfl rfl rfl ?_
  refine x_i2l 7 hK rfl rfl (by omega) ?_
  refine x_lconstE 8 1 hK rfl rfl rfl ?_
  refine x_ldc2_w 11 hK rfl rfl ?_
  have hGp630 : GD gE gRL sh (wI h 171 0 0) := GD_w1 (hG) (r := 54) rfl (by omega) rfl (by omega) (by omega)
  refine x_callS 14 hK hmono rfl (Or.inl rfl) rfl [.long (J n), .long (J 1), .long (J 999)] [] rfl rfl (Nat.le_of_ble_eq_true rfl) (Nat.le_of_ble_eq_true rfl) (CLd_le (Nat.le_of_ble_eq_true rfl) (ctX11_in (by omega) (by omega) (by omega))) ?_
  rintro v9 h9 ⟨e9, ⟨rfl, i1631, i2631⟩ | ⟨rfl, i1631⟩⟩ <;> rw [e9] <;> clear e9
  · refine x_if_ne 19 17 hK rfl rfl rfl (by omega) (fun _ => ?_) (fun c => by omega)
    refine x_iconst 20 hK rfl rfl ?_
    refine x_istore_n 21 hK rfl rfl [(2, .int (I 0)), (0, .ref 171), (1, .int (I n))] rfl ?_
    refine x_iconst 22 hK rfl rfl ?_
    refine x_istore_n 23 hK rfl rfl [(3, .int (I 1)), (2, .int (I 0)), (0, .ref 171), (1, .int (I n))] rfl ?_
    exact loop _ 0 1 _ _ rfl (⟨by omega, by omega⟩) (by omega) (by omega) (fun l hl => by
      have q : l = 0 := by omega
      rw [q]; exact Or.inr ⟨rfl, Or.inr ⟨rfl, Int.le_refl _⟩⟩) (mrow_k (by decide)) (gi_k (by decide) _) rfl rfl rfl rfl (GD_w1 (hG) (r := 54) rfl (by omega) rfl (by omega) (by omega)) (FRM_w ((FRM.rf : FRM gRL [(0, 54, 0, 0), (0, 54, 1, 1), (1, 55, 0, 39)] h h)) (r := 54) rfl rfl)
  · refine x_if_ne 19 17 hK rfl rfl rfl (by omega) (fun c => by omega) (fun _ => ?_)
    refine x_iconst 18 hK rfl rfl ?_
    exact x_iret hK rfl ⟨Or.inl ⟨by omega, rfl, mrow_k (by decide), gi_k (by decide) _⟩, GD_w1 (hG) (r := 54) rfl (by omega) rfl (by omega) (by omega), FRM_w ((FRM.rf : FRM gRL [(0, 54, 0, 0), (0, 54, 1, 1), (1, 55, 0, 39)] h h)) (r := 54) rfl rfl⟩
set_option maxRecDepth 4000 in
theorem ctX10_comesF {SP : CT} (hSP : MONO SP) {sh : List (Nat × Nat)} {h : aH} (hG : GD gE gRL sh h) {s u : Nat} (hP : PT h) (hX : XI h) (hD : DR h s u) (h0 : 0 ≤ gi h 23 0) {n : Int} (rn : r32 n) : CLd SP 7 mX10_comes [.ref 0, .int (I n)] h 0 0 (fun rv h' => ((¬ (0 ≤ n ∧ n ≤ 12) ∧ rv = some (.int (I (-1))) ∧ h' = h) ∨ ((0 ≤ n ∧ n ≤ 12) ∧ rv = some (.int (I (if (dlA h (gi h 23 0)) ≤ n then (gi h 171 3) - 1 else (((gi h 171 3) - 1) * n) / (dlA h (gi h 23 0))))) ∧ gi h' 3 1 = 2)) ∧ GD gE gRL sh h' ∧ FRM gRL [(0, 3, 1, 1), (0, 8, 3, 3), (0, 10, 0, 39), (1, 4, 0, 29)] h h') := by
  refine x_met _ rfl (Nat.le_of_ble_eq_true rfl) (fun K hK => ?_)
  have hmono := MONO_CLd hSP 6
  have hD2 := hD
  obtain ⟨h5, hu, pS, pL, ⟨c0, c1, c2⟩, r0, r1, r2⟩ := hD2
  have g3 := gri 2 40 hG (a := 171) (r := 54) (k := 3) rfl rfl
  have g4 := gri 0 10 hG (a := 171) (r := 54) (k := 4) rfl rfl
  have g0 := gi_r h 23 0
  have db := dlA_b h (gi h 23 0)
  have cm := fun z : 0 ≤ n ∧ n ≤ 12 => cm_b (S := gi h 171 3) (n := n) (d := dlA h (gi h 23 0)) g3 z db
  have loop : ∀ (mz : Nat) (c p l i : Int) (h4 : aH) (ls : List (Nat × Value)), ((11 - i).toNat = mz) → (0 ≤ n ∧ n ≤ 12) → (c = (if (dlA h (gi h 23 0)) ≤ n then (gi h 171 3) - 1 else (((gi h 171 3) - 1) * n) / (dlA h (gi h 23 0)))) → (0 ≤ c ∧ c ≤ 468) → (0 ≤ i ∧ i ≤ 10) → (0 ≤ p ∧ p ≤ i) → (0 ≤ l ∧ l ≤ i) → lk ls 0 = some (.ref 0) → lk ls 1 = some (.int (I n)) → lk ls 4 = some (.int (I c)) → lk ls 5 = some (.int (I p)) → lk ls 6 = some (.int (I l)) → lk ls 7 = some (.int (I i)) → GD gE gRL sh h4 → FRM gRL [(0, 8, 3, 3), (0, 10, 0, 39)] h h4 → K 59 ls [] h4 0 0 := by
    intro mz
    induction mz using Nat.strongRecOn with
    | ind mz ih =>
    intro c p l i h4 ls hm n0 c0 cr i0 p0 l0_ l0 l1 l4 l5 l6 l7 hG4 hF4
    have s1 : gi h4 s 1 = gi h 171 4 := (FRM_gi hF4 (r := 5) (ss_r h5).1 rfl).trans c1
    have gz := fun z : i < 10 => grn 0 1 hG (a := s + 2) (r := 7) (k := i.toNat) (ss_r h5).2.2 rfl (by omega)
    refine x_iload 61 hK rfl rfl l7 ?_
    refine x_aload_n 62 hK rfl rfl l0 ?_
    refine x_getR 65 hK rfl rfl (sp_0 (h := h4) hG4) ((FRM_aR hF4 (r := 0) rfl rfl).trans (pS)) ?_
    have g632 := gri (0) (10) hG (a := 171) (r := 54) (k := 4) rfl rfl
    refine x_getE 68 hK rfl (Or.inl rfl) rfl (shx (h := h4) hG4 (r := 5) (ss_r h5).1 rfl) (e := (gi h 171 4)) (s1) ?_
    refine x_if_icmp_ge 110 71 hK rfl rfl rfl (by omega) (by omega) (fun c5 => ?_) (fun c5 => ?_)
    · refine x_aload_n 111 hK rfl rfl l0 ?_
      refine x_getR 114 hK rfl rfl (sp_0 (h := h4) hG4) (rf_0_1 (h := h4) hG4) ?_
      refine x_iload 116 hK rfl rfl l5 ?_
      refine x_i2l 117 hK rfl rfl (by omega) ?_
      refine x_iload 119 hK rfl rfl l6 ?_
      refine x_iconst 120 hK rfl rfl ?_
      refine x_iremp 121 hK rfl rfl (by omega) (by omega) (by omega) (by omega) ?_
      refine x_i2l 122 hK rfl rfl (by omega) ?_
      refine x_callV 125 hK hmono rfl rfl [.ref 3, .long (J p), .long (J (l % 2))] [] rfl rfl (Nat.le_of_ble_eq_true rfl) (Nat.le_of_ble_eq_true rfl) rfl (sp_3 (h := h4) hG4) (CLd_le (Nat.le_of_ble_eq_true rfl) (ctX3_tellTwo hSP hG4 (by omega) (by omega))) ?_
      rintro v633 h633 ⟨rfl, hG633, hF633, t633, s633⟩
      refine x_iload 127 hK rfl rfl l4 ?_
      exact x_iret hK rfl ⟨Or.inr ⟨n0, by rw [c0], t633⟩, hG633, ((hF4).mono rfl).trans ((hF633).mono rfl)⟩
    · have gz2 := gz (by omega)
      have ga2 := gi_r h (s + 1) i.toNat
      refine x_aload_n 72 hK rfl rfl l0 ?_
      refine x_getR 75 hK rfl rfl (sp_0 (h := h4) hG4) ((FRM_aR hF4 (r := 0) rfl rfl).trans (pS)) ?_
      refine x_getR 78 hK rfl rfl (shx (h := h4) hG4 (r := 5) (ss_r h5).1 rfl) (ss_p (show PT h4 from (PT_F hF4 (by decide) hP)) h5).1 ?_
      refine x_iload 80 hK rfl rfl l7 ?_
      refine x_ialoadE 81 hK rfl rfl (shx (h := h4) hG4 (r := 6) (ss_r h5).2.1 rfl) (by omega) (by omega) (by omega) (e' := (gi h (s + 1) i.toNat)) (FRM_gi hF4 (r := 6) (ss_r h5).2.1 rfl) ?_
      refine x_iload 83 hK rfl rfl l4 ?_
      refine x_if_icmp_gt 110 86 hK rfl rfl rfl (by omega) (by omega) (fun c24 => ?_) (fun c24 => ?_)
      · refine x_aload_n 111 hK rfl rfl l0 ?_
        refine x_getR 114 hK rfl rfl (sp_0 (h := h4) hG4) (rf_0_1 (h := h4) hG4) ?_
        refine x_iload 116 hK rfl rfl l5 ?_
        refine x_i2l 117 hK rfl rfl (by omega) ?_
        refine x_iload 119 hK rfl rfl l6 ?_
        refine x_iconst 120 hK rfl rfl ?_
        refine x_iremp 121 hK rfl rfl (by omega) (by omega) (by omega) (by omega) ?_
        refine x_i2l 122 hK rfl rfl (by omega) ?_
        refine x_callV 125 hK hmono rfl rfl [.ref 3, .long (J p), .long (J (l % 2))] [] rfl rfl (Nat.le_of_ble_eq_true rfl) (Nat.le_of_ble_eq_true rfl) rfl (sp_3 (h := h4) hG4) (CLd_le (Nat.le_of_ble_eq_true rfl) (ctX3_tellTwo hSP hG4 (by omega) (by omega))) ?_
        rintro v634 h634 ⟨rfl, hG634, hF634, t634, s634⟩
        refine x_iload 127 hK rfl rfl l4 ?_
        exact x_iret hK rfl ⟨Or.inr ⟨n0, by rw [c0], t634⟩, hG634, ((hF4).mono rfl).trans ((hF634).mono rfl)⟩
      · refine x_iinc 89 hK rfl rfl l5 _ rfl ?_
        refine x_iload 91 hK rfl rfl (lk1_n l6 (by decide) (Or.inl rfl)) ?_
        refine x_aload_n 92 hK rfl rfl (lk1_n l0 (by decide) (Or.inl rfl)) ?_
        refine x_getR 95 hK rfl rfl (sp_0 (h := h4) hG4) ((FRM_aR hF4 (r := 0) rfl rfl).trans (pS)) ?_
        refine x_getR 98 hK rfl rfl (shx (h := h4) hG4 (r := 5) (ss_r h5).1 rfl) (ss_p (show PT h4 from (PT_F hF4 (by decide) hP)) h5).2 ?_
        refine x_iload 100 hK rfl rfl (lk1_n l7 (by decide) (Or.inl rfl)) ?_
        refine x_ialoadE 101 hK rfl rfl (shx (h := h4) hG4 (r := 7) (ss_r h5).2.2 rfl) (by omega) (by omega) (by omega) (e' := (gi h (s + 2) i.toNat)) (FRM_gi hF4 (r := 7) (ss_r h5).2.2 rfl) ?_
        refine x_iadd 102 hK rfl rfl ?_
        refine x_istore 104 hK rfl rfl _ rfl ?_
        refine x_iinc 107 hK rfl rfl (lk1_n (lk1_n l7 (by decide) (Or.inl rfl)) (by decide) (Or.inl rfl)) _ rfl ?_
        refine x_goto 59 hK rfl rfl ?_
        exact ih _ (by omega) c (p + 1) (l + (gi h (s + 2) i.toNat)) (i + 1) _ _ rfl (n0) (c0) (cr) (by omega) (by omega) (by omega) (lk1_n (lk1_n (lk1_n l0 (by decide) (Or.inl rfl)) (by decide) (Or.inl rfl)) (by decide) (Or.inl rfl)) (lk1_n (lk1_n (lk1_n l1 (by decide) (Or.inl rfl)) (by decide) (Or.inl rfl)) (by decide) (Or.inl rfl)) (lk1_n (lk1_n (lk1_n l4 (by decide) (Or.inl rfl)) (by decide) (Or.inl rfl)) (by decide) (Or.inl rfl)) (lk1_n (lk1_n lk1_s (by decide) (Or.inl rfl)) (by decide) (Or.inl rfl)) (lk1_n lk1_s (by decide) (Or.inl rfl)) lk1_s (hG4) (hF4)
  refine x_iload_n 1 hK rfl rfl rfl ?_
  refine x_if_lt 10 4 hK rfl rfl rfl (by omega) (fun c2 => ?_) (fun c2 => ?_)
  · refine x_iconst 11 hK rfl rfl ?_
    exact x_iret hK rfl ⟨Or.inl ⟨by omega, rfl, rfl⟩, hG, FRM.rf⟩
  · refine x_iload_n 5 hK rfl rfl rfl ?_
    refine x_bipush 7 hK rfl rfl rfl ?_
    refine x_if_icmp_le 12 10 hK rfl rfl rfl (by omega) (by omega) (fun c7 => ?_) (fun c7 => ?_)
    · refine x_aload_n 13 hK rfl rfl rfl ?_
      refine x_getR 16 hK rfl rfl (sp_0 (h := h) hG) (pS) ?_
      have g635 := gri (2) (40) hG (a := 171) (r := 54) (k := 3) rfl rfl
      refine x_getE 19 hK rfl (Or.inl rfl) rfl (shx (h := h) hG (r := 5) (ss_r h5).1 rfl) (e := (gi h 171 3)) (c0) ?_
      refine x_iconst 20 hK rfl rfl ?_
      refine x_isub 21 hK rfl rfl ?_
      refine x_istore_n 22 hK rfl rfl [(2, .int (I ((gi h 171 3) - 1))), (0, .ref 0), (1, .int (I n))] rfl ?_
      refine x_aload_n 23 hK rfl rfl rfl ?_
      refine x_aload_n 24 hK rfl rfl rfl ?_
      refine x_getR 27 hK rfl rfl (sp_0 (h := h) hG) (rf_0_10 (h := h) hG) ?_
      have g636 := gi_r h 23 0
      refine x_getE 30 hK rfl (Or.inl rfl) rfl (sp_23 (h := h) hG) (e := (gi h 23 0)) (rfl) ?_
      have cmn := cm (by omega)
      refine x_callV 33 hK hmono rfl rfl [.ref 0, .int (I (gi h 23 0))] [] rfl rfl (Nat.le_of_ble_eq_true rfl) (Nat.le_of_ble_eq_true rfl) rfl (sp_0 (h := h) hG) (CLd_le (Nat.le_of_ble_eq_true rfl) (ctX10_delayA hSP hG hP hX hD (t := gi h 23 0) (by omega))) ?_
      rintro v637 h637 ⟨rfl, hG637, hF637⟩
      refine x_istore_n 34 hK rfl rfl [(3, .int (I (dlA h (gi h 23 0)))), (2, .int (I ((gi h 171 3) - 1))), (0, .ref 0), (1, .int (I n))] rfl ?_
      refine x_iload_n 35 hK rfl rfl rfl ?_
      refine x_iload_n 36 hK rfl rfl rfl ?_
      refine x_if_icmp_lt 43 39 hK rfl rfl rfl (by omega) (by omega) (fun c22 => ?_) (fun c22 => ?_)
      · refine x_iload_n 44 hK rfl rfl rfl ?_
        refine x_iload_n 45 hK rfl rfl rfl ?_
        refine x_imul 46 hK rfl rfl ?_
        refine x_iload_n 47 hK rfl rfl rfl ?_
        refine x_idivp 48 hK rfl rfl (by omega) (by omega) (by omega) (by omega) ?_
        refine x_istore 50 hK rfl rfl [(4, .int (I ((((gi h 171 3) - 1) * n) / (dlA h (gi h 23 0))))), (3, .int (I (dlA h (gi h 23 0)))), (2, .int (I ((gi h 171 3) - 1))), (0, .ref 0), (1, .int (I n))] rfl ?_
        refine x_iconst 51 hK rfl rfl ?_
        refine x_istore 53 hK rfl rfl [(5, .int (I 0)), (4, .int (I ((((gi h 171 3) - 1) * n) / (dlA h (gi h 23 0))))), (3, .int (I (dlA h (gi h 23 0)))), (2, .int (I ((gi h 171 3) - 1))), (0, .ref 0), (1, .int (I n))] rfl ?_
        refine x_iconst 54 hK rfl rfl ?_
        refine x_istore 56 hK rfl rfl [(6, .int (I 0)), (5, .int (I 0)), (4, .int (I ((((gi h 171 3) - 1) * n) / (dlA h (gi h 23 0))))), (3, .int (I (dlA h (gi h 23 0)))), (2, .int (I ((gi h 171 3) - 1))), (0, .ref 0), (1, .int (I n))] rfl ?_
        refine x_iconst 57 hK rfl rfl ?_
        refine x_istore 59 hK rfl rfl [(7, .int (I 0)), (6, .int (I 0)), (5, .int (I 0)), (4, .int (I ((((gi h 171 3) - 1) * n) / (dlA h (gi h 23 0))))), (3, .int (I (dlA h (gi h 23 0)))), (2, .int (I ((gi h 171 3) - 1))), (0, .ref 0), (1, .int (I n))] rfl ?_
        have ev : ((((gi h 171 3) - 1) * n) / (dlA h (gi h 23 0))) = (if (dlA h (gi h 23 0)) ≤ n then (gi h 171 3) - 1 else (((gi h 171 3) - 1) * n) / (dlA h (gi h 23 0))) := by first | (rw [if_pos (by omega)]; done) | (rw [if_neg (by omega)]; done)
        exact loop _ ((((gi h 171 3) - 1) * n) / (dlA h (gi h 23 0))) 0 0 0 _ _ rfl (⟨by omega, by omega⟩) (ev) (by omega) (by omega) (by omega) (by omega) rfl rfl rfl rfl rfl rfl (hG637) (hF637)
      · refine x_iload_n 40 hK rfl rfl rfl ?_
        refine x_goto 48 hK rfl rfl ?_
        refine x_istore 50 hK rfl rfl [(4, .int (I ((gi h 171 3) - 1))), (3, .int (I (dlA h (gi h 23 0)))), (2, .int (I ((gi h 171 3) - 1))), (0, .ref 0), (1, .int (I n))] rfl ?_
        refine x_iconst 51 hK rfl rfl ?_
        refine x_istore 53 hK rfl rfl [(5, .int (I 0)), (4, .int (I ((gi h 171 3) - 1))), (3, .int (I (dlA h (gi h 23 0)))), (2, .int (I ((gi h 171 3) - 1))), (0, .ref 0), (1, .int (I n))] rfl ?_
        refine x_iconst 54 hK rfl rfl ?_
        refine x_istore 56 hK rfl rfl [(6, .int (I 0)), (5, .int (I 0)), (4, .int (I ((gi h 171 3) - 1))), (3, .int (I (dlA h (gi h 23 0)))), (2, .int (I ((gi h 171 3) - 1))), (0, .ref 0), (1, .int (I n))] rfl ?_
        refine x_iconst 57 hK rfl rfl ?_
        refine x_istore 59 hK rfl rfl [(7, .int (I 0)), (6, .int (I 0)), (5, .int (I 0)), (4, .int (I ((gi h 171 3) - 1))), (3, .int (I (dlA h (gi h 23 0)))), (2, .int (I ((gi h 171 3) - 1))), (0, .ref 0), (1, .int (I n))] rfl ?_
        have ev : ((gi h 171 3) - 1) = (if (dlA h (gi h 23 0)) ≤ n then (gi h 171 3) - 1 else (((gi h 171 3) - 1) * n) / (dlA h (gi h 23 0))) := by first | (rw [if_pos (by omega)]; done) | (rw [if_neg (by omega)]; done)
        exact loop _ ((gi h 171 3) - 1) 0 0 0 _ _ rfl (⟨by omega, by omega⟩) (ev) (by omega) (by omega) (by omega) (by omega) rfl rfl rfl rfl rfl rfl (hG637) (hF637)
    · refine x_iconst 11 hK rfl rfl ?_
      exact x_iret hK rfl ⟨Or.inl ⟨by omega, rfl, rfl⟩, hG, FRM.rf⟩
set_option maxRecDepth 4000 in
theorem ctX11_comesF {SP : CT} (hSP : MONO SP) {sh : List (Nat × Nat)} {h : aH} (hG : GD gE gRL sh h) (hX : XI h) (h0 : 0 ≤ gi h 178 0) {n : Int} (rn : r32 n) : CLd SP 7 mX11_comes [.ref 171, .int (I n)] h 0 0 (fun rv h' => ((¬ (0 ≤ n ∧ n ≤ 12) ∧ rv = some (.int (I (-1)))) ∨ ((0 ≤ n ∧ n ≤ 12) ∧ rv = some (.int (I (if (dlA h (gi h 178 0)) ≤ n then (gi h 171 3) - 1 else (((gi h 171 3) - 1) * n) / (dlA h (gi h 178 0))))))) ∧ GD gE gRL sh h' ∧ FRM gRL [(0, 54, 0, 0), (0, 54, 1, 1), (0, 67, 0, 79), (0, 68, 0, 3), (1, 55, 0, 39)] h h') := by
  refine x_met _ rfl (Nat.le_of_ble_eq_true rfl) (fun K hK => ?_)
  have hmono := MONO_CLd hSP 6
  have g3 := gri 2 40 hG (a := 171) (r := 54) (k := 3) rfl rfl
  have g4 := gri 0 10 hG (a := 171) (r := 54) (k := 4) rfl rfl
  have g0 := gi_r h 178 0
  have db := dlA_b h (gi h 178 0)
  have cm := fun z : 0 ≤ n ∧ n ≤ 12 => cm_b (S := gi h 171 3) (n := n) (d := dlA h (gi h 178 0)) g3 z db
  have loop : ∀ (mz : Nat) (c p l i : Int) (h4 : aH) (ls : List (Nat × Value)), ((11 - i).toNat = mz) → (0 ≤ n ∧ n ≤ 12) → (c = (if (dlA h (gi h 178 0)) ≤ n then (gi h 171 3) - 1 else (((gi h 171 3) - 1) * n) / (dlA h (gi h 178 0)))) → (0 ≤ c ∧ c ≤ 468) → (0 ≤ i ∧ i ≤ 10) → (0 ≤ p ∧ p ≤ i) → (0 ≤ l ∧ l ≤ i) → lk ls 0 = some (.ref 171) → lk ls 1 = some (.int (I n)) → lk ls 2 = some (.int (I c)) → lk ls 3 = some (.int (I p)) → lk ls 4 = some (.int (I l)) → lk ls 5 = some (.int (I i)) → GD gE gRL sh h4 → FRM gRL [(0, 54, 0, 0), (0, 54, 1, 1), (0, 67, 0, 79), (0, 68, 0, 3), (1, 55, 0, 39)] h h4 → K 56 ls [] h4 0 0 := by
    intro mz
    induction mz using Nat.strongRecOn with
    | ind mz ih =>
    intro c p l i h4 ls hm n0 c0 cr i0 p0 l0_ l0 l1 l2 l3 l4 l5 hG4 hF4
    have s1 : gi h4 171 4 = gi h 171 4 := FRM_gi hF4 (r := 54) rfl (by decide)
    refine x_iload 58 hK rfl rfl l5 ?_
    refine x_aload_n 59 hK rfl rfl l0 ?_
    have g638 := gri (0) (10) hG (a := 171) (r := 54) (k := 4) rfl rfl
    refine x_getE 62 hK rfl (Or.inl rfl) rfl (sp_171 (h := h4) hG4) (e := (gi h 171 4)) (s1) ?_
    refine x_if_icmp_ge 127 65 hK rfl rfl rfl (by omega) (by omega) (fun c4 => ?_) (fun c4 => ?_)
    · refine x_aload_n 128 hK rfl rfl l0 ?_
      refine x_iconst 129 hK rfl rfl ?_
      refine x_putI 132 hK rfl rfl (sp_171 (h := h4) hG4) ?_
      refine x_aload_n 133 hK rfl rfl l0 ?_
      refine x_iload_n 134 hK rfl rfl l3 ?_
      refine x_i2l 135 hK rfl rfl (by omega) ?_
      have hGp639 : GD gE gRL sh (wI h4 171 1 0) := GD_w1 (hG4) (r := 54) rfl (by omega) rfl (by omega) (by omega)
      have z641 : gi (wI h4 171 1 0) 171 1 = 0 := gi_same (by omega)
      have z641r : mrow (wI h4 171 1 0) = [] := mrow_0 (gi_same (by omega))
      refine x_callV 138 hK hmono rfl rfl [.ref 171, .long (J p)] [] rfl rfl (Nat.le_of_ble_eq_true rfl) (Nat.le_of_ble_eq_true rfl) rfl (sp_171 (h := h4) hG4) (CLd_le (Nat.le_of_ble_eq_true rfl) (ctX11_entersF hSP hGp639 (by omega) (by omega))) ?_
      rintro v640 h640 ⟨rfl, hG640, hF640, t640, s640⟩
      rw [z641] at t640
      rw [z641r] at s640
      replace t640 : gi h640 171 1 = 1 := t640
      change mrow h640 = [p] at s640
      refine x_aload_n 139 hK rfl rfl l0 ?_
      refine x_iload 141 hK rfl rfl l4 ?_
      refine x_iconst 142 hK rfl rfl ?_
      refine x_iremp 143 hK rfl rfl (by omega) (by omega) (by omega) (by omega) ?_
      refine x_i2l 144 hK rfl rfl (by omega) ?_
      have z643 : gi h640 171 1 = 1 := t640
      have z643r : mrow h640 = [p] := s640
      refine x_callV 147 hK hmono rfl rfl [.ref 171, .long (J (l % 2))] [] rfl rfl (Nat.le_of_ble_eq_true rfl) (Nat.le_of_ble_eq_true rfl) rfl (sp_171 (h := h640) hG640) (CLd_le (Nat.le_of_ble_eq_true rfl) (ctX11_entersF hSP hG640 (by omega) (by omega))) ?_
      rintro v642 h642 ⟨rfl, hG642, hF642, t642, s642⟩
      rw [z643] at t642
      rw [z643r] at s642
      replace t642 : gi h642 171 1 = 2 := t642
      change mrow h642 = [p, (l % 2)] at s642
      refine x_iload_n 148 hK rfl rfl l2 ?_
      exact x_iret hK rfl ⟨Or.inr ⟨n0, by rw [c0]⟩, hG642, ((FRM_w (hF4) (r := 54) rfl rfl).trans ((hF640).mono rfl)).trans ((hF642).mono rfl)⟩
    · refine x_iload_n 66 hK rfl rfl l3 ?_
      refine x_aload_n 67 hK rfl rfl l0 ?_
      refine x_getR 70 hK rfl rfl (sp_171 (h := h4) hG4) (rf_171_9 (h := h4) hG4) ?_
      refine x_iload 72 hK rfl rfl l5 ?_
      have g644 := gi_r h 173 i.toNat
      refine x_ialoadE 73 hK rfl rfl (sp_173 (h := h4) hG4) (by omega) (by omega) (by omega) (e' := (gi h 173 i.toNat)) (FRM_gi hF4 (r := 56) rfl rfl) ?_
      refine x_iload_n 74 hK rfl rfl l2 ?_
      refine x_if_icmp_gt 81 77 hK rfl rfl rfl (by omega) (by omega) (fun c26 => ?_) (fun c26 => ?_)
      · refine x_iconst 82 hK rfl rfl ?_
        refine x_callS 85 hK hmono rfl (Or.inl rfl) rfl [.int (I 0)] [.int (I p)] rfl rfl (Nat.le_of_ble_eq_true rfl) (Nat.le_of_ble_eq_true rfl) (CLd_le (Nat.le_of_ble_eq_true rfl) (ctX11_flag (by omega))) ?_
        rintro v9 h9 ⟨e9, rfl⟩
        rw [e9]
        clear e9
        refine x_iadd 86 hK rfl rfl ?_
        refine x_istore_n 87 hK rfl rfl _ rfl ?_
        refine x_iload 89 hK rfl rfl (lk1_n l4 (by decide) (Or.inl rfl)) ?_
        refine x_aload_n 90 hK rfl rfl (lk1_n l0 (by decide) (Or.inl rfl)) ?_
        refine x_getR 93 hK rfl rfl (sp_171 (h := h4) hG4) (rf_171_9 (h := h4) hG4) ?_
        refine x_iload 95 hK rfl rfl (lk1_n l5 (by decide) (Or.inl rfl)) ?_
        refine x_ialoadE 96 hK rfl rfl (sp_173 (h := h4) hG4) (by omega) (by omega) (by omega) (e' := (gi h 173 i.toNat)) (FRM_gi hF4 (r := 56) rfl rfl) ?_
        refine x_iload_n 97 hK rfl rfl (lk1_n l2 (by decide) (Or.inl rfl)) ?_
        refine x_if_icmp_gt 114 100 hK rfl rfl rfl (by omega) (by omega) (fun _ => ?_) (fun c => by omega)
        refine x_iconst 115 hK rfl rfl ?_
        refine x_callS 118 hK hmono rfl (Or.inl rfl) rfl [.int (I 0)] [.int (I l)] rfl rfl (Nat.le_of_ble_eq_true rfl) (Nat.le_of_ble_eq_true rfl) (CLd_le (Nat.le_of_ble_eq_true rfl) (ctX11_flag (by omega))) ?_
        rintro v9 h9 ⟨e9, rfl⟩
        rw [e9]
        clear e9
        refine x_iadd 119 hK rfl rfl ?_
        refine x_istore 121 hK rfl rfl _ rfl ?_
        refine x_iinc 124 hK rfl rfl (lk1_n (lk1_n l5 (by decide) (Or.inl rfl)) (by decide) (Or.inl rfl)) _ rfl ?_
        refine x_goto 56 hK rfl rfl ?_
        exact ih _ (by omega) c (p + 0) (l + 0) (i + 1) _ _ rfl (n0) (c0) (cr) (by omega) (by omega) (by omega) (lk1_n (lk1_n (lk1_n l0 (by decide) (Or.inl rfl)) (by decide) (Or.inl rfl)) (by decide) (Or.inl rfl)) (lk1_n (lk1_n (lk1_n l1 (by decide) (Or.inl rfl)) (by decide) (Or.inl rfl)) (by decide) (Or.inl rfl)) (lk1_n (lk1_n (lk1_n l2 (by decide) (Or.inl rfl)) (by decide) (Or.inl rfl)) (by decide) (Or.inl rfl)) (lk1_n (lk1_n lk1_s (by decide) (Or.inl rfl)) (by decide) (Or.inl rfl)) (lk1_n lk1_s (by decide) (Or.inl rfl)) lk1_s (hG4) (hF4)
      · refine x_iconst 78 hK rfl rfl ?_
        refine x_goto 82 hK rfl rfl ?_
        refine x_callS 85 hK hmono rfl (Or.inl rfl) rfl [.int (I 1)] [.int (I p)] rfl rfl (Nat.le_of_ble_eq_true rfl) (Nat.le_of_ble_eq_true rfl) (CLd_le (Nat.le_of_ble_eq_true rfl) (ctX11_flag (by omega))) ?_
        rintro v9 h9 ⟨e9, rfl⟩
        rw [e9]
        clear e9
        refine x_iadd 86 hK rfl rfl ?_
        refine x_istore_n 87 hK rfl rfl _ rfl ?_
        refine x_iload 89 hK rfl rfl (lk1_n l4 (by decide) (Or.inl rfl)) ?_
        refine x_aload_n 90 hK rfl rfl (lk1_n l0 (by decide) (Or.inl rfl)) ?_
        refine x_getR 93 hK rfl rfl (sp_171 (h := h4) hG4) (rf_171_9 (h := h4) hG4) ?_
        refine x_iload 95 hK rfl rfl (lk1_n l5 (by decide) (Or.inl rfl)) ?_
        refine x_ialoadE 96 hK rfl rfl (sp_173 (h := h4) hG4) (by omega) (by omega) (by omega) (e' := (gi h 173 i.toNat)) (FRM_gi hF4 (r := 56) rfl rfl) ?_
        refine x_iload_n 97 hK rfl rfl (lk1_n l2 (by decide) (Or.inl rfl)) ?_
        refine x_if_icmp_gt 114 100 hK rfl rfl rfl (by omega) (by omega) (fun c => by omega) (fun _ => ?_)
        refine x_aload_n 101 hK rfl rfl (lk1_n l0 (by decide) (Or.inl rfl)) ?_
        refine x_getR 104 hK rfl rfl (sp_171 (h := h4) hG4) (rf_171_10 (h := h4) hG4) ?_
        refine x_iload 106 hK rfl rfl (lk1_n l5 (by decide) (Or.inl rfl)) ?_
        have g648 := grn (0) (1) hG (a := 174) (r := 57) (k := i.toNat) rfl rfl (by omega)
        refine x_baloadE 107 hK rfl rfl (sp_174 (h := h4) hG4) (by omega) (by omega) (by omega) (e' := (gi h 174 i.toNat)) (FRM_gi hF4 (r := 57) rfl rfl) ?_
        refine x_if_eq 114 110 hK rfl rfl rfl (by omega) (fun c61 => ?_) (fun c61 => ?_)
        · refine x_iconst 115 hK rfl rfl ?_
          refine x_callS 118 hK hmono rfl (Or.inl rfl) rfl [.int (I 0)] [.int (I l)] rfl rfl (Nat.le_of_ble_eq_true rfl) (Nat.le_of_ble_eq_true rfl) (CLd_le (Nat.le_of_ble_eq_true rfl) (ctX11_flag (by omega))) ?_
          rintro v9 h9 ⟨e9, rfl⟩
          rw [e9]
          clear e9
          refine x_iadd 119 hK rfl rfl ?_
          refine x_istore 121 hK rfl rfl _ rfl ?_
          refine x_iinc 124 hK rfl rfl (lk1_n (lk1_n l5 (by decide) (Or.inl rfl)) (by decide) (Or.inl rfl)) _ rfl ?_
          refine x_goto 56 hK rfl rfl ?_
          exact ih _ (by omega) c (p + 1) (l + 0) (i + 1) _ _ rfl (n0) (c0) (cr) (by omega) (by omega) (by omega) (lk1_n (lk1_n (lk1_n l0 (by decide) (Or.inl rfl)) (by decide) (Or.inl rfl)) (by decide) (Or.inl rfl)) (lk1_n (lk1_n (lk1_n l1 (by decide) (Or.inl rfl)) (by decide) (Or.inl rfl)) (by decide) (Or.inl rfl)) (lk1_n (lk1_n (lk1_n l2 (by decide) (Or.inl rfl)) (by decide) (Or.inl rfl)) (by decide) (Or.inl rfl)) (lk1_n (lk1_n lk1_s (by decide) (Or.inl rfl)) (by decide) (Or.inl rfl)) (lk1_n lk1_s (by decide) (Or.inl rfl)) lk1_s (hG4) (hF4)
        · refine x_iconst 111 hK rfl rfl ?_
          refine x_goto 115 hK rfl rfl ?_
          refine x_callS 118 hK hmono rfl (Or.inl rfl) rfl [.int (I 1)] [.int (I l)] rfl rfl (Nat.le_of_ble_eq_true rfl) (Nat.le_of_ble_eq_true rfl) (CLd_le (Nat.le_of_ble_eq_true rfl) (ctX11_flag (by omega))) ?_
          rintro v9 h9 ⟨e9, rfl⟩
          rw [e9]
          clear e9
          refine x_iadd 119 hK rfl rfl ?_
          refine x_istore 121 hK rfl rfl _ rfl ?_
          refine x_iinc 124 hK rfl rfl (lk1_n (lk1_n l5 (by decide) (Or.inl rfl)) (by decide) (Or.inl rfl)) _ rfl ?_
          refine x_goto 56 hK rfl rfl ?_
          exact ih _ (by omega) c (p + 1) (l + 1) (i + 1) _ _ rfl (n0) (c0) (cr) (by omega) (by omega) (by omega) (lk1_n (lk1_n (lk1_n l0 (by decide) (Or.inl rfl)) (by decide) (Or.inl rfl)) (by decide) (Or.inl rfl)) (lk1_n (lk1_n (lk1_n l1 (by decide) (Or.inl rfl)) (by decide) (Or.inl rfl)) (by decide) (Or.inl rfl)) (lk1_n (lk1_n (lk1_n l2 (by decide) (Or.inl rfl)) (by decide) (Or.inl rfl)) (by decide) (Or.inl rfl)) (lk1_n (lk1_n lk1_s (by decide) (Or.inl rfl)) (by decide) (Or.inl rfl)) (lk1_n lk1_s (by decide) (Or.inl rfl)) lk1_s (hG4) (hF4)
  refine x_aload_n 1 hK rfl rfl rfl ?_
  refine x_iconst 2 hK rfl rfl ?_
  refine x_putI 5 hK rfl rfl (sp_171 (h := h) hG) ?_
  refine x_iload_n 6 hK rfl rfl rfl ?_
  refine x_i2l 7 hK rfl rfl (by omega) ?_
  refine x_lconstE 8 0 hK rfl rfl rfl ?_
  refine x_ldc2_w 11 hK rfl rfl ?_
  have hGp651 : GD gE gRL sh (wI h 171 0 0) := GD_w1 (hG) (r := 54) rfl (by omega) rfl (by omega) (by omega)
  refine x_callS 14 hK hmono rfl (Or.inl rfl) rfl [.long (J n), .long (J 0), .long (J 12)] [] rfl rfl (Nat.le_of_ble_eq_true rfl) (Nat.le_of_ble_eq_true rfl) (CLd_le (Nat.le_of_ble_eq_true rfl) (ctX11_in (by omega) (by omega) (by omega))) ?_
  rintro v9 h9 ⟨e9, ⟨rfl, i1652, i2652⟩ | ⟨rfl, i1652⟩⟩ <;> rw [e9] <;> clear e9
  · refine x_if_ne 19 17 hK rfl rfl rfl (by omega) (fun _ => ?_) (fun c => by omega)
    refine x_aload_n 20 hK rfl rfl rfl ?_
    have g653 := gri (2) (40) hG (a := 171) (r := 54) (k := 3) rfl rfl
    refine x_getE 23 hK rfl (Or.inl rfl) rfl (sp_171 (h := h) hG) (e := (gi h 171 3)) (gi_k (by decide) _) ?_
    refine x_iconst 24 hK rfl rfl ?_
    refine x_isub 25 hK rfl rfl ?_
    refine x_aload_n 26 hK rfl rfl rfl ?_
    refine x_getE 29 hK rfl (Or.inl rfl) rfl (sp_171 (h := h) hG) (e := (gi h 171 3)) (gi_k (by decide) _) ?_
    refine x_iconst 30 hK rfl rfl ?_
    refine x_isub 31 hK rfl rfl ?_
    refine x_iload_n 32 hK rfl rfl rfl ?_
    refine x_imul 33 hK rfl rfl ?_
    refine x_aload_n 34 hK rfl rfl rfl ?_
    refine x_aload_n 35 hK rfl rfl rfl ?_
    refine x_getR 38 hK rfl rfl (sp_171 (h := h) hG) (rf_171_14 (h := h) hG) ?_
    refine x_iconst 39 hK rfl rfl ?_
    have g654 := gi_r h 178 0
    refine x_ialoadE 40 hK rfl rfl (sp_178 (h := h) hG) (by omega) (by omega) (by omega) (e' := (gi h 178 0)) (gi_a (by decide) _) ?_
    have hGp656 : GD gE gRL sh (wI h 171 0 0) := GD_w1 (hG) (r := 54) rfl (by omega) rfl (by omega) (by omega)
    have cmn := cm (by omega)
    have hXp : XI (wI h 171 0 0) := (xOk_ok rfl h (wI h 171 0 0) (FRM_w ((FRM.rf : FRM gRL [(0, 54, 0, 0)] h h)) (r := 54) rfl rfl) hX)
    have hFp : FRM gRL [(0, 54, 0, 0)] h (wI h 171 0 0) := FRM_w ((FRM.rf : FRM gRL [(0, 54, 0, 0)] h h)) (r := 54) rfl rfl
    have ed : dlA (wI h 171 0 0) (gi h 178 0) = (dlA h (gi h 178 0)) := dlA_F hFp rfl _
    refine x_callV 43 hK hmono rfl rfl [.ref 171, .int (I (gi h 178 0))] [.int (I (((gi h 171 3) - 1) * n)), .int (I ((gi h 171 3) - 1))] rfl rfl (Nat.le_of_ble_eq_true rfl) (Nat.le_of_ble_eq_true rfl) rfl (sp_171 (h := h) hG) (CLd_le (Nat.le_of_ble_eq_true rfl) (ctX11_delayAtF hSP hGp656 hXp (t := gi h 178 0) (by omega))) ?_
    rw [ed]
    rintro v655 h655 ⟨rfl, hG655, hF655⟩
    refine x_idivp 44 hK rfl rfl (by omega) (by omega) (by omega) (by omega) ?_
    refine x_min 47 hK rfl rfl (Nat.le_of_ble_eq_true rfl) (by omega) (by omega) ?_
    refine x_istore_n 48 hK rfl rfl [(2, .int (I (min ((gi h 171 3) - 1) ((((gi h 171 3) - 1) * n) / (dlA h (gi h 178 0)))))), (0, .ref 171), (1, .int (I n))] rfl ?_
    refine x_iconst 49 hK rfl rfl ?_
    refine x_istore_n 50 hK rfl rfl [(3, .int (I 0)), (2, .int (I (min ((gi h 171 3) - 1) ((((gi h 171 3) - 1) * n) / (dlA h (gi h 178 0)))))), (0, .ref 171), (1, .int (I n))] rfl ?_
    refine x_iconst 51 hK rfl rfl ?_
    refine x_istore 53 hK rfl rfl [(4, .int (I 0)), (3, .int (I 0)), (2, .int (I (min ((gi h 171 3) - 1) ((((gi h 171 3) - 1) * n) / (dlA h (gi h 178 0)))))), (0, .ref 171), (1, .int (I n))] rfl ?_
    refine x_iconst 54 hK rfl rfl ?_
    refine x_istore 56 hK rfl rfl [(5, .int (I 0)), (4, .int (I 0)), (3, .int (I 0)), (2, .int (I (min ((gi h 171 3) - 1) ((((gi h 171 3) - 1) * n) / (dlA h (gi h 178 0)))))), (0, .ref 171), (1, .int (I n))] rfl ?_
    exact loop _ (min ((gi h 171 3) - 1) ((((gi h 171 3) - 1) * n) / (dlA h (gi h 178 0)))) 0 0 0 _ _ rfl (⟨by omega, by omega⟩) (cmn.2.2.2.2) (by omega) (by omega) (by omega) (by omega) rfl rfl rfl rfl rfl rfl (hG655) ((FRM_w ((FRM.rf : FRM gRL [(0, 54, 0, 0), (0, 54, 1, 1), (0, 67, 0, 79), (0, 68, 0, 3), (1, 55, 0, 39)] h h)) (r := 54) rfl rfl).trans ((hF655).mono rfl))
  · refine x_if_ne 19 17 hK rfl rfl rfl (by omega) (fun c => by omega) (fun _ => ?_)
    refine x_iconst 18 hK rfl rfl ?_
    exact x_iret hK rfl ⟨Or.inl ⟨by omega, rfl⟩, GD_w1 (hG) (r := 54) rfl (by omega) rfl (by omega) (by omega), FRM_w ((FRM.rf : FRM gRL [(0, 54, 0, 0), (0, 54, 1, 1), (0, 67, 0, 79), (0, 68, 0, 3), (1, 55, 0, 39)] h h)) (r := 54) rfl rfl⟩
