/-! LIVES, THE SAFEST LANE, COMES -/
noncomputable def sumF (f : Nat → Int) (a : Int) : Nat → Int
  | 0 => 0
  | n + 1 => sumF f a n + f (a + n).toNat
theorem sumF_s {f : Nat → Int} {a i : Int} (h : a ≤ i) : sumF f a (i + 1 - a).toNat = sumF f a (i - a).toNat + f i.toNat := by
  rw [show (i + 1 - a).toNat = (i - a).toNat + 1 by omega]
  show sumF f a (i - a).toNat + f (a + ((i - a).toNat : Int)).toNat = _
  rw [show a + ((i - a).toNat : Int) = i by omega]
theorem sumF_b {f : Nat → Int} {a m B : Int} (h0 : 0 ≤ a) (hB : 0 ≤ B) (hf : ∀ j : Nat, (j : Int) < m → 0 ≤ f j ∧ f j ≤ B) : ∀ n : Nat, a + n ≤ m → 0 ≤ sumF f a n ∧ sumF f a n ≤ B * n
  | 0, _ => ⟨Int.le_refl _, by show (0 : Int) ≤ B * 0; omega⟩
  | n + 1, h => by
    have ih := sumF_b h0 hB hf n (by omega)
    have z := hf (a + n).toNat (by omega)
    show 0 ≤ sumF f a n + f (a + n).toNat ∧ sumF f a n + f (a + n).toNat ≤ B * ((n + 1 : Nat) : Int)
    rw [show ((n + 1 : Nat) : Int) = (n : Int) + 1 from rfl, Int.mul_add, Int.mul_one]
    omega
/-- how long MESSES a .. b live by what they have in all -/
noncomputable def luF (fd ea : Nat → Int) (a b : Int) : Int := if sumF ea a (b + 1 - a).toNat = 0 then 99999 else sumF fd a (b + 1 - a).toNat / sumF ea a (b + 1 - a).toNat
theorem luF_b {fd ea : Nat → Int} {a b m : Int} (h0 : 0 ≤ a) (hb : b < m) (h8 : m ≤ 8) (hf : ∀ j : Nat, (j : Int) < m → 0 ≤ fd j ∧ fd j ≤ 99) (he : ∀ j : Nat, (j : Int) < m → 0 ≤ ea j ∧ ea j ≤ 9) (hab : a ≤ b + 1) : 0 ≤ luF fd ea a b ∧ luF fd ea a b ≤ 99999 := by
  have x := sumF_b (f := fd) (B := 99) h0 (by omega) hf (b + 1 - a).toNat (by omega)
  have y := sumF_b (f := ea) (B := 9) h0 (by omega) he (b + 1 - a).toNat (by omega)
  unfold luF
  split
  · omega
  · have p : 0 < sumF ea a (b + 1 - a).toNat := by omega
    have q1 := Int.ediv_nonneg x.1 y.1
    have q2 := Int.ediv_le_self (sumF ea a (b + 1 - a).toNat) x.1
    omega
noncomputable def lvT (fd ea : Nat → Int) (how ms i : Int) : Int := luF fd ea (if how = 0 ∨ how = 2 then i else 0) (if how = 0 ∨ how = 1 then i else ms - 1)
noncomputable def lvF (fd ea : Nat → Int) (how ms : Int) : Nat → Int × Int
  | 0 => (99999, -1)
  | i + 1 => if lvT fd ea how ms i < (lvF fd ea how ms i).1 then (lvT fd ea how ms i, i) else lvF fd ea how ms i
theorem lvF_s {fd ea : Nat → Int} {how ms i : Int} (h : 0 ≤ i) : lvF fd ea how ms (i + 1).toNat = if lvT fd ea how ms i < (lvF fd ea how ms i.toNat).1 then (lvT fd ea how ms i, i) else lvF fd ea how ms i.toNat := by
  rw [tn_s h]
  show (if lvT fd ea how ms (i.toNat : Int) < _ then (lvT fd ea how ms (i.toNat : Int), (i.toNat : Int)) else _) = _
  rw [show ((i.toNat : Nat) : Int) = i by omega]
theorem lv_3 {fd ea : Nat → Int} {ms : Int} (hb : luF fd ea 0 (ms - 1) ≤ 99999) : ∀ n : Nat, lvF fd ea 3 ms (n + 1) = if luF fd ea 0 (ms - 1) < 99999 then (luF fd ea 0 (ms - 1), 0) else (99999, -1)
  | 0 => by
    show (if lvT fd ea 3 ms 0 < 99999 then (lvT fd ea 3 ms 0, ((0 : Nat) : Int)) else (99999, -1)) = _
    rfl
  | n + 1 => by
    show (if lvT fd ea 3 ms ((n + 1 : Nat) : Int) < (lvF fd ea 3 ms (n + 1)).1 then _ else lvF fd ea 3 ms (n + 1)) = _
    rw [lv_3 hb n]
    have e : lvT fd ea 3 ms ((n + 1 : Nat) : Int) = luF fd ea 0 (ms - 1) := rfl
    rw [e]
    by_cases c : luF fd ea 0 (ms - 1) < 99999
    · rw [if_pos c, if_neg (by show ¬ luF fd ea 0 (ms - 1) < luF fd ea 0 (ms - 1); omega)]
    · rw [if_neg c, if_neg (by show ¬ luF fd ea 0 (ms - 1) < 99999; omega)]
set_option maxRecDepth 4000 in
theorem ctX10_lastsForF {SP : CT} (hSP : MONO SP) {sh : List (Nat × Nat)} {h : aH} (hG : GD gE gRL sh h) {fd ea : Nat → Int} (hf : ∀ j : Nat, (j : Int) < gi h 0 9 → gi h 26 j = fd j ∧ 0 ≤ fd j ∧ fd j ≤ 99) (he : ∀ j : Nat, (j : Int) < gi h 0 9 → gi h 22 j = ea j ∧ 0 ≤ ea j ∧ ea j ≤ 9) {a z : Int} (ha : 0 ≤ a) (haz : a ≤ z + 1) (hz : z < (gi h 0 9)) : CLd SP 1 mX10_lastsFor [.ref 0, .int (I a), .int (I z)] h 0 0 (fun rv h' => h' = h ∧ rv = some (.int (I (luF fd ea a z)))) := by
  refine x_met _ rfl (Nat.le_of_ble_eq_true rfl) (fun K hK => ?_)
  have hmono := MONO_CLd hSP 0
  have g9 := gri 0 8 hG (a := 0) (r := 0) (k := 9) rfl rfl
  have loop : ∀ (mz : Nat) (s t i : Int) (ls : List (Nat × Value)), ((z + 1 - i).toNat = mz) → (a ≤ i ∧ i ≤ z + 1) → (s = sumF fd a (i - a).toNat) → (t = sumF ea a (i - a).toNat) → lk ls 0 = some (.ref 0) → lk ls 1 = some (.int (I a)) → lk ls 2 = some (.int (I z)) → lk ls 3 = some (.int (I s)) → lk ls 4 = some (.int (I t)) → lk ls 5 = some (.int (I i)) → K 8 ls [] h 0 0 := by
    intro mz
    induction mz using Nat.strongRecOn with
    | ind mz ih =>
    intro s t i ls hm i0 s0 t0 l0 l1 l2 l3 l4 l5
    have sb := sumF_b (f := fd) (B := 99) ha (by omega) (fun j hj => (hf j hj).2) (i - a).toNat (by omega)
    have tb := sumF_b (f := ea) (B := 9) ha (by omega) (fun j hj => (he j hj).2) (i - a).toNat (by omega)
    have fi := fun y : i ≤ z => hf i.toNat (by omega)
    have ei := fun y : i ≤ z => he i.toNat (by omega)
    refine x_iload 10 hK rfl rfl l5 ?_
    refine x_iload_n 11 hK rfl rfl l2 ?_
    refine x_if_icmp_gt 45 14 hK rfl rfl rfl (by omega) (by omega) (fun c3 => ?_) (fun c3 => ?_)
    · refine x_iload 47 hK rfl rfl l4 ?_
      refine x_if_ne 56 50 hK rfl rfl rfl (by omega) (fun c5 => ?_) (fun c5 => ?_)
      · refine x_iload_n 57 hK rfl rfl l3 ?_
        refine x_iload 59 hK rfl rfl l4 ?_
        refine x_idivp 60 hK rfl rfl (by omega) (by omega) (by omega) (by omega) ?_
        have ew : luF fd ea a z = (s / t) := by
          unfold luF
          rw [show (z + 1 - a).toNat = (i - a).toNat by omega, ← s0, ← t0]
          rw [if_neg (by omega)]
        exact x_iret hK rfl ⟨rfl, by rw [ew]⟩
      · refine x_ldc_w 53 hK rfl rfl ?_
        refine x_goto 60 hK rfl rfl ?_
        have ew : luF fd ea a z = 99999 := by
          unfold luF
          rw [show (z + 1 - a).toNat = (i - a).toNat by omega, ← s0, ← t0]
          rw [if_pos (by omega)]
        exact x_iret hK rfl ⟨rfl, by rw [ew]⟩
    · have fi2 := fi (by omega)
      have ei2 := ei (by omega)
      refine x_iload_n 15 hK rfl rfl l3 ?_
      refine x_aload_n 16 hK rfl rfl l0 ?_
      refine x_getR 19 hK rfl rfl (sp_0 (h := h) hG) (rf_0_10 (h := h) hG) ?_
      refine x_getR 22 hK rfl rfl (sp_23 (h := h) hG) (rf_23_7 (h := h) hG) ?_
      refine x_iload 24 hK rfl rfl l5 ?_
      refine x_ialoadE 25 hK rfl rfl (sp_26 (h := h) hG) (by omega) (by omega) (by omega) (e' := (fd i.toNat)) ((fi (by omega)).1) ?_
      refine x_iadd 26 hK rfl rfl ?_
      refine x_istore_n 27 hK rfl rfl _ rfl ?_
      refine x_iload 29 hK rfl rfl (lk1_n l4 (by decide) (Or.inl rfl)) ?_
      refine x_aload_n 30 hK rfl rfl (lk1_n l0 (by decide) (Or.inl rfl)) ?_
      refine x_getR 33 hK rfl rfl (sp_0 (h := h) hG) (rf_0_8 (h := h) hG) ?_
      refine x_iload 35 hK rfl rfl (lk1_n l5 (by decide) (Or.inl rfl)) ?_
      refine x_ialoadE 36 hK rfl rfl (sp_22 (h := h) hG) (by omega) (by omega) (by omega) (e' := (ea i.toNat)) ((ei (by omega)).1) ?_
      refine x_iadd 37 hK rfl rfl ?_
      refine x_istore 39 hK rfl rfl _ rfl ?_
      refine x_iinc 42 hK rfl rfl (lk1_n (lk1_n l5 (by decide) (Or.inl rfl)) (by decide) (Or.inl rfl)) _ rfl ?_
      refine x_goto 8 hK rfl rfl ?_
      exact ih _ (by omega) (s + (fd i.toNat)) (t + (ea i.toNat)) (i + 1) _ rfl (by omega) (by rw [s0, sumF_s i0.1]) (by rw [t0, sumF_s i0.1]) (lk1_n (lk1_n (lk1_n l0 (by decide) (Or.inl rfl)) (by decide) (Or.inl rfl)) (by decide) (Or.inl rfl)) (lk1_n (lk1_n (lk1_n l1 (by decide) (Or.inl rfl)) (by decide) (Or.inl rfl)) (by decide) (Or.inl rfl)) (lk1_n (lk1_n (lk1_n l2 (by decide) (Or.inl rfl)) (by decide) (Or.inl rfl)) (by decide) (Or.inl rfl)) (lk1_n (lk1_n lk1_s (by decide) (Or.inl rfl)) (by decide) (Or.inl rfl)) (lk1_n lk1_s (by decide) (Or.inl rfl)) lk1_s
  refine x_iconst 1 hK rfl rfl ?_
  refine x_istore_n 2 hK rfl rfl [(3, .int (I 0)), (0, .ref 0), (1, .int (I a)), (2, .int (I z))] rfl ?_
  refine x_iconst 3 hK rfl rfl ?_
  refine x_istore 5 hK rfl rfl [(4, .int (I 0)), (3, .int (I 0)), (0, .ref 0), (1, .int (I a)), (2, .int (I z))] rfl ?_
  refine x_iload_n 6 hK rfl rfl rfl ?_
  refine x_istore 8 hK rfl rfl [(5, .int (I a)), (4, .int (I 0)), (3, .int (I 0)), (0, .ref 0), (1, .int (I a)), (2, .int (I z))] rfl ?_
  exact loop _ 0 0 a _ rfl (by omega) (by rw [show a - a = 0 by omega]; rfl) (by rw [show a - a = 0 by omega]; rfl) rfl rfl rfl rfl rfl rfl
set_option maxRecDepth 4000 in
theorem ctX11_lastsForF {SP : CT} (hSP : MONO SP) {sh : List (Nat × Nat)} {h : aH} (hG : GD gE gRL sh h) {fd ea : Nat → Int} (hf : ∀ j : Nat, (j : Int) < gi h 171 7 → gi h 178 (41 + j) = fd j ∧ 0 ≤ fd j ∧ fd j ≤ 99) (he : ∀ j : Nat, (j : Int) < gi h 171 7 → gi h 177 j = ea j ∧ 0 ≤ ea j ∧ ea j ≤ 9) {a z : Int} (ha : 0 ≤ a) (haz : a ≤ z + 1) (hz : z < (gi h 171 7)) : CLd SP 1 mX11_lastsFor [.ref 171, .int (I a), .int (I z)] h 0 0 (fun rv h' => h' = h ∧ rv = some (.int (I (luF fd ea a z)))) := by
  refine x_met _ rfl (Nat.le_of_ble_eq_true rfl) (fun K hK => ?_)
  have hmono := MONO_CLd hSP 0
  have g9 := gri 0 8 hG (a := 171) (r := 54) (k := 7) rfl rfl
  have loop : ∀ (mz : Nat) (s t i : Int) (ls : List (Nat × Value)), ((z + 1 - i).toNat = mz) → (a ≤ i ∧ i ≤ z + 1) → (s = sumF fd a (i - a).toNat) → (t = sumF ea a (i - a).toNat) → lk ls 0 = some (.ref 171) → lk ls 1 = some (.int (I a)) → lk ls 2 = some (.int (I z)) → lk ls 3 = some (.int (I s)) → lk ls 4 = some (.int (I t)) → lk ls 5 = some (.int (I i)) → K 8 ls [] h 0 0 := by
    intro mz
    induction mz using Nat.strongRecOn with
    | ind mz ih =>
    intro s t i ls hm i0 s0 t0 l0 l1 l2 l3 l4 l5
    have sb := sumF_b (f := fd) (B := 99) ha (by omega) (fun j hj => (hf j hj).2) (i - a).toNat (by omega)
    have tb := sumF_b (f := ea) (B := 9) ha (by omega) (fun j hj => (he j hj).2) (i - a).toNat (by omega)
    have fi := fun y : i ≤ z => hf i.toNat (by omega)
    have ei := fun y : i ≤ z => he i.toNat (by omega)
    refine x_iload 10 hK rfl rfl l5 ?_
    refine x_iload_n 11 hK rfl rfl l2 ?_
    refine x_if_icmp_gt 45 14 hK rfl rfl rfl (by omega) (by omega) (fun c3 => ?_) (fun c3 => ?_)
    · refine x_iload 47 hK rfl rfl l4 ?_
      refine x_if_ne 56 50 hK rfl rfl rfl (by omega) (fun c5 => ?_) (fun c5 => ?_)
      · refine x_iload_n 57 hK rfl rfl l3 ?_
        refine x_iload 59 hK rfl rfl l4 ?_
        refine x_idivp 60 hK rfl rfl (by omega) (by omega) (by omega) (by omega) ?_
        have ew : luF fd ea a z = (s / t) := by
          unfold luF
          rw [show (z + 1 - a).toNat = (i - a).toNat by omega, ← s0, ← t0]
          rw [if_neg (by omega)]
        exact x_iret hK rfl ⟨rfl, by rw [ew]⟩
      · refine x_ldc_w 53 hK rfl rfl ?_
        refine x_goto 60 hK rfl rfl ?_
        have ew : luF fd ea a z = 99999 := by
          unfold luF
          rw [show (z + 1 - a).toNat = (i - a).toNat by omega, ← s0, ← t0]
          rw [if_pos (by omega)]
        exact x_iret hK rfl ⟨rfl, by rw [ew]⟩
    · have fi2 := fi (by omega)
      have ei2 := ei (by omega)
      refine x_iload_n 15 hK rfl rfl l3 ?_
      refine x_aload_n 16 hK rfl rfl l0 ?_
      refine x_getR 19 hK rfl rfl (sp_171 (h := h) hG) (rf_171_14 (h := h) hG) ?_
      refine x_bipush 21 hK rfl rfl rfl ?_
      refine x_iload 23 hK rfl rfl l5 ?_
      refine x_iadd 24 hK rfl rfl ?_
      refine x_ialoadE 25 hK rfl rfl (sp_178 (h := h) hG) (by omega) (by omega) (by omega) (e' := (fd i.toNat)) ((gi_to (show (41 + i).toNat = 41 + i.toNat by omega)).trans (fi (by omega)).1) ?_
      refine x_iadd 26 hK rfl rfl ?_
      refine x_istore_n 27 hK rfl rfl _ rfl ?_
      refine x_iload 29 hK rfl rfl (lk1_n l4 (by decide) (Or.inl rfl)) ?_
      refine x_aload_n 30 hK rfl rfl (lk1_n l0 (by decide) (Or.inl rfl)) ?_
      refine x_getR 33 hK rfl rfl (sp_171 (h := h) hG) (rf_171_13 (h := h) hG) ?_
      refine x_iload 35 hK rfl rfl (lk1_n l5 (by decide) (Or.inl rfl)) ?_
      refine x_ialoadE 36 hK rfl rfl (sp_177 (h := h) hG) (by omega) (by omega) (by omega) (e' := (ea i.toNat)) ((ei (by omega)).1) ?_
      refine x_iadd 37 hK rfl rfl ?_
      refine x_istore 39 hK rfl rfl _ rfl ?_
      refine x_iinc 42 hK rfl rfl (lk1_n (lk1_n l5 (by decide) (Or.inl rfl)) (by decide) (Or.inl rfl)) _ rfl ?_
      refine x_goto 8 hK rfl rfl ?_
      exact ih _ (by omega) (s + (fd i.toNat)) (t + (ea i.toNat)) (i + 1) _ rfl (by omega) (by rw [s0, sumF_s i0.1]) (by rw [t0, sumF_s i0.1]) (lk1_n (lk1_n (lk1_n l0 (by decide) (Or.inl rfl)) (by decide) (Or.inl rfl)) (by decide) (Or.inl rfl)) (lk1_n (lk1_n (lk1_n l1 (by decide) (Or.inl rfl)) (by decide) (Or.inl rfl)) (by decide) (Or.inl rfl)) (lk1_n (lk1_n (lk1_n l2 (by decide) (Or.inl rfl)) (by decide) (Or.inl rfl)) (by decide) (Or.inl rfl)) (lk1_n (lk1_n lk1_s (by decide) (Or.inl rfl)) (by decide) (Or.inl rfl)) (lk1_n lk1_s (by decide) (Or.inl rfl)) lk1_s
  refine x_iconst 1 hK rfl rfl ?_
  refine x_istore_n 2 hK rfl rfl [(3, .int (I 0)), (0, .ref 171), (1, .int (I a)), (2, .int (I z))] rfl ?_
  refine x_iconst 3 hK rfl rfl ?_
  refine x_istore 5 hK rfl rfl [(4, .int (I 0)), (3, .int (I 0)), (0, .ref 171), (1, .int (I a)), (2, .int (I z))] rfl ?_
  refine x_iload_n 6 hK rfl rfl rfl ?_
  refine x_istore 8 hK rfl rfl [(5, .int (I a)), (4, .int (I 0)), (3, .int (I 0)), (0, .ref 171), (1, .int (I a)), (2, .int (I z))] rfl ?_
  exact loop _ 0 0 a _ rfl (by omega) (by rw [show a - a = 0 by omega]; rfl) (by rw [show a - a = 0 by omega]; rfl) rfl rfl rfl rfl rfl rfl
set_option maxRecDepth 4000 in
theorem ctX10_livesF {SP : CT} (hSP : MONO SP) {sh : List (Nat × Nat)} {h : aH} (hG : GD gE gRL sh h) {fd ea : Nat → Int} (hf : ∀ j : Nat, (j : Int) < gi h 0 9 → gi h 26 j = fd j ∧ 0 ≤ fd j ∧ fd j ≤ 99) (he : ∀ j : Nat, (j : Int) < gi h 0 9 → gi h 22 j = ea j ∧ 0 ≤ ea j ∧ ea j ≤ 9) {n : Int} (rn : r32 n) : CLd SP 3 mX10_lives [.ref 0, .int (I n)] h 0 0 (fun rv h' => ((¬ ((0 ≤ n ∧ n ≤ 3) ∧ gi h 0 9 ≠ 0) ∧ rv = some (.int (I (-1))) ∧ h' = h) ∨ (((0 ≤ n ∧ n ≤ 3) ∧ gi h 0 9 ≠ 0) ∧ rv = some (.int (I (lvF fd ea n (gi h 0 9) (gi h 0 9).toNat).1)) ∧ gi h' 3 1 = 1 ∧ crow h' = [(lvF fd ea n (gi h 0 9) (gi h 0 9).toNat).2])) ∧ GD gE gRL sh h' ∧ FRM gRL [(0, 3, 1, 1), (1, 4, 0, 29)] h h') := by
  refine x_met _ rfl (Nat.le_of_ble_eq_true rfl) (fun K hK => ?_)
  have hmono := MONO_CLd hSP 2
  have g9 := gri 0 8 hG (a := 0) (r := 0) (k := 9) rfl rfl
  have loop : ∀ (mz : Nat) (s w i : Int) (ls : List (Nat × Value)), ((gi h 0 9 - i).toNat = mz) → ((0 ≤ n ∧ n ≤ 3) ∧ gi h 0 9 ≠ 0) → (0 ≤ i ∧ i ≤ gi h 0 9) → ((lvF fd ea n (gi h 0 9) i.toNat) = (s, w)) → (0 ≤ s ∧ s ≤ 99999) → (-1 ≤ w ∧ w ≤ 8) → lk ls 0 = some (.ref 0) → lk ls 1 = some (.int (I n)) → lk ls 2 = some (.int (I s)) → lk ls 3 = some (.int (I w)) → lk ls 4 = some (.int (I i)) → K 27 ls [] h 0 0 := by
    intro mz
    induction mz using Nat.strongRecOn with
    | ind mz ih =>
    intro s w i ls hm n0 i0 e0 s0 w0 l0 l1 l2 l3 l4
    refine x_iload 29 hK rfl rfl l4 ?_
    refine x_aload_n 30 hK rfl rfl l0 ?_
    have g578 := gri (0) (8) hG (a := 0) (r := 0) (k := 9) rfl rfl
    refine x_getE 33 hK rfl (Or.inl rfl) rfl (sp_0 (h := h) hG) (e := (gi h 0 9)) (rfl) ?_
    refine x_if_icmp_ge 103 36 hK rfl rfl rfl (by omega) (by omega) (fun c4 => ?_) (fun c4 => ?_)
    · refine x_aload_n 104 hK rfl rfl l0 ?_
      refine x_getR 107 hK rfl rfl (sp_0 (h := h) hG) (rf_0_1 (h := h) hG) ?_
      refine x_iload_n 108 hK rfl rfl l3 ?_
      refine x_i2l 109 hK rfl rfl (by omega) ?_
      refine x_callV 112 hK hmono rfl rfl [.ref 3, .long (J w)] [] rfl rfl (Nat.le_of_ble_eq_true rfl) (Nat.le_of_ble_eq_true rfl) rfl (sp_3 (h := h) hG) (CLd_le (Nat.le_of_ble_eq_true rfl) (ctX3_tellOne hSP hG (by omega))) ?_
      rintro v579 h579 ⟨rfl, hG579, hF579, t579, s579⟩
      refine x_iload_n 113 hK rfl rfl l2 ?_
      obtain ei : i = gi h 0 9 := by omega
      rw [ei] at e0
      exact x_iret hK rfl ⟨Or.inr ⟨n0, by rw [e0], t579, by rw [e0]; exact s579⟩, hG579, hF579⟩
    · refine x_iload_n 37 hK rfl rfl l1 ?_
      refine x_if_eq 45 40 hK rfl rfl rfl (by omega) (fun c13 => ?_) (fun c13 => ?_)
      · refine x_iload 47 hK rfl rfl l4 ?_
        refine x_goto 51 hK rfl rfl ?_
        refine x_istore 53 hK rfl rfl _ rfl ?_
        refine x_iload_n 54 hK rfl rfl (lk1_n l1 (by decide) (Or.inl rfl)) ?_
        refine x_if_eq 62 57 hK rfl rfl rfl (by omega) (fun _ => ?_) (fun c => by omega)
        refine x_iload 64 hK rfl rfl (lk1_n l4 (by decide) (Or.inl rfl)) ?_
        refine x_goto 73 hK rfl rfl ?_
        refine x_istore 75 hK rfl rfl _ rfl ?_
        refine x_aload_n 76 hK rfl rfl (lk1_n (lk1_n l0 (by decide) (Or.inl rfl)) (by decide) (Or.inl rfl)) ?_
        refine x_iload 78 hK rfl rfl (lk1_n lk1_s (by decide) (Or.inl rfl)) ?_
        refine x_iload 80 hK rfl rfl lk1_s ?_
        have me580 : gi h 0 9 = (gi h 0 9) := rfl
        have lb580 := luF_b (fd := fd) (ea := ea) (a := i) (b := i) (m := (gi h 0 9)) (by omega) (by omega) g9.2 (fun j hj => (hf j hj).2) (fun j hj => (he j hj).2) (by omega)
        refine x_callV 83 hK hmono rfl rfl [.ref 0, .int (I i), .int (I i)] [] rfl rfl (Nat.le_of_ble_eq_true rfl) (Nat.le_of_ble_eq_true rfl) rfl (sp_0 (h := h) hG) (CLd_le (Nat.le_of_ble_eq_true rfl) (ctX10_lastsForF hSP hG (fd := fd) (ea := ea) (a := i) (z := i) (by rw [me580]; exact hf) (by rw [me580]; exact he) (by omega) (by omega) (by rw [me580]; omega))) ?_
        rintro v9 h9 ⟨e9, rfl⟩
        rw [e9]
        clear e9
        refine x_istore 85 hK rfl rfl _ rfl ?_
        refine x_iload 87 hK rfl rfl lk1_s ?_
        refine x_iload_n 88 hK rfl rfl (lk1_n (lk1_n (lk1_n l2 (by decide) (Or.inl rfl)) (by decide) (Or.inl rfl)) (by decide) (Or.inl rfl)) ?_
        refine x_if_icmp_ge 97 91 hK rfl rfl rfl (by omega) (by omega) (fun c29 => ?_) (fun c29 => ?_)
        · refine x_iinc 100 hK rfl rfl (lk1_n (lk1_n (lk1_n l4 (by decide) (Or.inl rfl)) (by decide) (Or.inl rfl)) (by decide) (Or.inl rfl)) _ rfl ?_
          refine x_goto 27 hK rfl rfl ?_
          have tt : lvT fd ea n (gi h 0 9) i = (luF fd ea i i) := by unfold lvT; first | (rw [if_pos (by omega), if_pos (by omega)]; done) | (rw [if_pos (by omega), if_neg (by omega)]; done) | (rw [if_neg (by omega), if_pos (by omega)]; done) | (rw [if_neg (by omega), if_neg (by omega)]; done)
          have en : (lvF fd ea n (gi h 0 9) (i + 1).toNat) = (s, w) := by rw [lvF_s i0.1, e0, tt]; exact if_neg (by show ¬ (luF fd ea i i) < s; omega)
          exact ih _ (by omega) s w (i + 1) _ rfl (n0) (by omega) (en) (by omega) (by omega) (lk1_n (lk1_n (lk1_n (lk1_n l0 (by decide) (Or.inl rfl)) (by decide) (Or.inl rfl)) (by decide) (Or.inl rfl)) (by decide) (Or.inl rfl)) (lk1_n (lk1_n (lk1_n (lk1_n l1 (by decide) (Or.inl rfl)) (by decide) (Or.inl rfl)) (by decide) (Or.inl rfl)) (by decide) (Or.inl rfl)) (lk1_n (lk1_n (lk1_n (lk1_n l2 (by decide) (Or.inl rfl)) (by decide) (Or.inl rfl)) (by decide) (Or.inl rfl)) (by decide) (Or.inl rfl)) (lk1_n (lk1_n (lk1_n (lk1_n l3 (by decide) (Or.inl rfl)) (by decide) (Or.inl rfl)) (by decide) (Or.inl rfl)) (by decide) (Or.inl rfl)) lk1_s
        · refine x_iload 93 hK rfl rfl lk1_s ?_
          refine x_istore_n 94 hK rfl rfl _ rfl ?_
          refine x_iload 96 hK rfl rfl (lk1_n (lk1_n (lk1_n (lk1_n l4 (by decide) (Or.inl rfl)) (by decide) (Or.inl rfl)) (by decide) (Or.inl rfl)) (by decide) (Or.inl rfl)) ?_
          refine x_istore_n 97 hK rfl rfl _ rfl ?_
          refine x_iinc 100 hK rfl rfl (lk1_n (lk1_n (lk1_n (lk1_n (lk1_n l4 (by decide) (Or.inl rfl)) (by decide) (Or.inl rfl)) (by decide) (Or.inl rfl)) (by decide) (Or.inl rfl)) (by decide) (Or.inl rfl)) _ rfl ?_
          refine x_goto 27 hK rfl rfl ?_
          have tt : lvT fd ea n (gi h 0 9) i = (luF fd ea i i) := by unfold lvT; first | (rw [if_pos (by omega), if_pos (by omega)]; done) | (rw [if_pos (by omega), if_neg (by omega)]; done) | (rw [if_neg (by omega), if_pos (by omega)]; done) | (rw [if_neg (by omega), if_neg (by omega)]; done)
          have en : (lvF fd ea n (gi h 0 9) (i + 1).toNat) = ((luF fd ea i i), i) := by rw [lvF_s i0.1, e0, tt]; exact if_pos (by show (luF fd ea i i) < s; omega)
          exact ih _ (by omega) (luF fd ea i i) i (i + 1) _ rfl (n0) (by omega) (en) (by omega) (by omega) (lk1_n (lk1_n (lk1_n (lk1_n (lk1_n (lk1_n l0 (by decide) (Or.inl rfl)) (by decide) (Or.inl rfl)) (by decide) (Or.inl rfl)) (by decide) (Or.inl rfl)) (by decide) (Or.inl rfl)) (by decide) (Or.inl rfl)) (lk1_n (lk1_n (lk1_n (lk1_n (lk1_n (lk1_n l1 (by decide) (Or.inl rfl)) (by decide) (Or.inl rfl)) (by decide) (Or.inl rfl)) (by decide) (Or.inl rfl)) (by decide) (Or.inl rfl)) (by decide) (Or.inl rfl)) (lk1_n (lk1_n lk1_s (by decide) (Or.inl rfl)) (by decide) (Or.inl rfl)) (lk1_n lk1_s (by decide) (Or.inl rfl)) lk1_s
      · refine x_iload_n 41 hK rfl rfl l1 ?_
        refine x_iconst 42 hK rfl rfl ?_
        refine x_if_icmp_ne 50 45 hK rfl rfl rfl (by omega) (by omega) (fun c42 => ?_) (fun c42 => ?_)
        · refine x_iconst 51 hK rfl rfl ?_
          refine x_istore 53 hK rfl rfl _ rfl ?_
          refine x_iload_n 54 hK rfl rfl (lk1_n l1 (by decide) (Or.inl rfl)) ?_
          refine x_if_eq 62 57 hK rfl rfl rfl (by omega) (fun c => by omega) (fun _ => ?_)
          refine x_iload_n 58 hK rfl rfl (lk1_n l1 (by decide) (Or.inl rfl)) ?_
          refine x_iconst 59 hK rfl rfl ?_
          refine x_if_icmp_ne 67 62 hK rfl rfl rfl (by omega) (by omega) (fun c49 => ?_) (fun c49 => ?_)
          · refine x_aload_n 68 hK rfl rfl (lk1_n l0 (by decide) (Or.inl rfl)) ?_
            refine x_getE 71 hK rfl (Or.inl rfl) rfl (sp_0 (h := h) hG) (e := (gi h 0 9)) (rfl) ?_
            refine x_iconst 72 hK rfl rfl ?_
            refine x_isub 73 hK rfl rfl ?_
            refine x_istore 75 hK rfl rfl _ rfl ?_
            refine x_aload_n 76 hK rfl rfl (lk1_n (lk1_n l0 (by decide) (Or.inl rfl)) (by decide) (Or.inl rfl)) ?_
            refine x_iload 78 hK rfl rfl (lk1_n lk1_s (by decide) (Or.inl rfl)) ?_
            refine x_iload 80 hK rfl rfl lk1_s ?_
            have me581 : gi h 0 9 = (gi h 0 9) := rfl
            have lb581 := luF_b (fd := fd) (ea := ea) (a := 0) (b := ((gi h 0 9) - 1)) (m := (gi h 0 9)) (by omega) (by omega) g9.2 (fun j hj => (hf j hj).2) (fun j hj => (he j hj).2) (by omega)
            refine x_callV 83 hK hmono rfl rfl [.ref 0, .int (I 0), .int (I ((gi h 0 9) - 1))] [] rfl rfl (Nat.le_of_ble_eq_true rfl) (Nat.le_of_ble_eq_true rfl) rfl (sp_0 (h := h) hG) (CLd_le (Nat.le_of_ble_eq_true rfl) (ctX10_lastsForF hSP hG (fd := fd) (ea := ea) (a := 0) (z := ((gi h 0 9) - 1)) (by rw [me581]; exact hf) (by rw [me581]; exact he) (by omega) (by omega) (by rw [me581]; omega))) ?_
            rintro v9 h9 ⟨e9, rfl⟩
            rw [e9]
            clear e9
            refine x_istore 85 hK rfl rfl _ rfl ?_
            refine x_iload 87 hK rfl rfl lk1_s ?_
            refine x_iload_n 88 hK rfl rfl (lk1_n (lk1_n (lk1_n l2 (by decide) (Or.inl rfl)) (by decide) (Or.inl rfl)) (by decide) (Or.inl rfl)) ?_
            refine x_if_icmp_ge 97 91 hK rfl rfl rfl (by omega) (by omega) (fun c62 => ?_) (fun c62 => ?_)
            · refine x_iinc 100 hK rfl rfl (lk1_n (lk1_n (lk1_n l4 (by decide) (Or.inl rfl)) (by decide) (Or.inl rfl)) (by decide) (Or.inl rfl)) _ rfl ?_
              refine x_goto 27 hK rfl rfl ?_
              have tt : lvT fd ea n (gi h 0 9) i = (luF fd ea 0 ((gi h 0 9) - 1)) := by unfold lvT; first | (rw [if_pos (by omega), if_pos (by omega)]; done) | (rw [if_pos (by omega), if_neg (by omega)]; done) | (rw [if_neg (by omega), if_pos (by omega)]; done) | (rw [if_neg (by omega), if_neg (by omega)]; done)
              have en : (lvF fd ea n (gi h 0 9) (i + 1).toNat) = (s, w) := by rw [lvF_s i0.1, e0, tt]; exact if_neg (by show ¬ (luF fd ea 0 ((gi h 0 9) - 1)) < s; omega)
              exact ih _ (by omega) s w (i + 1) _ rfl (n0) (by omega) (en) (by omega) (by omega) (lk1_n (lk1_n (lk1_n (lk1_n l0 (by decide) (Or.inl rfl)) (by decide) (Or.inl rfl)) (by decide) (Or.inl rfl)) (by decide) (Or.inl rfl)) (lk1_n (lk1_n (lk1_n (lk1_n l1 (by decide) (Or.inl rfl)) (by decide) (Or.inl rfl)) (by decide) (Or.inl rfl)) (by decide) (Or.inl rfl)) (lk1_n (lk1_n (lk1_n (lk1_n l2 (by decide) (Or.inl rfl)) (by decide) (Or.inl rfl)) (by decide) (Or.inl rfl)) (by decide) (Or.inl rfl)) (lk1_n (lk1_n (lk1_n (lk1_n l3 (by decide) (Or.inl rfl)) (by decide) (Or.inl rfl)) (by decide) (Or.inl rfl)) (by decide) (Or.inl rfl)) lk1_s
            · refine x_iload 93 hK rfl rfl lk1_s ?_
              refine x_istore_n 94 hK rfl rfl _ rfl ?_
              refine x_iload 96 hK rfl rfl (lk1_n (lk1_n (lk1_n (lk1_n l4 (by decide) (Or.inl rfl)) (by decide) (Or.inl rfl)) (by decide) (Or.inl rfl)) (by decide) (Or.inl rfl)) ?_
              refine x_istore_n 97 hK rfl rfl _ rfl ?_
              refine x_iinc 100 hK rfl rfl (lk1_n (lk1_n (lk1_n (lk1_n (lk1_n l4 (by decide) (Or.inl rfl)) (by decide) (Or.inl rfl)) (by decide) (Or.inl rfl)) (by decide) (Or.inl rfl)) (by decide) (Or.inl rfl)) _ rfl ?_
              refine x_goto 27 hK rfl rfl ?_
              have tt : lvT fd ea n (gi h 0 9) i = (luF fd ea 0 ((gi h 0 9) - 1)) := by unfold lvT; first | (rw [if_pos (by omega), if_pos (by omega)]; done) | (rw [if_pos (by omega), if_neg (by omega)]; done) | (rw [if_neg (by omega), if_pos (by omega)]; done) | (rw [if_neg (by omega), if_neg (by omega)]; done)
              have en : (lvF fd ea n (gi h 0 9) (i + 1).toNat) = ((luF fd ea 0 ((gi h 0 9) - 1)), i) := by rw [lvF_s i0.1, e0, tt]; exact if_pos (by show (luF fd ea 0 ((gi h 0 9) - 1)) < s; omega)
              exact ih _ (by omega) (luF fd ea 0 ((gi h 0 9) - 1)) i (i + 1) _ rfl (n0) (by omega) (en) (by omega) (by omega) (lk1_n (lk1_n (lk1_n (lk1_n (lk1_n (lk1_n l0 (by decide) (Or.inl rfl)) (by decide) (Or.inl rfl)) (by decide) (Or.inl rfl)) (by decide) (Or.inl rfl)) (by decide) (Or.inl rfl)) (by decide) (Or.inl rfl)) (lk1_n (lk1_n (lk1_n (lk1_n (lk1_n (lk1_n l1 (by decide) (Or.inl rfl)) (by decide) (Or.inl rfl)) (by decide) (Or.inl rfl)) (by decide) (Or.inl rfl)) (by decide) (Or.inl rfl)) (by decide) (Or.inl rfl)) (lk1_n (lk1_n lk1_s (by decide) (Or.inl rfl)) (by decide) (Or.inl rfl)) (lk1_n lk1_s (by decide) (Or.inl rfl)) lk1_s
          · refine x_iload 64 hK rfl rfl (lk1_n l4 (by decide) (Or.inl rfl)) ?_
            refine x_goto 73 hK rfl rfl ?_
            refine x_istore 75 hK rfl rfl _ rfl ?_
            refine x_aload_n 76 hK rfl rfl (lk1_n (lk1_n l0 (by decide) (Or.inl rfl)) (by decide) (Or.inl rfl)) ?_
            refine x_iload 78 hK rfl rfl (lk1_n lk1_s (by decide) (Or.inl rfl)) ?_
            refine x_iload 80 hK rfl rfl lk1_s ?_
            have me582 : gi h 0 9 = (gi h 0 9) := rfl
            have lb582 := luF_b (fd := fd) (ea := ea) (a := 0) (b := i) (m := (gi h 0 9)) (by omega) (by omega) g9.2 (fun j hj => (hf j hj).2) (fun j hj => (he j hj).2) (by omega)
            refine x_callV 83 hK hmono rfl rfl [.ref 0, .int (I 0), .int (I i)] [] rfl rfl (Nat.le_of_ble_eq_true rfl) (Nat.le_of_ble_eq_true rfl) rfl (sp_0 (h := h) hG) (CLd_le (Nat.le_of_ble_eq_true rfl) (ctX10_lastsForF hSP hG (fd := fd) (ea := ea) (a := 0) (z := i) (by rw [me582]; exact hf) (by rw [me582]; exact he) (by omega) (by omega) (by rw [me582]; omega))) ?_
            rintro v9 h9 ⟨e9, rfl⟩
            rw [e9]
            clear e9
            refine x_istore 85 hK rfl rfl _ rfl ?_
            refine x_iload 87 hK rfl rfl lk1_s ?_
            refine x_iload_n 88 hK rfl rfl (lk1_n (lk1_n (lk1_n l2 (by decide) (Or.inl rfl)) (by decide) (Or.inl rfl)) (by decide) (Or.inl rfl)) ?_
            refine x_if_icmp_ge 97 91 hK rfl rfl rfl (by omega) (by omega) (fun c83 => ?_) (fun c83 => ?_)
            · refine x_iinc 100 hK rfl rfl (lk1_n (lk1_n (lk1_n l4 (by decide) (Or.inl rfl)) (by decide) (Or.inl rfl)) (by decide) (Or.inl rfl)) _ rfl ?_
              refine x_goto 27 hK rfl rfl ?_
              have tt : lvT fd ea n (gi h 0 9) i = (luF fd ea 0 i) := by unfold lvT; first | (rw [if_pos (by omega), if_pos (by omega)]; done) | (rw [if_pos (by omega), if_neg (by omega)]; done) | (rw [if_neg (by omega), if_pos (by omega)]; done) | (rw [if_neg (by omega), if_neg (by omega)]; done)
              have en : (lvF fd ea n (gi h 0 9) (i + 1).toNat) = (s, w) := by rw [lvF_s i0.1, e0, tt]; exact if_neg (by show ¬ (luF fd ea 0 i) < s; omega)
              exact ih _ (by omega) s w (i + 1) _ rfl (n0) (by omega) (en) (by omega) (by omega) (lk1_n (lk1_n (lk1_n (lk1_n l0 (by decide) (Or.inl rfl)) (by decide) (Or.inl rfl)) (by decide) (Or.inl rfl)) (by decide) (Or.inl rfl)) (lk1_n (lk1_n (lk1_n (lk1_n l1 (by decide) (Or.inl rfl)) (by decide) (Or.inl rfl)) (by decide) (Or.inl rfl)) (by decide) (Or.inl rfl)) (lk1_n (lk1_n (lk1_n (lk1_n l2 (by decide) (Or.inl rfl)) (by decide) (Or.inl rfl)) (by decide) (Or.inl rfl)) (by decide) (Or.inl rfl)) (lk1_n (lk1_n (lk1_n (lk1_n l3 (by decide) (Or.inl rfl)) (by decide) (Or.inl rfl)) (by decide) (Or.inl rfl)) (by decide) (Or.inl rfl)) lk1_s
            · refine x_iload 93 hK rfl rfl lk1_s ?_
              refine x_istore_n 94 hK rfl rfl _ rfl ?_
              refine x_iload 96 hK rfl rfl (lk1_n (lk1_n (lk1_n (lk1_n l4 (by decide) (Or.inl rfl)) (by decide) (Or.inl rfl)) (by decide) (Or.inl rfl)) (by decide) (Or.inl rfl)) ?_
              refine x_istore_n 97 hK rfl rfl _ rfl ?_
              refine x_iinc 100 hK rfl rfl (lk1_n (lk1_n (lk1_n (lk1_n (lk1_n l4 (by decide) (Or.inl rfl)) (by decide) (Or.inl rfl)) (by decide) (Or.inl rfl)) (by decide) (Or.inl rfl)) (by decide) (Or.inl rfl)) _ rfl ?_
              refine x_goto 27 hK rfl rfl ?_
              have tt : lvT fd ea n (gi h 0 9) i = (luF fd ea 0 i) := by unfold lvT; first | (rw [if_pos (by omega), if_pos (by omega)]; done) | (rw [if_pos (by omega), if_neg (by omega)]; done) | (rw [if_neg (by omega), if_pos (by omega)]; done) | (rw [if_neg (by omega), if_neg (by omega)]; done)
              have en : (lvF fd ea n (gi h 0 9) (i + 1).toNat) = ((luF fd ea 0 i), i) := by rw [lvF_s i0.1, e0, tt]; exact if_pos (by show (luF fd ea 0 i) < s; omega)
              exact ih _ (by omega) (luF fd ea 0 i) i (i + 1) _ rfl (n0) (by omega) (en) (by omega) (by omega) (lk1_n (lk1_n (lk1_n (lk1_n (lk1_n (lk1_n l0 (by decide) (Or.inl rfl)) (by decide) (Or.inl rfl)) (by decide) (Or.inl rfl)) (by decide) (Or.inl rfl)) (by decide) (Or.inl rfl)) (by decide) (Or.inl rfl)) (lk1_n (lk1_n (lk1_n (lk1_n (lk1_n (lk1_n l1 (by decide) (Or.inl rfl)) (by decide) (Or.inl rfl)) (by decide) (Or.inl rfl)) (by decide) (Or.inl rfl)) (by decide) (Or.inl rfl)) (by decide) (Or.inl rfl)) (lk1_n (lk1_n lk1_s (by decide) (Or.inl rfl)) (by decide) (Or.inl rfl)) (lk1_n lk1_s (by decide) (Or.inl rfl)) lk1_s
        · refine x_iload 47 hK rfl rfl l4 ?_
          refine x_goto 51 hK rfl rfl ?_
          refine x_istore 53 hK rfl rfl _ rfl ?_
          refine x_iload_n 54 hK rfl rfl (lk1_n l1 (by decide) (Or.inl rfl)) ?_
          refine x_if_eq 62 57 hK rfl rfl rfl (by omega) (fun c => by omega) (fun _ => ?_)
          refine x_iload_n 58 hK rfl rfl (lk1_n l1 (by decide) (Or.inl rfl)) ?_
          refine x_iconst 59 hK rfl rfl ?_
          refine x_if_icmp_ne 67 62 hK rfl rfl rfl (by omega) (by omega) (fun _ => ?_) (fun c => by omega)
          refine x_aload_n 68 hK rfl rfl (lk1_n l0 (by decide) (Or.inl rfl)) ?_
          refine x_getE 71 hK rfl (Or.inl rfl) rfl (sp_0 (h := h) hG) (e := (gi h 0 9)) (rfl) ?_
          refine x_iconst 72 hK rfl rfl ?_
          refine x_isub 73 hK rfl rfl ?_
          refine x_istore 75 hK rfl rfl _ rfl ?_
          refine x_aload_n 76 hK rfl rfl (lk1_n (lk1_n l0 (by decide) (Or.inl rfl)) (by decide) (Or.inl rfl)) ?_
          refine x_iload 78 hK rfl rfl (lk1_n lk1_s (by decide) (Or.inl rfl)) ?_
          refine x_iload 80 hK rfl rfl lk1_s ?_
          have me583 : gi h 0 9 = (gi h 0 9) := rfl
          have lb583 := luF_b (fd := fd) (ea := ea) (a := i) (b := ((gi h 0 9) - 1)) (m := (gi h 0 9)) (by omega) (by omega) g9.2 (fun j hj => (hf j hj).2) (fun j hj => (he j hj).2) (by omega)
          refine x_callV 83 hK hmono rfl rfl [.ref 0, .int (I i), .int (I ((gi h 0 9) - 1))] [] rfl rfl (Nat.le_of_ble_eq_true rfl) (Nat.le_of_ble_eq_true rfl) rfl (sp_0 (h := h) hG) (CLd_le (Nat.le_of_ble_eq_true rfl) (ctX10_lastsForF hSP hG (fd := fd) (ea := ea) (a := i) (z := ((gi h 0 9) - 1)) (by rw [me583]; exact hf) (by rw [me583]; exact he) (by omega) (by omega) (by rw [me583]; omega))) ?_
          rintro v9 h9 ⟨e9, rfl⟩
          rw [e9]
          clear e9
          refine x_istore 85 hK rfl rfl _ rfl ?_
          refine x_iload 87 hK rfl rfl lk1_s ?_
          refine x_iload_n 88 hK rfl rfl (lk1_n (lk1_n (lk1_n l2 (by decide) (Or.inl rfl)) (by decide) (Or.inl rfl)) (by decide) (Or.inl rfl)) ?_
          refine x_if_icmp_ge 97 91 hK rfl rfl rfl (by omega) (by omega) (fun c114 => ?_) (fun c114 => ?_)
          · refine x_iinc 100 hK rfl rfl (lk1_n (lk1_n (lk1_n l4 (by decide) (Or.inl rfl)) (by decide) (Or.inl rfl)) (by decide) (Or.inl rfl)) _ rfl ?_
            refine x_goto 27 hK rfl rfl ?_
            have tt : lvT fd ea n (gi h 0 9) i = (luF fd ea i ((gi h 0 9) - 1)) := by unfold lvT; first | (rw [if_pos (by omega), if_pos (by omega)]; done) | (rw [if_pos (by omega), if_neg (by omega)]; done) | (rw [if_neg (by omega), if_pos (by omega)]; done) | (rw [if_neg (by omega), if_neg (by omega)]; done)
            have en : (lvF fd ea n (gi h 0 9) (i + 1).toNat) = (s, w) := by rw [lvF_s i0.1, e0, tt]; exact if_neg (by show ¬ (luF fd ea i ((gi h 0 9) - 1)) < s; omega)
            exact ih _ (by omega) s w (i + 1) _ rfl (n0) (by omega) (en) (by omega) (by omega) (lk1_n (lk1_n (lk1_n (lk1_n l0 (by decide) (Or.inl rfl)) (by decide) (Or.inl rfl)) (by decide) (Or.inl rfl)) (by decide) (Or.inl rfl)) (lk1_n (lk1_n (lk1_n (lk1_n l1 (by decide) (Or.inl rfl)) (by decide) (Or.inl rfl)) (by decide) (Or.inl rfl)) (by decide) (Or.inl rfl)) (lk1_n (lk1_n (lk1_n (lk1_n l2 (by decide) (Or.inl rfl)) (by decide) (Or.inl rfl)) (by decide) (Or.inl rfl)) (by decide) (Or.inl rfl)) (lk1_n (lk1_n (lk1_n (lk1_n l3 (by decide) (Or.inl rfl)) (by decide) (Or.inl rfl)) (by decide) (Or.inl rfl)) (by decide) (Or.inl rfl)) lk1_s
          · refine x_iload 93 hK rfl rfl lk1_s ?_
            refine x_istore_n 94 hK rfl rfl _ rfl ?_
            refine x_iload 96 hK rfl rfl (lk1_n (lk1_n (lk1_n (lk1_n l4 (by decide) (Or.inl rfl)) (by decide) (Or.inl rfl)) (by decide) (Or.inl rfl)) (by decide) (Or.inl rfl)) ?_
            refine x_istore_n 97 hK rfl rfl _ rfl ?_
            refine x_iinc 100 hK rfl rfl (lk1_n (lk1_n (lk1_n (lk1_n (lk1_n l4 (by decide) (Or.inl rfl)) (by decide) (Or.inl rfl)) (by decide) (Or.inl rfl)) (by decide) (Or.inl rfl)) (by decide) (Or.inl rfl)) _ rfl ?_
            refine x_goto 27 hK rfl rfl ?_
            have tt : lvT fd ea n (gi h 0 9) i = (luF fd ea i ((gi h 0 9) - 1)) := by unfold lvT; first | (rw [if_pos (by omega), if_pos (by omega)]; done) | (rw [if_pos (by omega), if_neg (by omega)]; done) | (rw [if_neg (by omega), if_pos (by omega)]; done) | (rw [if_neg (by omega), if_neg (by omega)]; done)
            have en : (lvF fd ea n (gi h 0 9) (i + 1).toNat) = ((luF fd ea i ((gi h 0 9) - 1)), i) := by rw [lvF_s i0.1, e0, tt]; exact if_pos (by show (luF fd ea i ((gi h 0 9) - 1)) < s; omega)
            exact ih _ (by omega) (luF fd ea i ((gi h 0 9) - 1)) i (i + 1) _ rfl (n0) (by omega) (en) (by omega) (by omega) (lk1_n (lk1_n (lk1_n (lk1_n (lk1_n (lk1_n l0 (by decide) (Or.inl rfl)) (by decide) (Or.inl rfl)) (by decide) (Or.inl rfl)) (by decide) (Or.inl rfl)) (by decide) (Or.inl rfl)) (by decide) (Or.inl rfl)) (lk1_n (lk1_n (lk1_n (lk1_n (lk1_n (lk1_n l1 (by decide) (Or.inl rfl)) (by decide) (Or.inl rfl)) (by decide) (Or.inl rfl)) (by decide) (Or.inl rfl)) (by decide) (Or.inl rfl)) (by decide) (Or.inl rfl)) (lk1_n (lk1_n lk1_s (by decide) (Or.inl rfl)) (by decide) (Or.inl rfl)) (lk1_n lk1_s (by decide) (Or.inl rfl)) lk1_s
  refine x_iload_n 1 hK rfl rfl rfl ?_
  refine x_if_lt 16 4 hK rfl rfl rfl (by omega) (fun c2 => ?_) (fun c2 => ?_)
  · refine x_iconst 17 hK rfl rfl ?_
    exact x_iret hK rfl ⟨Or.inl ⟨fun z => by have z1 := z.1; have z2 := z.2; omega, rfl, rfl⟩, hG, FRM.rf⟩
  · refine x_iload_n 5 hK rfl rfl rfl ?_
    refine x_iconst 6 hK rfl rfl ?_
    refine x_if_icmp_gt 16 9 hK rfl rfl rfl (by omega) (by omega) (fun c7 => ?_) (fun c7 => ?_)
    · refine x_iconst 17 hK rfl rfl ?_
      exact x_iret hK rfl ⟨Or.inl ⟨fun z => by have z1 := z.1; have z2 := z.2; omega, rfl, rfl⟩, hG, FRM.rf⟩
    · refine x_aload_n 10 hK rfl rfl rfl ?_
      have g584 := gri (0) (8) hG (a := 0) (r := 0) (k := 9) rfl rfl
      refine x_getE 13 hK rfl (Or.inl rfl) rfl (sp_0 (h := h) hG) (e := (gi h 0 9)) (rfl) ?_
      refine x_if_ne 18 16 hK rfl rfl rfl (by omega) (fun c12 => ?_) (fun c12 => ?_)
      · refine x_ldc_w 21 hK rfl rfl ?_
        refine x_istore_n 22 hK rfl rfl [(2, .int (I 99999)), (0, .ref 0), (1, .int (I n))] rfl ?_
        refine x_iconst 23 hK rfl rfl ?_
        refine x_istore_n 24 hK rfl rfl [(3, .int (I (-1))), (2, .int (I 99999)), (0, .ref 0), (1, .int (I n))] rfl ?_
        refine x_iconst 25 hK rfl rfl ?_
        refine x_istore 27 hK rfl rfl [(4, .int (I 0)), (3, .int (I (-1))), (2, .int (I 99999)), (0, .ref 0), (1, .int (I n))] rfl ?_
        exact loop _ 99999 (-1) 0 _ rfl (⟨⟨by omega, by omega⟩, by omega⟩) (by omega) (rfl) (by omega) (by omega) rfl rfl rfl rfl rfl
      · refine x_iconst 17 hK rfl rfl ?_
        exact x_iret hK rfl ⟨Or.inl ⟨fun z => by have z1 := z.1; have z2 := z.2; omega, rfl, rfl⟩, hG, FRM.rf⟩
set_option maxRecDepth 4000 in
theorem ctX11_livesF {SP : CT} (hSP : MONO SP) {sh : List (Nat × Nat)} {h : aH} (hG : GD gE gRL sh h) {fd ea : Nat → Int} (hf : ∀ j : Nat, (j : Int) < gi h 171 7 → gi h 178 (41 + j) = fd j ∧ 0 ≤ fd j ∧ fd j ≤ 99) (he : ∀ j : Nat, (j : Int) < gi h 171 7 → gi h 177 j = ea j ∧ 0 ≤ ea j ∧ ea j ≤ 9) {n : Int} (rn : r32 n) : CLd SP 3 mX11_lives [.ref 171, .int (I n)] h 0 0 (fun rv h' => ((¬ ((0 ≤ n ∧ n ≤ 3) ∧ gi h 171 7 ≠ 0) ∧ rv = some (.int (I (-1))) ∧ mrow h' = mrow h ∧ gi h' 171 1 = gi h 171 1) ∨ (((0 ≤ n ∧ n ≤ 3) ∧ gi h 171 7 ≠ 0) ∧ rv = some (.int (I (lvF fd ea n (gi h 171 7) (gi h 171 7).toNat).1)) ∧ mrow h' = [(lvF fd ea n (gi h 171 7) (gi h 171 7).toNat).2])) ∧ GD gE gRL sh h' ∧ FRM gRL [(0, 54, 0, 0), (0, 54, 1, 1), (1, 55, 0, 39)] h h') := by
  refine x_met _ rfl (Nat.le_of_ble_eq_true rfl) (fun K hK => ?_)
  have hmono := MONO_CLd hSP 2
  have g9 := gri 0 8 hG (a := 171) (r := 54) (k := 7) rfl rfl
  have loop : ∀ (mz : Nat) (s w i : Int) (h4 : aH) (ls : List (Nat × Value)), ((gi h 171 7 - i).toNat = mz) → ((0 ≤ n ∧ n ≤ 3) ∧ gi h 171 7 ≠ 0) → (0 ≤ i ∧ i ≤ gi h 171 7) → (n < 3 → (lvF fd ea n (gi h 171 7) i.toNat) = (s, w)) → (n = 3 → (lvF fd ea n (gi h 171 7) (gi h 171 7).toNat) = (s, w)) → (0 ≤ s ∧ s ≤ 99999) → (-1 ≤ w ∧ w ≤ 8) → lk ls 0 = some (.ref 171) → lk ls 1 = some (.int (I n)) → lk ls 2 = some (.int (I s)) → lk ls 3 = some (.int (I w)) → lk ls 4 = some (.int (I i)) → GD gE gRL sh h4 → FRM gRL [(0, 54, 0, 0), (0, 54, 1, 1), (1, 55, 0, 39)] h h4 → K 70 ls [] h4 0 0 := by
    intro mz
    induction mz using Nat.strongRecOn with
    | ind mz ih =>
    intro s w i h4 ls hm n0 i0 e0 e3 s0 w0 l0 l1 l2 l3 l4 hG4 hF4
    have m4 : gi h4 171 7 = gi h 171 7 := FRM_gi hF4 (r := 54) rfl (by decide)
    refine x_iload 72 hK rfl rfl l4 ?_
    refine x_aload_n 73 hK rfl rfl l0 ?_
    have g585 := gri (0) (8) hG (a := 171) (r := 54) (k := 7) rfl rfl
    refine x_getE 76 hK rfl (Or.inl rfl) rfl (sp_171 (h := h4) hG4) (e := (gi h 171 7)) (m4) ?_
    refine x_if_icmp_ge 143 79 hK rfl rfl rfl (by omega) (by omega) (fun c4 => ?_) (fun c4 => ?_)
    · refine x_aload_n 144 hK rfl rfl l0 ?_
      refine x_iconst 145 hK rfl rfl ?_
      refine x_putI 148 hK rfl rfl (sp_171 (h := h4) hG4) ?_
      refine x_aload_n 149 hK rfl rfl l0 ?_
      refine x_iload_n 150 hK rfl rfl l3 ?_
      refine x_i2l 151 hK rfl rfl (by omega) ?_
      have hGp586 : GD gE gRL sh (wI h4 171 1 0) := GD_w1 (hG4) (r := 54) rfl (by omega) rfl (by omega) (by omega)
      have z588 : gi (wI h4 171 1 0) 171 1 = 0 := gi_same (by omega)
      have z588r : mrow (wI h4 171 1 0) = [] := mrow_0 (gi_same (by omega))
      refine x_callV 154 hK hmono rfl rfl [.ref 171, .long (J w)] [] rfl rfl (Nat.le_of_ble_eq_true rfl) (Nat.le_of_ble_eq_true rfl) rfl (sp_171 (h := h4) hG4) (CLd_le (Nat.le_of_ble_eq_true rfl) (ctX11_entersF hSP hGp586 (by omega) (by omega))) ?_
      rintro v587 h587 ⟨rfl, hG587, hF587, t587, s587⟩
      rw [z588] at t587
      rw [z588r] at s587
      replace t587 : gi h587 171 1 = 1 := t587
      change mrow h587 = [w] at s587
      refine x_iload_n 155 hK rfl rfl l2 ?_
      have ee : (lvF fd ea n (gi h 171 7) (gi h 171 7).toNat) = (s, w) := by
        by_cases q : n = 3
        · exact e3 q
        · rw [show (gi h 171 7).toNat = i.toNat by omega]; exact e0 (by omega)
      exact x_iret hK rfl ⟨Or.inr ⟨n0, by rw [ee], by rw [ee]; exact s587⟩, hG587, (FRM_w (hF4) (r := 54) rfl rfl).trans ((hF587).mono rfl)⟩
    · refine x_iload_n 80 hK rfl rfl l1 ?_
      refine x_iconst 81 hK rfl rfl ?_
      refine x_if_icmp_ge 143 84 hK rfl rfl rfl (by omega) (by omega) (fun c16 => ?_) (fun c16 => ?_)
      · refine x_aload_n 144 hK rfl rfl l0 ?_
        refine x_iconst 145 hK rfl rfl ?_
        refine x_putI 148 hK rfl rfl (sp_171 (h := h4) hG4) ?_
        refine x_aload_n 149 hK rfl rfl l0 ?_
        refine x_iload_n 150 hK rfl rfl l3 ?_
        refine x_i2l 151 hK rfl rfl (by omega) ?_
        have hGp589 : GD gE gRL sh (wI h4 171 1 0) := GD_w1 (hG4) (r := 54) rfl (by omega) rfl (by omega) (by omega)
        have z591 : gi (wI h4 171 1 0) 171 1 = 0 := gi_same (by omega)
        have z591r : mrow (wI h4 171 1 0) = [] := mrow_0 (gi_same (by omega))
        refine x_callV 154 hK hmono rfl rfl [.ref 171, .long (J w)] [] rfl rfl (Nat.le_of_ble_eq_true rfl) (Nat.le_of_ble_eq_true rfl) rfl (sp_171 (h := h4) hG4) (CLd_le (Nat.le_of_ble_eq_true rfl) (ctX11_entersF hSP hGp589 (by omega) (by omega))) ?_
        rintro v590 h590 ⟨rfl, hG590, hF590, t590, s590⟩
        rw [z591] at t590
        rw [z591r] at s590
        replace t590 : gi h590 171 1 = 1 := t590
        change mrow h590 = [w] at s590
        refine x_iload_n 155 hK rfl rfl l2 ?_
        have ee : (lvF fd ea n (gi h 171 7) (gi h 171 7).toNat) = (s, w) := by
          by_cases q : n = 3
          · exact e3 q
          · rw [show (gi h 171 7).toNat = i.toNat by omega]; exact e0 (by omega)
        exact x_iret hK rfl ⟨Or.inr ⟨n0, by rw [ee], by rw [ee]; exact s590⟩, hG590, (FRM_w (hF4) (r := 54) rfl rfl).trans ((hF590).mono rfl)⟩
      · refine x_aload_n 85 hK rfl rfl l0 ?_
        refine x_iload_n 86 hK rfl rfl l1 ?_
        refine x_iconst 87 hK rfl rfl ?_
        refine x_if_icmp_ne 94 90 hK rfl rfl rfl (by omega) (by omega) (fun c29 => ?_) (fun c29 => ?_)
        · refine x_iload 96 hK rfl rfl l4 ?_
          refine x_iload_n 97 hK rfl rfl l1 ?_
          refine x_iconst 98 hK rfl rfl ?_
          refine x_if_icmp_ne 110 101 hK rfl rfl rfl (by omega) (by omega) (fun c33 => ?_) (fun c33 => ?_)
          · refine x_iload 112 hK rfl rfl l4 ?_
            have me592 : gi h4 171 7 = (gi h 171 7) := m4
            have lb592 := luF_b (fd := fd) (ea := ea) (a := i) (b := i) (m := (gi h 171 7)) (by omega) (by omega) g9.2 (fun j hj => (hf j hj).2) (fun j hj => (he j hj).2) (by omega)
            refine x_callV 115 hK hmono rfl rfl [.ref 171, .int (I i), .int (I i)] [] rfl rfl (Nat.le_of_ble_eq_true rfl) (Nat.le_of_ble_eq_true rfl) rfl (sp_171 (h := h4) hG4) (CLd_le (Nat.le_of_ble_eq_true rfl) (ctX11_lastsForF hSP hG4 (fd := fd) (ea := ea) (a := i) (z := i) (by rw [me592]; exact (fun j hj => by rw [show gi h4 178 (41 + j) = gi h 178 (41 + j) from FRM_gi hF4 (r := 61) rfl rfl]; exact hf j hj)) (by rw [me592]; exact (fun j hj => by rw [show gi h4 177 j = gi h 177 j from FRM_gi hF4 (r := 60) rfl rfl]; exact he j hj)) (by omega) (by omega) (by rw [me592]; omega))) ?_
            rintro v9 h9 ⟨e9, rfl⟩
            rw [e9]
            clear e9
            refine x_istore 117 hK rfl rfl _ rfl ?_
            refine x_iload 119 hK rfl rfl lk1_s ?_
            refine x_iload_n 120 hK rfl rfl (lk1_n l2 (by decide) (Or.inl rfl)) ?_
            refine x_if_icmp_ge 128 123 hK rfl rfl rfl (by omega) (by omega) (fun c39 => ?_) (fun c39 => ?_)
            · refine x_iload_n 129 hK rfl rfl (lk1_n l3 (by decide) (Or.inl rfl)) ?_
              refine x_istore_n 130 hK rfl rfl _ rfl ?_
              refine x_iload_n 131 hK rfl rfl (lk1_n (lk1_n l2 (by decide) (Or.inl rfl)) (by decide) (Or.inl rfl)) ?_
              refine x_iload 133 hK rfl rfl (lk1_n lk1_s (by decide) (Or.inl rfl)) ?_
              refine x_min 136 hK rfl rfl (Nat.le_of_ble_eq_true rfl) (by omega) (by omega) ?_
              refine x_istore_n 137 hK rfl rfl _ rfl ?_
              refine x_iinc 140 hK rfl rfl (lk1_n (lk1_n (lk1_n l4 (by decide) (Or.inl rfl)) (by decide) (Or.inl rfl)) (by decide) (Or.inl rfl)) _ rfl ?_
              refine x_goto 70 hK rfl rfl ?_
              have tt : lvT fd ea n (gi h 171 7) i = (luF fd ea i i) := by unfold lvT; first | (rw [if_pos (by omega), if_pos (by omega)]; done) | (rw [if_pos (by omega), if_neg (by omega)]; done) | (rw [if_neg (by omega), if_pos (by omega)]; done) | (rw [if_neg (by omega), if_neg (by omega)]; done)
              have eb : (min s (luF fd ea i i)) = s := by omega
              have en : (lvF fd ea n (gi h 171 7) (i + 1).toNat) = ((min s (luF fd ea i i)), w) := by rw [eb, lvF_s i0.1, e0 (by omega), tt]; exact if_neg (by show ¬ (luF fd ea i i) < s; omega)
              exact ih _ (by omega) (min s (luF fd ea i i)) w (i + 1) _ _ rfl (n0) (by omega) (fun _ => en) (fun y => absurd y (by omega)) (by omega) (by omega) (lk1_n (lk1_n (lk1_n (lk1_n l0 (by decide) (Or.inl rfl)) (by decide) (Or.inl rfl)) (by decide) (Or.inl rfl)) (by decide) (Or.inl rfl)) (lk1_n (lk1_n (lk1_n (lk1_n l1 (by decide) (Or.inl rfl)) (by decide) (Or.inl rfl)) (by decide) (Or.inl rfl)) (by decide) (Or.inl rfl)) (lk1_n lk1_s (by decide) (Or.inl rfl)) (lk1_n (lk1_n lk1_s (by decide) (Or.inl rfl)) (by decide) (Or.inl rfl)) lk1_s (hG4) (hF4)
            · refine x_iload 125 hK rfl rfl (lk1_n l4 (by decide) (Or.inl rfl)) ?_
              refine x_goto 129 hK rfl rfl ?_
              refine x_istore_n 130 hK rfl rfl _ rfl ?_
              refine x_iload_n 131 hK rfl rfl (lk1_n (lk1_n l2 (by decide) (Or.inl rfl)) (by decide) (Or.inl rfl)) ?_
              refine x_iload 133 hK rfl rfl (lk1_n lk1_s (by decide) (Or.inl rfl)) ?_
              refine x_min 136 hK rfl rfl (Nat.le_of_ble_eq_true rfl) (by omega) (by omega) ?_
              refine x_istore_n 137 hK rfl rfl _ rfl ?_
              refine x_iinc 140 hK rfl rfl (lk1_n (lk1_n (lk1_n l4 (by decide) (Or.inl rfl)) (by decide) (Or.inl rfl)) (by decide) (Or.inl rfl)) _ rfl ?_
              refine x_goto 70 hK rfl rfl ?_
              have tt : lvT fd ea n (gi h 171 7) i = (luF fd ea i i) := by unfold lvT; first | (rw [if_pos (by omega), if_pos (by omega)]; done) | (rw [if_pos (by omega), if_neg (by omega)]; done) | (rw [if_neg (by omega), if_pos (by omega)]; done) | (rw [if_neg (by omega), if_neg (by omega)]; done)
              have eb : (min s (luF fd ea i i)) = (luF fd ea i i) := by omega
              have en : (lvF fd ea n (gi h 171 7) (i + 1).toNat) = ((min s (luF fd ea i i)), i) := by rw [eb, lvF_s i0.1, e0 (by omega), tt]; exact if_pos (by show (luF fd ea i i) < s; omega)
              exact ih _ (by omega) (min s (luF fd ea i i)) i (i + 1) _ _ rfl (n0) (by omega) (fun _ => en) (fun y => absurd y (by omega)) (by omega) (by omega) (lk1_n (lk1_n (lk1_n (lk1_n l0 (by decide) (Or.inl rfl)) (by decide) (Or.inl rfl)) (by decide) (Or.inl rfl)) (by decide) (Or.inl rfl)) (lk1_n (lk1_n (lk1_n (lk1_n l1 (by decide) (Or.inl rfl)) (by decide) (Or.inl rfl)) (by decide) (Or.inl rfl)) (by decide) (Or.inl rfl)) (lk1_n lk1_s (by decide) (Or.inl rfl)) (lk1_n (lk1_n lk1_s (by decide) (Or.inl rfl)) (by decide) (Or.inl rfl)) lk1_s (hG4) (hF4)
          · refine x_aload_n 102 hK rfl rfl l0 ?_
            refine x_getE 105 hK rfl (Or.inl rfl) rfl (sp_171 (h := h4) hG4) (e := (gi h 171 7)) (m4) ?_
            refine x_iconst 106 hK rfl rfl ?_
            refine x_isub 107 hK rfl rfl ?_
            refine x_goto 112 hK rfl rfl ?_
            have me593 : gi h4 171 7 = (gi h 171 7) := m4
            have lb593 := luF_b (fd := fd) (ea := ea) (a := i) (b := ((gi h 171 7) - 1)) (m := (gi h 171 7)) (by omega) (by omega) g9.2 (fun j hj => (hf j hj).2) (fun j hj => (he j hj).2) (by omega)
            refine x_callV 115 hK hmono rfl rfl [.ref 171, .int (I i), .int (I ((gi h 171 7) - 1))] [] rfl rfl (Nat.le_of_ble_eq_true rfl) (Nat.le_of_ble_eq_true rfl) rfl (sp_171 (h := h4) hG4) (CLd_le (Nat.le_of_ble_eq_true rfl) (ctX11_lastsForF hSP hG4 (fd := fd) (ea := ea) (a := i) (z := ((gi h 171 7) - 1)) (by rw [me593]; exact (fun j hj => by rw [show gi h4 178 (41 + j) = gi h 178 (41 + j) from FRM_gi hF4 (r := 61) rfl rfl]; exact hf j hj)) (by rw [me593]; exact (fun j hj => by rw [show gi h4 177 j = gi h 177 j from FRM_gi hF4 (r := 60) rfl rfl]; exact he j hj)) (by omega) (by omega) (by rw [me593]; omega))) ?_
            rintro v9 h9 ⟨e9, rfl⟩
            rw [e9]
            clear e9
            refine x_istore 117 hK rfl rfl _ rfl ?_
            refine x_iload 119 hK rfl rfl lk1_s ?_
            refine x_iload_n 120 hK rfl rfl (lk1_n l2 (by decide) (Or.inl rfl)) ?_
            refine x_if_icmp_ge 128 123 hK rfl rfl rfl (by omega) (by omega) (fun c68 => ?_) (fun c68 => ?_)
            · refine x_iload_n 129 hK rfl rfl (lk1_n l3 (by decide) (Or.inl rfl)) ?_
              refine x_istore_n 130 hK rfl rfl _ rfl ?_
              refine x_iload_n 131 hK rfl rfl (lk1_n (lk1_n l2 (by decide) (Or.inl rfl)) (by decide) (Or.inl rfl)) ?_
              refine x_iload 133 hK rfl rfl (lk1_n lk1_s (by decide) (Or.inl rfl)) ?_
              refine x_min 136 hK rfl rfl (Nat.le_of_ble_eq_true rfl) (by omega) (by omega) ?_
              refine x_istore_n 137 hK rfl rfl _ rfl ?_
              refine x_iinc 140 hK rfl rfl (lk1_n (lk1_n (lk1_n l4 (by decide) (Or.inl rfl)) (by decide) (Or.inl rfl)) (by decide) (Or.inl rfl)) _ rfl ?_
              refine x_goto 70 hK rfl rfl ?_
              have tt : lvT fd ea n (gi h 171 7) i = (luF fd ea i ((gi h 171 7) - 1)) := by unfold lvT; first | (rw [if_pos (by omega), if_pos (by omega)]; done) | (rw [if_pos (by omega), if_neg (by omega)]; done) | (rw [if_neg (by omega), if_pos (by omega)]; done) | (rw [if_neg (by omega), if_neg (by omega)]; done)
              have eb : (min s (luF fd ea i ((gi h 171 7) - 1))) = s := by omega
              have en : (lvF fd ea n (gi h 171 7) (i + 1).toNat) = ((min s (luF fd ea i ((gi h 171 7) - 1))), w) := by rw [eb, lvF_s i0.1, e0 (by omega), tt]; exact if_neg (by show ¬ (luF fd ea i ((gi h 171 7) - 1)) < s; omega)
              exact ih _ (by omega) (min s (luF fd ea i ((gi h 171 7) - 1))) w (i + 1) _ _ rfl (n0) (by omega) (fun _ => en) (fun y => absurd y (by omega)) (by omega) (by omega) (lk1_n (lk1_n (lk1_n (lk1_n l0 (by decide) (Or.inl rfl)) (by decide) (Or.inl rfl)) (by decide) (Or.inl rfl)) (by decide) (Or.inl rfl)) (lk1_n (lk1_n (lk1_n (lk1_n l1 (by decide) (Or.inl rfl)) (by decide) (Or.inl rfl)) (by decide) (Or.inl rfl)) (by decide) (Or.inl rfl)) (lk1_n lk1_s (by decide) (Or.inl rfl)) (lk1_n (lk1_n lk1_s (by decide) (Or.inl rfl)) (by decide) (Or.inl rfl)) lk1_s (hG4) (hF4)
            · refine x_iload 125 hK rfl rfl (lk1_n l4 (by decide) (Or.inl rfl)) ?_
              refine x_goto 129 hK rfl rfl ?_
              refine x_istore_n 130 hK rfl rfl _ rfl ?_
              refine x_iload_n 131 hK rfl rfl (lk1_n (lk1_n l2 (by decide) (Or.inl rfl)) (by decide) (Or.inl rfl)) ?_
              refine x_iload 133 hK rfl rfl (lk1_n lk1_s (by decide) (Or.inl rfl)) ?_
              refine x_min 136 hK rfl rfl (Nat.le_of_ble_eq_true rfl) (by omega) (by omega) ?_
              refine x_istore_n 137 hK rfl rfl _ rfl ?_
              refine x_iinc 140 hK rfl rfl (lk1_n (lk1_n (lk1_n l4 (by decide) (Or.inl rfl)) (by decide) (Or.inl rfl)) (by decide) (Or.inl rfl)) _ rfl ?_
              refine x_goto 70 hK rfl rfl ?_
              have tt : lvT fd ea n (gi h 171 7) i = (luF fd ea i ((gi h 171 7) - 1)) := by unfold lvT; first | (rw [if_pos (by omega), if_pos (by omega)]; done) | (rw [if_pos (by omega), if_neg (by omega)]; done) | (rw [if_neg (by omega), if_pos (by omega)]; done) | (rw [if_neg (by omega), if_neg (by omega)]; done)
              have eb : (min s (luF fd ea i ((gi h 171 7) - 1))) = (luF fd ea i ((gi h 171 7) - 1)) := by omega
              have en : (lvF fd ea n (gi h 171 7) (i + 1).toNat) = ((min s (luF fd ea i ((gi h 171 7) - 1))), i) := by rw [eb, lvF_s i0.1, e0 (by omega), tt]; exact if_pos (by show (luF fd ea i ((gi h 171 7) - 1)) < s; omega)
              exact ih _ (by omega) (min s (luF fd ea i ((gi h 171 7) - 1))) i (i + 1) _ _ rfl (n0) (by omega) (fun _ => en) (fun y => absurd y (by omega)) (by omega) (by omega) (lk1_n (lk1_n (lk1_n (lk1_n l0 (by decide) (Or.inl rfl)) (by decide) (Or.inl rfl)) (by decide) (Or.inl rfl)) (by decide) (Or.inl rfl)) (lk1_n (lk1_n (lk1_n (lk1_n l1 (by decide) (Or.inl rfl)) (by decide) (Or.inl rfl)) (by decide) (Or.inl rfl)) (by decide) (Or.inl rfl)) (lk1_n lk1_s (by decide) (Or.inl rfl)) (lk1_n (lk1_n lk1_s (by decide) (Or.inl rfl)) (by decide) (Or.inl rfl)) lk1_s (hG4) (hF4)
        · refine x_iconst 91 hK rfl rfl ?_
          refine x_goto 96 hK rfl rfl ?_
          refine x_iload_n 97 hK rfl rfl l1 ?_
          refine x_iconst 98 hK rfl rfl ?_
          refine x_if_icmp_ne 110 101 hK rfl rfl rfl (by omega) (by omega) (fun _ => ?_) (fun c => by omega)
          refine x_iload 112 hK rfl rfl l4 ?_
          have me594 : gi h4 171 7 = (gi h 171 7) := m4
          have lb594 := luF_b (fd := fd) (ea := ea) (a := 0) (b := i) (m := (gi h 171 7)) (by omega) (by omega) g9.2 (fun j hj => (hf j hj).2) (fun j hj => (he j hj).2) (by omega)
          refine x_callV 115 hK hmono rfl rfl [.ref 171, .int (I 0), .int (I i)] [] rfl rfl (Nat.le_of_ble_eq_true rfl) (Nat.le_of_ble_eq_true rfl) rfl (sp_171 (h := h4) hG4) (CLd_le (Nat.le_of_ble_eq_true rfl) (ctX11_lastsForF hSP hG4 (fd := fd) (ea := ea) (a := 0) (z := i) (by rw [me594]; exact (fun j hj => by rw [show gi h4 178 (41 + j) = gi h 178 (41 + j) from FRM_gi hF4 (r := 61) rfl rfl]; exact hf j hj)) (by rw [me594]; exact (fun j hj => by rw [show gi h4 177 j = gi h 177 j from FRM_gi hF4 (r := 60) rfl rfl]; exact he j hj)) (by omega) (by omega) (by rw [me594]; omega))) ?_
          rintro v9 h9 ⟨e9, rfl⟩
          rw [e9]
          clear e9
          refine x_istore 117 hK rfl rfl _ rfl ?_
          refine x_iload 119 hK rfl rfl lk1_s ?_
          refine x_iload_n 120 hK rfl rfl (lk1_n l2 (by decide) (Or.inl rfl)) ?_
          refine x_if_icmp_ge 128 123 hK rfl rfl rfl (by omega) (by omega) (fun c98 => ?_) (fun c98 => ?_)
          · refine x_iload_n 129 hK rfl rfl (lk1_n l3 (by decide) (Or.inl rfl)) ?_
            refine x_istore_n 130 hK rfl rfl _ rfl ?_
            refine x_iload_n 131 hK rfl rfl (lk1_n (lk1_n l2 (by decide) (Or.inl rfl)) (by decide) (Or.inl rfl)) ?_
            refine x_iload 133 hK rfl rfl (lk1_n lk1_s (by decide) (Or.inl rfl)) ?_
            refine x_min 136 hK rfl rfl (Nat.le_of_ble_eq_true rfl) (by omega) (by omega) ?_
            refine x_istore_n 137 hK rfl rfl _ rfl ?_
            refine x_iinc 140 hK rfl rfl (lk1_n (lk1_n (lk1_n l4 (by decide) (Or.inl rfl)) (by decide) (Or.inl rfl)) (by decide) (Or.inl rfl)) _ rfl ?_
            refine x_goto 70 hK rfl rfl ?_
            have tt : lvT fd ea n (gi h 171 7) i = (luF fd ea 0 i) := by unfold lvT; first | (rw [if_pos (by omega), if_pos (by omega)]; done) | (rw [if_pos (by omega), if_neg (by omega)]; done) | (rw [if_neg (by omega), if_pos (by omega)]; done) | (rw [if_neg (by omega), if_neg (by omega)]; done)
            have eb : (min s (luF fd ea 0 i)) = s := by omega
            have en : (lvF fd ea n (gi h 171 7) (i + 1).toNat) = ((min s (luF fd ea 0 i)), w) := by rw [eb, lvF_s i0.1, e0 (by omega), tt]; exact if_neg (by show ¬ (luF fd ea 0 i) < s; omega)
            exact ih _ (by omega) (min s (luF fd ea 0 i)) w (i + 1) _ _ rfl (n0) (by omega) (fun _ => en) (fun y => absurd y (by omega)) (by omega) (by omega) (lk1_n (lk1_n (lk1_n (lk1_n l0 (by decide) (Or.inl rfl)) (by decide) (Or.inl rfl)) (by decide) (Or.inl rfl)) (by decide) (Or.inl rfl)) (lk1_n (lk1_n (lk1_n (lk1_n l1 (by decide) (Or.inl rfl)) (by decide) (Or.inl rfl)) (by decide) (Or.inl rfl)) (by decide) (Or.inl rfl)) (lk1_n lk1_s (by decide) (Or.inl rfl)) (lk1_n (lk1_n lk1_s (by decide) (Or.inl rfl)) (by decide) (Or.inl rfl)) lk1_s (hG4) (hF4)
          · refine x_iload 125 hK rfl rfl (lk1_n l4 (by decide) (Or.inl rfl)) ?_
            refine x_goto 129 hK rfl rfl ?_
            refine x_istore_n 130 hK rfl rfl _ rfl ?_
            refine x_iload_n 131 hK rfl rfl (lk1_n (lk1_n l2 (by decide) (Or.inl rfl)) (by decide) (Or.inl rfl)) ?_
            refine x_iload 133 hK rfl rfl (lk1_n lk1_s (by decide) (Or.inl rfl)) ?_
            refine x_min 136 hK rfl rfl (Nat.le_of_ble_eq_true rfl) (by omega) (by omega) ?_
            refine x_istore_n 137 hK rfl rfl _ rfl ?_
            refine x_iinc 140 hK rfl rfl (lk1_n (lk1_n (lk1_n l4 (by decide) (Or.inl rfl)) (by decide) (Or.inl rfl)) (by decide) (Or.inl rfl)) _ rfl ?_
            refine x_goto 70 hK rfl rfl ?_
            have tt : lvT fd ea n (gi h 171 7) i = (luF fd ea 0 i) := by unfold lvT; first | (rw [if_pos (by omega), if_pos (by omega)]; done) | (rw [if_pos (by omega), if_neg (by omega)]; done) | (rw [if_neg (by omega), if_pos (by omega)]; done) | (rw [if_neg (by omega), if_neg (by omega)]; done)
            have eb : (min s (luF fd ea 0 i)) = (luF fd ea 0 i) := by omega
            have en : (lvF fd ea n (gi h 171 7) (i + 1).toNat) = ((min s (luF fd ea 0 i)), i) := by rw [eb, lvF_s i0.1, e0 (by omega), tt]; exact if_pos (by show (luF fd ea 0 i) < s; omega)
            exact ih _ (by omega) (min s (luF fd ea 0 i)) i (i + 1) _ _ rfl (n0) (by omega) (fun _ => en) (fun y => absurd y (by omega)) (by omega) (by omega) (lk1_n (lk1_n (lk1_n (lk1_n l0 (by decide) (Or.inl rfl)) (by decide) (Or.inl rfl)) (by decide) (Or.inl rfl)) (by decide) (Or.inl rfl)) (lk1_n (lk1_n (lk1_n (lk1_n l1 (by decide) (Or.inl rfl)) (by decide) (Or.inl rfl)) (by decide) (Or.inl rfl)) (by decide) (Or.inl rfl)) (lk1_n lk1_s (by decide) (Or.inl rfl)) (lk1_n (lk1_n lk1_s (by decide) (Or.inl rfl)) (by decide) (Or.inl rfl)) lk1_s (hG4) (hF4)
  refine x_aload_n 1 hK rfl rfl rfl ?_
  refine x_iconst 2 hK rfl rfl ?_
  refine x_putI 5 hK rfl rfl (sp_171 (h := h) hG) ?_
  refine x_iload_n 6 hK rfl rfl rfl ?_
  refine x_i2l 7 hK rfl rfl (by omega) ?_
  refine x_lconstE 8 0 hK rfl rfl rfl ?_
  refine x_ldc2_w 11 hK rfl rfl ?_
  have hGp595 : GD gE gRL sh (wI h 171 0 0) := GD_w1 (hG) (r := 54) rfl (by omega) rfl (by omega) (by omega)
  refine x_callS 14 hK hmono rfl (Or.inl rfl) rfl [.long (J n), .long (J 0), .long (J 3)] [] rfl rfl (Nat.le_of_ble_eq_true rfl) (Nat.le_of_ble_eq_true rfl) (CLd_le (Nat.le_of_ble_eq_true rfl) (ctX11_in (by omega) (by omega) (by omega))) ?_
  rintro v9 h9 ⟨e9, ⟨rfl, i1596, i2596⟩ | ⟨rfl, i1596⟩⟩ <;> rw [e9] <;> clear e9
  · refine x_if_eq 24 17 hK rfl rfl rfl (by omega) (fun c => by omega) (fun _ => ?_)
    refine x_aload_n 18 hK rfl rfl rfl ?_
    have g597 := gri (0) (8) hG (a := 171) (r := 54) (k := 7) rfl rfl
    refine x_getE 21 hK rfl (Or.inl rfl) rfl (sp_171 (h := h) hG) (e := (gi h 171 7)) (gi_k (by decide) _) ?_
    refine x_if_ne 26 24 hK rfl rfl rfl (by omega) (fun c12 => ?_) (fun c12 => ?_)
    · refine x_iload_n 27 hK rfl rfl rfl ?_
      refine x_iconst 28 hK rfl rfl ?_
      refine x_if_icmp_ne 45 31 hK rfl rfl rfl (by omega) (by omega) (fun c15 => ?_) (fun c15 => ?_)
      · refine x_ldc_w 48 hK rfl rfl ?_
        refine x_istore_n 49 hK rfl rfl [(2, .int (I 99999)), (0, .ref 171), (1, .int (I n))] rfl ?_
        refine x_iload_n 50 hK rfl rfl rfl ?_
        refine x_iconst 51 hK rfl rfl ?_
        refine x_if_icmp_ne 65 54 hK rfl rfl rfl (by omega) (by omega) (fun _ => ?_) (fun c => by omega)
        refine x_iconst 66 hK rfl rfl ?_
        refine x_istore_n 67 hK rfl rfl [(3, .int (I (-1))), (2, .int (I 99999)), (0, .ref 171), (1, .int (I n))] rfl ?_
        refine x_iconst 68 hK rfl rfl ?_
        refine x_istore 70 hK rfl rfl [(4, .int (I 0)), (3, .int (I (-1))), (2, .int (I 99999)), (0, .ref 171), (1, .int (I n))] rfl ?_
        exact loop _ 99999 (-1) 0 _ _ rfl (⟨⟨by omega, by omega⟩, by omega⟩) (by omega) (fun _ => rfl) (fun y => absurd y (by omega)) (by omega) (by omega) rfl rfl rfl rfl rfl (GD_w1 (hG) (r := 54) rfl (by omega) rfl (by omega) (by omega)) (FRM_w ((FRM.rf : FRM gRL [(0, 54, 0, 0), (0, 54, 1, 1), (1, 55, 0, 39)] h h)) (r := 54) rfl rfl)
      · refine x_aload_n 32 hK rfl rfl rfl ?_
        refine x_iconst 33 hK rfl rfl ?_
        refine x_aload_n 34 hK rfl rfl rfl ?_
        refine x_getE 37 hK rfl (Or.inl rfl) rfl (sp_171 (h := h) hG) (e := (gi h 171 7)) (gi_k (by decide) _) ?_
        refine x_iconst 38 hK rfl rfl ?_
        refine x_isub 39 hK rfl rfl ?_
        have hGp599 : GD gE gRL sh (wI h 171 0 0) := GD_w1 (hG) (r := 54) rfl (by omega) rfl (by omega) (by omega)
        have me598 : gi (wI h 171 0 0) 171 7 = (gi h 171 7) := gi_k (by decide) _
        have lb598 := luF_b (fd := fd) (ea := ea) (a := 0) (b := ((gi h 171 7) - 1)) (m := (gi h 171 7)) (by omega) (by omega) g9.2 (fun j hj => (hf j hj).2) (fun j hj => (he j hj).2) (by omega)
        refine x_callV 42 hK hmono rfl rfl [.ref 171, .int (I 0), .int (I ((gi h 171 7) - 1))] [] rfl rfl (Nat.le_of_ble_eq_true rfl) (Nat.le_of_ble_eq_true rfl) rfl (sp_171 (h := h) hG) (CLd_le (Nat.le_of_ble_eq_true rfl) (ctX11_lastsForF hSP hGp599 (fd := fd) (ea := ea) (a := 0) (z := ((gi h 171 7) - 1)) (by rw [me598]; exact (fun j hj => by rw [show gi (wI h 171 0 0) 178 (41 + j) = gi h 178 (41 + j) from gi_a (by decide) _]; exact hf j hj)) (by rw [me598]; exact (fun j hj => by rw [show gi (wI h 171 0 0) 177 j = gi h 177 j from gi_a (by decide) _]; exact he j hj)) (by omega) (by omega) (by rw [me598]; omega))) ?_
        rintro v9 h9 ⟨e9, rfl⟩
        rw [e9]
        clear e9
        refine x_goto 48 hK rfl rfl ?_
        refine x_istore_n 49 hK rfl rfl [(2, .int (I (luF fd ea 0 ((gi h 171 7) - 1)))), (0, .ref 171), (1, .int (I n))] rfl ?_
        refine x_iload_n 50 hK rfl rfl rfl ?_
        refine x_iconst 51 hK rfl rfl ?_
        refine x_if_icmp_ne 65 54 hK rfl rfl rfl (by omega) (by omega) (fun c => by omega) (fun _ => ?_)
        refine x_iload_n 55 hK rfl rfl rfl ?_
        refine x_ldc_w 58 hK rfl rfl ?_
        refine x_if_icmp_ge 65 61 hK rfl rfl rfl (by omega) (by omega) (fun c40 => ?_) (fun c40 => ?_)
        · refine x_iconst 66 hK rfl rfl ?_
          refine x_istore_n 67 hK rfl rfl [(3, .int (I (-1))), (2, .int (I (luF fd ea 0 ((gi h 171 7) - 1)))), (0, .ref 171), (1, .int (I n))] rfl ?_
          refine x_iconst 68 hK rfl rfl ?_
          refine x_istore 70 hK rfl rfl [(4, .int (I 0)), (3, .int (I (-1))), (2, .int (I (luF fd ea 0 ((gi h 171 7) - 1)))), (0, .ref 171), (1, .int (I n))] rfl ?_
          exact loop _ (luF fd ea 0 ((gi h 171 7) - 1)) (-1) 0 _ _ rfl (⟨⟨by omega, by omega⟩, by omega⟩) (by omega) (fun y => absurd y (by omega)) (fun y => by
            rw [y]
            have z := lv_3 (fd := fd) (ea := ea) (ms := gi h 171 7) (by omega) ((gi h 171 7).toNat - 1)
            rw [show (gi h 171 7).toNat - 1 + 1 = (gi h 171 7).toNat by omega] at z
            rw [z]
            first | (rw [if_pos (by omega)]; done) | (rw [if_neg (by omega)]; exact Prod.ext (by show (99999 : Int) = _; omega) rfl)) (by omega) (by omega) rfl rfl rfl rfl rfl (GD_w1 (hG) (r := 54) rfl (by omega) rfl (by omega) (by omega)) (FRM_w ((FRM.rf : FRM gRL [(0, 54, 0, 0), (0, 54, 1, 1), (1, 55, 0, 39)] h h)) (r := 54) rfl rfl)
        · refine x_iconst 62 hK rfl rfl ?_
          refine x_goto 66 hK rfl rfl ?_
          refine x_istore_n 67 hK rfl rfl [(3, .int (I 0)), (2, .int (I (luF fd ea 0 ((gi h 171 7) - 1)))), (0, .ref 171), (1, .int (I n))] rfl ?_
          refine x_iconst 68 hK rfl rfl ?_
          refine x_istore 70 hK rfl rfl [(4, .int (I 0)), (3, .int (I 0)), (2, .int (I (luF fd ea 0 ((gi h 171 7) - 1)))), (0, .ref 171), (1, .int (I n))] rfl ?_
          exact loop _ (luF fd ea 0 ((gi h 171 7) - 1)) 0 0 _ _ rfl (⟨⟨by omega, by omega⟩, by omega⟩) (by omega) (fun y => absurd y (by omega)) (fun y => by
            rw [y]
            have z := lv_3 (fd := fd) (ea := ea) (ms := gi h 171 7) (by omega) ((gi h 171 7).toNat - 1)
            rw [show (gi h 171 7).toNat - 1 + 1 = (gi h 171 7).toNat by omega] at z
            rw [z]
            first | (rw [if_pos (by omega)]; done) | (rw [if_neg (by omega)]; exact Prod.ext (by show (99999 : Int) = _; omega) rfl)) (by omega) (by omega) rfl rfl rfl rfl rfl (GD_w1 (hG) (r := 54) rfl (by omega) rfl (by omega) (by omega)) (FRM_w ((FRM.rf : FRM gRL [(0, 54, 0, 0), (0, 54, 1, 1), (1, 55, 0, 39)] h h)) (r := 54) rfl rfl)
    · refine x_iconst 25 hK rfl rfl ?_
      exact x_iret hK rfl ⟨Or.inl ⟨fun z => by have z1 := z.1; have z2 := z.2; omega, rfl, mrow_k (by decide), gi_k (by decide) _⟩, GD_w1 (hG) (r := 54) rfl (by omega) rfl (by omega) (by omega), FRM_w ((FRM.rf : FRM gRL [(0, 54, 0, 0), (0, 54, 1, 1), (1, 55, 0, 39)] h h)) (r := 54) rfl rfl⟩
  · refine x_if_eq 24 17 hK rfl rfl rfl (by omega) (fun _ => ?_) (fun c => by omega)
    refine x_iconst 25 hK rfl rfl ?_
    exact x_iret hK rfl ⟨Or.inl ⟨fun z => by have z1 := z.1; have z2 := z.2; omega, rfl, mrow_k (by decide), gi_k (by decide) _⟩, GD_w1 (hG) (r := 54) rfl (by omega) rfl (by omega) (by omega), FRM_w ((FRM.rf : FRM gRL [(0, 54, 0, 0), (0, 54, 1, 1), (1, 55, 0, 39)] h h)) (r := 54) rfl rfl⟩
