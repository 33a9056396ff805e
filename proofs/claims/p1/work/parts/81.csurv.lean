/-! WORDS THAT SURVIVE -/
def pwF (x : Int) : Nat → Int
  | 0 => 1
  | n + 1 => pwF x n * x
theorem pwF_s {x i : Int} (h : 0 ≤ i) : pwF x (i + 1).toNat = pwF x i.toNat * x := by rw [tn_s h]; rfl
theorem pw_ten : ∀ n, pwF 10 n = tenN n
  | 0 => rfl
  | n + 1 => by show pwF 10 n * 10 = tenN n * 10; rw [pw_ten n]
/-- what the class adds up: by how many rows turn the word round -/
def lkS (k p : Int) : Nat → Int
  | 0 => 0
  | t + 1 => lkS k p t + btB k t * pwF p t * pwF (10 - p) (k - t).toNat
theorem lkS_s {k p t : Int} (h : 0 ≤ t) : lkS k p (t + 1).toNat = lkS k p t.toNat + btB k t.toNat * pwF p t.toNat * pwF (10 - p) (k - t).toNat := by
  rw [tn_s h]
  show lkS k p t.toNat + btB k t.toNat * pwF p t.toNat * pwF (10 - p) (k - (t.toNat : Int)).toNat = _
  rw [tn_c h]
theorem lk_bt : ((List.range 16).all fun k => (List.range 11).all fun p => k % 2 == 0 || decide (lkS k p (k / 2 + 1) = btS k p ((k + 1) / 2) ∧ 0 ≤ btS k p ((k + 1) / 2) ∧ btS k p ((k + 1) / 2) ≤ tenN k)) = true := by decide +kernel
theorem lk_bd {k p : Int} (hk : 1 ≤ k ∧ k ≤ 15) (ho : k % 2 = 1) (hp : 0 ≤ p ∧ p ≤ 10) : lkS k p (k / 2 + 1).toNat = btS k p ((k + 1) / 2).toNat ∧ 0 ≤ btS k p ((k + 1) / 2).toNat ∧ btS k p ((k + 1) / 2).toNat ≤ tenN k.toNat := by
  have z := all_r (all_r lk_bt (i := k.toNat) (by omega)) (i := p.toNat) (by omega)
  rw [Bool.or_eq_true, beq_iff_eq] at z
  rcases z with z | z
  · omega
  · have z := of_decide_eq_true z
    rw [tn_c (by omega), tn_c hp.1] at z
    rw [show (k / 2 + 1).toNat = k.toNat / 2 + 1 by omega, show ((k + 1) / 2).toNat = (k.toNat + 1) / 2 by omega]
    exact z
def svC (p v k : Int) : Prop := v * tenN k.toNat ≤ 100 * btS k p ((k + 1) / 2).toNat
/-- the first row count that will do; m: how many are left to try -/
def svG (p v : Int) : Nat → Int
  | 0 => -2
  | m + 1 => if v * tenN (15 - 2 * (m : Int)).toNat ≤ 100 * btS (15 - 2 * m) p ((15 - 2 * m + 1) / 2 : Int).toNat then 15 - 2 * m else svG p v m
theorem svG_u {p v k : Int} (hk : 1 ≤ k ∧ k ≤ 15) (ho : k % 2 = 1) : svG p v ((17 - k) / 2).toNat = if v * tenN k.toNat ≤ 100 * btS k p ((k + 1) / 2).toNat then k else svG p v ((17 - (k + 2)) / 2).toNat := by
  obtain ⟨m, hm⟩ : ∃ m : Nat, ((17 - k) / 2).toNat = m + 1 := ⟨((17 - (k + 2)) / 2).toNat, by omega⟩
  have e : (15 - 2 * (m : Int)) = k := by omega
  rw [hm, show ((17 - (k + 2)) / 2).toNat = m by omega]
  show (if v * tenN (15 - 2 * (m : Int)).toNat ≤ 100 * btS (15 - 2 * m) p ((15 - 2 * (m : Int) + 1) / 2).toNat then 15 - 2 * (m : Int) else svG p v m) = _
  rw [e]
theorem svG_r {p v : Int} : ∀ m : Nat, m ≤ 8 → r32 (svG p v m)
  | 0, _ => by unfold svG; omega
  | m + 1, h => by
    have := svG_r (p := p) (v := v) m (by omega)
    unfold svG
    split <;> omega
set_option maxRecDepth 4000 in
theorem ctX10_power {SP : CT} (hSP : MONO SP) {h : aH} {x n : Int} (hn : 0 ≤ n ∧ n ≤ 100) : CLd SP 1 mX10_power [.long (J x), .int (I n)] h 0 0 (fun rv h' => h' = h ∧ rv = some (.long (J (pwF x n.toNat)))) := by
  refine x_met _ rfl (Nat.le_of_ble_eq_true rfl) (fun K hK => ?_)
  have hmono := MONO_CLd hSP 0
  have loop : ∀ (mz : Nat) (e i : Int) (ls : List (Nat × Value)), ((n - i).toNat = mz) → (0 ≤ i ∧ i ≤ n) → (e = pwF x i.toNat) → lk ls 0 = some (.long (J x)) → lk ls 2 = some (.int (I n)) → lk ls 3 = some (.long (J e)) → lk ls 5 = some (.int (I i)) → K 5 ls [] h 0 0 := by
    intro mz
    induction mz using Nat.strongRecOn with
    | ind mz ih =>
    intro e i ls hm i0 ee l0 l2 l3 l5
    refine x_iload 7 hK rfl rfl l5 ?_
    refine x_iload_n 8 hK rfl rfl l2 ?_
    refine x_if_icmp_ge 21 11 hK rfl rfl rfl (by omega) (by omega) (fun c3 => ?_) (fun c3 => ?_)
    · refine x_lload_n 22 hK rfl rfl l3 ?_
      exact x_lret hK rfl ⟨rfl, by rw [ee, show i = n by omega]⟩
    · refine x_lload_n 12 hK rfl rfl l3 ?_
      refine x_lload_n 13 hK rfl rfl l0 ?_
      refine x_lmul 14 hK rfl rfl ?_
      refine x_lstore_n 15 hK rfl rfl _ rfl ?_
      refine x_iinc 18 hK rfl rfl (lk2_n l5 (by decide) (by decide) (Or.inl rfl)) _ rfl ?_
      refine x_goto 5 hK rfl rfl ?_
      exact ih _ (by omega) (e * x) (i + 1) _ rfl (by omega) (by rw [pwF_s i0.1, ← ee]) (lk1_n (lk2_n l0 (by decide) (by decide) (Or.inr (by decide))) (by decide) (Or.inr (by decide))) (lk1_n (lk2_n l2 (by decide) (by decide) (Or.inl rfl)) (by decide) (Or.inl rfl)) (lk1_n lk2_s (by decide) (Or.inr (by decide))) lk1_s
  refine x_lconstE 1 1 hK rfl rfl rfl ?_
  refine x_lstore_n 2 hK rfl rfl [(3, .long (J 1)), (0, .long (J x)), (2, .int (I n))] rfl ?_
  refine x_iconst 3 hK rfl rfl ?_
  refine x_istore 5 hK rfl rfl [(5, .int (I 0)), (3, .long (J 1)), (0, .long (J x)), (2, .int (I n))] rfl ?_
  exact loop _ 1 0 _ rfl (by omega) (rfl) rfl rfl rfl rfl
set_option maxRecDepth 4000 in
theorem ctX10_likelyWord {SP : CT} (hSP : MONO SP) {h : aH} {k p : Int} (hk : 1 ≤ k ∧ k ≤ 15) (hp : 0 ≤ p ∧ p ≤ 10) : CLd SP 2 mX10_likelyWord [.int (I k), .int (I p)] h 0 0 (fun rv h' => h' = h ∧ rv = some (.long (J (lkS k p (k / 2 + 1).toNat)))) := by
  refine x_met _ rfl (Nat.le_of_ble_eq_true rfl) (fun K hK => ?_)
  have hmono := MONO_CLd hSP 1
  have loop : ∀ (mz : Nat) (e w t : Int) (ls : List (Nat × Value)), ((k / 2 + 1 - t).toNat = mz) → (0 ≤ t ∧ t ≤ k / 2 + 1) → (e = lkS k p t.toNat) → (w = btB k t.toNat) → lk ls 0 = some (.int (I k)) → lk ls 1 = some (.int (I p)) → lk ls 2 = some (.long (J e)) → lk ls 4 = some (.long (J w)) → lk ls 6 = some (.int (I t)) → K 8 ls [] h 0 0 := by
    intro mz
    induction mz using Nat.strongRecOn with
    | ind mz ih =>
    intro e w t ls hm t0 ee ew l0 l1 l2 l4 l6
    have bb := fun z : t ≤ k => btB_bd (k := k) (i := t) (by omega) (by omega) t0.1 (by omega) z
    rw [← ew] at bb
    refine x_iload 10 hK rfl rfl l6 ?_
    refine x_iload_n 11 hK rfl rfl l0 ?_
    refine x_iconst 12 hK rfl rfl ?_
    refine x_idivp 13 hK rfl rfl (by omega) (by omega) (by omega) (by omega) ?_
    refine x_if_icmp_gt 64 16 hK rfl rfl rfl (by omega) (by omega) (fun c5 => ?_) (fun c5 => ?_)
    · refine x_lload_n 65 hK rfl rfl l2 ?_
      exact x_lret hK rfl ⟨rfl, by rw [ee, show t = k / 2 + 1 by omega]⟩
    · refine x_lload_n 17 hK rfl rfl l2 ?_
      refine x_lload 19 hK rfl rfl l4 ?_
      refine x_iload_n 20 hK rfl rfl l1 ?_
      refine x_i2l 21 hK rfl rfl (by omega) ?_
      refine x_iload 23 hK rfl rfl l6 ?_
      refine x_callS 26 hK hmono rfl (Or.inl rfl) rfl [.long (J p), .int (I t)] [.long (J w), .long (J e)] rfl rfl (Nat.le_of_ble_eq_true rfl) (Nat.le_of_ble_eq_true rfl) (CLd_le (Nat.le_of_ble_eq_true rfl) (ctX10_power hSP (x := p) (n := t) (by omega))) ?_
      rintro v9 h9 ⟨e9, rfl⟩
      rw [e9]
      clear e9
      refine x_lmul 27 hK rfl rfl ?_
      refine x_bipush 29 hK rfl rfl rfl ?_
      refine x_iload_n 30 hK rfl rfl l1 ?_
      refine x_isub 31 hK rfl rfl ?_
      refine x_i2l 32 hK rfl rfl (by omega) ?_
      refine x_iload_n 33 hK rfl rfl l0 ?_
      refine x_iload 35 hK rfl rfl l6 ?_
      refine x_isub 36 hK rfl rfl ?_
      refine x_callS 39 hK hmono rfl (Or.inl rfl) rfl [.long (J (10 - p)), .int (I (k - t))] [.long (J (w * (pwF p t.toNat))), .long (J e)] rfl rfl (Nat.le_of_ble_eq_true rfl) (Nat.le_of_ble_eq_true rfl) (CLd_le (Nat.le_of_ble_eq_true rfl) (ctX10_power hSP (x := (10 - p)) (n := (k - t)) (by omega))) ?_
      rintro v9 h9 ⟨e9, rfl⟩
      rw [e9]
      clear e9
      refine x_lmul 40 hK rfl rfl ?_
      refine x_ladd 41 hK rfl rfl ?_
      refine x_lstore_n 42 hK rfl rfl _ rfl ?_
      refine x_lload 44 hK rfl rfl (lk2_n l4 (by decide) (by decide) (Or.inr (by decide))) ?_
      have bb2 := bb (by omega)
      refine x_iload_n 45 hK rfl rfl (lk2_n l0 (by decide) (by decide) (Or.inl rfl)) ?_
      refine x_iload 47 hK rfl rfl (lk2_n l6 (by decide) (by decide) (Or.inl rfl)) ?_
      refine x_isub 48 hK rfl rfl ?_
      refine x_i2l 49 hK rfl rfl (by omega) ?_
      refine x_lmul 50 hK rfl rfl ?_
      refine x_iload 52 hK rfl rfl (lk2_n l6 (by decide) (by decide) (Or.inl rfl)) ?_
      refine x_iconst 53 hK rfl rfl ?_
      refine x_iadd 54 hK rfl rfl ?_
      refine x_i2l 55 hK rfl rfl (by omega) ?_
      refine x_ldivp 56 hK rfl rfl (by omega) (by omega) (by omega) (by omega) ?_
      refine x_lstore 58 hK rfl rfl _ rfl ?_
      refine x_iinc 61 hK rfl rfl (lk2_n (lk2_n l6 (by decide) (by decide) (Or.inl rfl)) (by decide) (by decide) (Or.inl rfl)) _ rfl ?_
      refine x_goto 8 hK rfl rfl ?_
      exact ih _ (by omega) (e + ((w * (pwF p t.toNat)) * (pwF (10 - p) (k - t).toNat))) ((w * (k - t)) / (t + 1)) (t + 1) _ rfl (by omega) (by rw [lkS_s t0.1, ← ee, ← ew]) (by rw [btB_s t0.1, ← ew]) (lk1_n (lk2_n (lk2_n l0 (by decide) (by decide) (Or.inl rfl)) (by decide) (by decide) (Or.inl rfl)) (by decide) (Or.inl rfl)) (lk1_n (lk2_n (lk2_n l1 (by decide) (by decide) (Or.inl rfl)) (by decide) (by decide) (Or.inl rfl)) (by decide) (Or.inl rfl)) (lk1_n (lk2_n lk2_s (by decide) (by decide) (Or.inr (by decide))) (by decide) (Or.inr (by decide))) (lk1_n lk2_s (by decide) (Or.inr (by decide))) lk1_s
  refine x_lconstE 1 0 hK rfl rfl rfl ?_
  refine x_lstore_n 2 hK rfl rfl [(2, .long (J 0)), (0, .int (I k)), (1, .int (I p))] rfl ?_
  refine x_lconstE 3 1 hK rfl rfl rfl ?_
  refine x_lstore 5 hK rfl rfl [(4, .long (J 1)), (2, .long (J 0)), (0, .int (I k)), (1, .int (I p))] rfl ?_
  refine x_iconst 6 hK rfl rfl ?_
  refine x_istore 8 hK rfl rfl [(6, .int (I 0)), (4, .long (J 1)), (2, .long (J 0)), (0, .int (I k)), (1, .int (I p))] rfl ?_
  exact loop _ 0 1 0 _ rfl (by omega) (rfl) (rfl) rfl rfl rfl rfl rfl
set_option maxRecDepth 4000 in
theorem ctX10_survives {SP : CT} (hSP : MONO SP) {sh : List (Nat × Nat)} {h : aH} (hG : GD gE gRL sh h) {p v : Int} (rp : r32 p) (rv : r32 v) : CLd SP 4 mX10_survives [.ref 0, .int (I p), .int (I v)] h 0 0 (fun rv h' => h' = h ∧ rv = some (.int (I (if (0 ≤ p ∧ p ≤ 10) ∧ 0 ≤ v ∧ v ≤ 100 then svG p v 8 else -1)))) := by
  refine x_met _ rfl (Nat.le_of_ble_eq_true rfl) (fun K hK => ?_)
  have hmono := MONO_CLd hSP 3
  have loop : ∀ (mz : Nat) (k : Int) (ls : List (Nat × Value)), ((17 - k).toNat = mz) → ((0 ≤ p ∧ p ≤ 10) ∧ 0 ≤ v ∧ v ≤ 100) → (1 ≤ k ∧ k ≤ 17 ∧ k % 2 = 1) → (svG p v ((17 - k) / 2).toNat = svG p v 8) → lk ls 0 = some (.ref 0) → lk ls 1 = some (.int (I p)) → lk ls 2 = some (.int (I v)) → lk ls 3 = some (.int (I k)) → K 24 ls [] h 0 0 := by
    intro mz
    induction mz using Nat.strongRecOn with
    | ind mz ih =>
    intro k ls hm q0 k0 sv l0 l1 l2 l3
    have u := fun z : k ≤ 15 => svG_u (p := p) (v := v) ⟨k0.1, z⟩ k0.2.2
    have lb := fun z : k ≤ 15 => lk_bd (k := k) (p := p) ⟨k0.1, z⟩ k0.2.2 q0.1
    have tb := fun z : k ≤ 15 => tenN_bd (i := k) (by omega) (by omega)
    refine x_iload_n 25 hK rfl rfl l3 ?_
    refine x_bipush 27 hK rfl rfl rfl ?_
    refine x_if_icmp_gt 61 30 hK rfl rfl rfl (by omega) (by omega) (fun c3 => ?_) (fun c3 => ?_)
    · refine x_bipush 63 hK rfl rfl rfl ?_
      have e : svG p v 8 = -2 := by rw [← sv, show ((17 - k) / 2).toNat = 0 by omega]; rfl
      exact x_iret hK rfl ⟨rfl, by rw [if_pos q0, e]⟩
    · replace u := u (by omega)
      replace lb := lb (by omega)
      replace tb := tb (by omega)
      refine x_iload_n 31 hK rfl rfl l3 ?_
      refine x_iload_n 32 hK rfl rfl l1 ?_
      refine x_callS 35 hK hmono rfl (Or.inl rfl) rfl [.int (I k), .int (I p)] [] rfl rfl (Nat.le_of_ble_eq_true rfl) (Nat.le_of_ble_eq_true rfl) (CLd_le (Nat.le_of_ble_eq_true rfl) (ctX10_likelyWord hSP (k := k) (p := p) (by omega) (by omega))) ?_
      rintro v9 h9 ⟨e9, rfl⟩
      rw [e9]
      clear e9
      refine x_ldc2_w 38 hK rfl rfl ?_
      refine x_lmul 39 hK rfl rfl ?_
      refine x_ldc2_w 42 hK rfl rfl ?_
      refine x_iload_n 43 hK rfl rfl l3 ?_
      refine x_callS 46 hK hmono rfl (Or.inl rfl) rfl [.long (J 10), .int (I k)] [.long (J ((lkS k p (k / 2 + 1).toNat) * 100))] rfl rfl (Nat.le_of_ble_eq_true rfl) (Nat.le_of_ble_eq_true rfl) (CLd_le (Nat.le_of_ble_eq_true rfl) (ctX10_power hSP (x := 10) (n := k) (by omega))) ?_
      rintro v9 h9 ⟨e9, rfl⟩
      rw [e9]
      clear e9
      refine x_iload_n 47 hK rfl rfl l2 ?_
      refine x_i2l 48 hK rfl rfl (by omega) ?_
      refine x_lmul 49 hK rfl rfl ?_
      rw [pw_ten, lb.1]
      have mb : 0 ≤ tenN k.toNat * v ∧ tenN k.toNat * v ≤ 10000000000000000 * 100 := ⟨Int.mul_nonneg (by omega) (by omega), Int.mul_le_mul (by omega) (by omega) (by omega) (by omega)⟩
      have mc : tenN k.toNat * v = v * tenN k.toNat := Int.mul_comm _ _
      refine x_lcmp_lt 55 53 hK rfl rfl rfl rfl (by omega) (by omega) (fun c19 => ?_) (fun c19 => ?_)
      · refine x_iinc 58 hK rfl rfl l3 _ rfl ?_
        refine x_goto 24 hK rfl rfl ?_
        exact ih _ (by omega) (k + 2) _ rfl (q0) (by omega) (by rw [← sv, u, if_neg (by omega)]) (lk1_n l0 (by decide) (Or.inl rfl)) (lk1_n l1 (by decide) (Or.inl rfl)) (lk1_n l2 (by decide) (Or.inl rfl)) lk1_s
      · refine x_iload_n 54 hK rfl rfl l3 ?_
        have e : svG p v 8 = k := by rw [← sv, u, if_pos (by omega)]
        exact x_iret hK rfl ⟨rfl, by rw [if_pos q0, e]⟩
  refine x_iload_n 1 hK rfl rfl rfl ?_
  refine x_if_lt 20 4 hK rfl rfl rfl (by omega) (fun c2 => ?_) (fun c2 => ?_)
  · refine x_iconst 21 hK rfl rfl ?_
    exact x_iret hK rfl ⟨rfl, by rw [if_neg (by omega)]⟩
  · refine x_iload_n 5 hK rfl rfl rfl ?_
    refine x_bipush 7 hK rfl rfl rfl ?_
    refine x_if_icmp_gt 20 10 hK rfl rfl rfl (by omega) (by omega) (fun c7 => ?_) (fun c7 => ?_)
    · refine x_iconst 21 hK rfl rfl ?_
      exact x_iret hK rfl ⟨rfl, by rw [if_neg (by omega)]⟩
    · refine x_iload_n 11 hK rfl rfl rfl ?_
      refine x_if_lt 20 14 hK rfl rfl rfl (by omega) (fun c11 => ?_) (fun c11 => ?_)
      · refine x_iconst 21 hK rfl rfl ?_
        exact x_iret hK rfl ⟨rfl, by rw [if_neg (by omega)]⟩
      · refine x_iload_n 15 hK rfl rfl rfl ?_
        refine x_bipush 17 hK rfl rfl rfl ?_
        refine x_if_icmp_le 22 20 hK rfl rfl rfl (by omega) (by omega) (fun c16 => ?_) (fun c16 => ?_)
        · refine x_iconst 23 hK rfl rfl ?_
          refine x_istore_n 24 hK rfl rfl [(3, .int (I 1)), (0, .ref 0), (1, .int (I p)), (2, .int (I v))] rfl ?_
          exact loop _ 1 _ rfl (by omega) (by omega) (rfl) rfl rfl rfl rfl
        · refine x_iconst 21 hK rfl rfl ?_
          exact x_iret hK rfl ⟨rfl, by rw [if_neg (by omega)]⟩
set_option maxRecDepth 4000 in
theorem ctX11_survives {SP : CT} (hSP : MONO SP) {sh : List (Nat × Nat)} {h : aH} (hG : GD gE gRL sh h) {p v : Int} (rp : r32 p) (rv : r32 v) : CLd SP 5 mX11_survives [.ref 171, .int (I p), .int (I v)] h 0 0 (fun rv h' => rv = some (.int (I (if (0 ≤ p ∧ p ≤ 10) ∧ 0 ≤ v ∧ v ≤ 100 then svG p v 8 else -1))) ∧ GD gE gRL sh h' ∧ FRM gRL [(0, 54, 0, 0), (1, 54, 39, 39), (1, 54, 40, 40)] h h' ∧ gi h' 171 0 = 0) := by
  refine x_met _ rfl (Nat.le_of_ble_eq_true rfl) (fun K hK => ?_)
  have hmono := MONO_CLd hSP 4
  have loop : ∀ (mz : Nat) (k : Int) (h4 : aH) (ls : List (Nat × Value)), ((17 - k).toNat = mz) → ((0 ≤ p ∧ p ≤ 10) ∧ 0 ≤ v ∧ v ≤ 100) → (1 ≤ k ∧ k ≤ 17 ∧ k % 2 = 1) → (svG p v ((17 - k) / 2).toNat = svG p v 8) → (gi h4 171 0 = 0) → lk ls 0 = some (.ref 171) → lk ls 1 = some (.int (I p)) → lk ls 2 = some (.int (I v)) → lk ls 3 = some (.int (I k)) → GD gE gRL sh h4 → FRM gRL [(0, 54, 0, 0), (1, 54, 39, 39), (1, 54, 40, 40)] h h4 → K 33 ls [] h4 0 0 := by
    intro mz
    induction mz using Nat.strongRecOn with
    | ind mz ih =>
    intro k h4 ls hm q0 k0 sv t4 l0 l1 l2 l3 hG4 hF4
    have u := fun z : k ≤ 15 => svG_u (p := p) (v := v) ⟨k0.1, z⟩ k0.2.2
    have lb := fun z : k ≤ 15 => lk_bd (k := k) (p := p) ⟨k0.1, z⟩ k0.2.2 q0.1
    have tb := fun z : k ≤ 15 => tenN_bd (i := k) (by omega) (by omega)
    refine x_iload_n 34 hK rfl rfl l3 ?_
    refine x_bipush 36 hK rfl rfl rfl ?_
    refine x_if_icmp_gt 72 39 hK rfl rfl rfl (by omega) (by omega) (fun c3 => ?_) (fun c3 => ?_)
    · refine x_bipush 74 hK rfl rfl rfl ?_
      have e : svG p v 8 = -2 := by rw [← sv, show ((17 - k) / 2).toNat = 0 by omega]; rfl
      exact x_iret hK rfl ⟨by rw [if_pos q0, e], hG4, hF4, t4⟩
    · replace u := u (by omega)
      replace lb := lb (by omega)
      replace tb := tb (by omega)
      refine x_aload_n 40 hK rfl rfl l0 ?_
      refine x_iload_n 41 hK rfl rfl l3 ?_
      refine x_iload_n 42 hK rfl rfl l1 ?_
      refine x_callV 45 hK hmono rfl rfl [.ref 171, .int (I k), .int (I p)] [] rfl rfl (Nat.le_of_ble_eq_true rfl) (Nat.le_of_ble_eq_true rfl) rfl (sp_171 (h := h4) hG4) (CLd_le (Nat.le_of_ble_eq_true rfl) (ctX11_bets hSP hG4 (by omega) (by omega))) ?_
      rintro v64 h64 ⟨rfl, hG64, hF64, u64, d64⟩
      refine x_ldc2_w 48 hK rfl rfl ?_
      refine x_aload_n 49 hK rfl rfl l0 ?_
      refine x_getJE 52 hK rfl rfl (sp_171 (h := h64) hG64) (e := (btS k p ((k + 1) / 2).toNat)) (u64) ?_
      refine x_lmul 53 hK rfl rfl ?_
      refine x_iload_n 54 hK rfl rfl l2 ?_
      refine x_i2l 55 hK rfl rfl (by omega) ?_
      refine x_aload_n 56 hK rfl rfl l0 ?_
      refine x_getJE 59 hK rfl rfl (sp_171 (h := h64) hG64) (e := (tenN k.toNat)) (d64) ?_
      refine x_lmul 60 hK rfl rfl ?_
      have mb : 0 ≤ v * tenN k.toNat ∧ v * tenN k.toNat ≤ 100 * 10000000000000000 := ⟨Int.mul_nonneg (by omega) (by omega), Int.mul_le_mul (by omega) (by omega) (by omega) (by omega)⟩
      refine x_lcmp_lt 66 64 hK rfl rfl rfl rfl (by omega) (by omega) (fun c21 => ?_) (fun c21 => ?_)
      · refine x_iinc 69 hK rfl rfl l3 _ rfl ?_
        refine x_goto 33 hK rfl rfl ?_
        exact ih _ (by omega) (k + 2) _ _ rfl (q0) (by omega) (by rw [← sv, u, if_neg (by omega)]) ((FRM_gi hF64 (r := 54) rfl rfl).trans (t4)) (lk1_n l0 (by decide) (Or.inl rfl)) (lk1_n l1 (by decide) (Or.inl rfl)) (lk1_n l2 (by decide) (Or.inl rfl)) lk1_s (hG64) ((hF4).trans ((hF64).mono rfl))
      · refine x_iload_n 65 hK rfl rfl l3 ?_
        have e : svG p v 8 = k := by rw [← sv, u, if_pos (by omega)]
        exact x_iret hK rfl ⟨by rw [if_pos q0, e], hG64, (hF4).trans ((hF64).mono rfl), (FRM_gi hF64 (r := 54) rfl rfl).trans (t4)⟩
  refine x_aload_n 1 hK rfl rfl rfl ?_
  refine x_iconst 2 hK rfl rfl ?_
  refine x_putI 5 hK rfl rfl (sp_171 (h := h) hG) ?_
  refine x_iload_n 6 hK rfl rfl rfl ?_
  refine x_i2l 7 hK rfl rfl (by omega) ?_
  refine x_lconstE 8 0 hK rfl rfl rfl ?_
  refine x_ldc2_w 11 hK rfl rfl ?_
  have hGp65 : GD gE gRL sh (wI h 171 0 0) := GD_w1 (hG) (r := 54) rfl (by omega) rfl (by omega) (by omega)
  refine x_callS 14 hK hmono rfl (Or.inl rfl) rfl [.long (J p), .long (J 0), .long (J 10)] [] rfl rfl (Nat.le_of_ble_eq_true rfl) (Nat.le_of_ble_eq_true rfl) (CLd_le (Nat.le_of_ble_eq_true rfl) (ctX11_in (by omega) (by omega) (by omega))) ?_
  rintro v9 h9 ⟨e9, ⟨rfl, i166, i266⟩ | ⟨rfl, i166⟩⟩ <;> rw [e9] <;> clear e9
  · refine x_if_eq 29 17 hK rfl rfl rfl (by omega) (fun c => by omega) (fun _ => ?_)
    refine x_iload_n 18 hK rfl rfl rfl ?_
    refine x_i2l 19 hK rfl rfl (by omega) ?_
    refine x_lconstE 20 0 hK rfl rfl rfl ?_
    refine x_ldc2_w 23 hK rfl rfl ?_
    have hGp67 : GD gE gRL sh (wI h 171 0 0) := GD_w1 (hG) (r := 54) rfl (by omega) rfl (by omega) (by omega)
    refine x_callS 26 hK hmono rfl (Or.inl rfl) rfl [.long (J v), .long (J 0), .long (J 100)] [] rfl rfl (Nat.le_of_ble_eq_true rfl) (Nat.le_of_ble_eq_true rfl) (CLd_le (Nat.le_of_ble_eq_true rfl) (ctX11_in (by omega) (by omega) (by omega))) ?_
    rintro v9 h9 ⟨e9, ⟨rfl, i168, i268⟩ | ⟨rfl, i168⟩⟩ <;> rw [e9] <;> clear e9
    · refine x_if_ne 31 29 hK rfl rfl rfl (by omega) (fun _ => ?_) (fun c => by omega)
      refine x_iconst 32 hK rfl rfl ?_
      refine x_istore_n 33 hK rfl rfl [(3, .int (I 1)), (0, .ref 171), (1, .int (I p)), (2, .int (I v))] rfl ?_
      exact loop _ 1 _ _ rfl (by omega) (by omega) (rfl) (gi_same (by omega)) rfl rfl rfl rfl (GD_w1 (hG) (r := 54) rfl (by omega) rfl (by omega) (by omega)) (FRM_w ((FRM.rf : FRM gRL [(0, 54, 0, 0), (1, 54, 39, 39), (1, 54, 40, 40)] h h)) (r := 54) rfl rfl)
    · refine x_if_ne 31 29 hK rfl rfl rfl (by omega) (fun c => by omega) (fun _ => ?_)
      refine x_iconst 30 hK rfl rfl ?_
      exact x_iret hK rfl ⟨by rw [if_neg (by omega)], GD_w1 (hG) (r := 54) rfl (by omega) rfl (by omega) (by omega), FRM_w ((FRM.rf : FRM gRL [(0, 54, 0, 0), (1, 54, 39, 39), (1, 54, 40, 40)] h h)) (r := 54) rfl rfl, gi_same (by omega)⟩
  · refine x_if_eq 29 17 hK rfl rfl rfl (by omega) (fun _ => ?_) (fun c => by omega)
    refine x_iconst 30 hK rfl rfl ?_
    exact x_iret hK rfl ⟨by rw [if_neg (by omega)], GD_w1 (hG) (r := 54) rfl (by omega) rfl (by omega) (by omega), FRM_w ((FRM.rf : FRM gRL [(0, 54, 0, 0), (1, 54, 39, 39), (1, 54, 40, 40)] h h)) (r := 54) rfl rfl, gi_same (by omega)⟩
set_option maxRecDepth 4000 in
theorem ctX10_word {SP : CT} (hSP : MONO SP) {sh : List (Nat × Nat)} {h : aH} (hG : GD gE gRL sh h) {k p : Int} (hX : XI h) (rk : r32 k) (rp : r32 p) : CLd SP 5 mX10_word [.ref 0, .int (I k), .int (I p)] h 0 0 (fun rv h' => rv = some (.int (I (if 1 ≤ k ∧ k ≤ 15 ∧ k % 2 = 1 ∧ 0 ≤ p ∧ p ≤ 10 then 0 else -1))) ∧ GD gE gRL sh h' ∧ FRM gRL [(0, 3, 1, 1), (1, 4, 0, 29)] h h') := by
  refine x_met _ rfl (Nat.le_of_ble_eq_true rfl) (fun K hK => ?_)
  have hmono := MONO_CLd hSP 4
  have lb := fun (z : (1 ≤ k ∧ k ≤ 15) ∧ k % 2 = 1 ∧ 0 ≤ p ∧ p ≤ 10) => lk_bd (k := k) (p := p) z.1 z.2.1 z.2.2
  have tb := fun (z : (1 ≤ k ∧ k ≤ 15)) => tenN_bd (i := k) (by omega) (by omega)
  refine x_iload_n 1 hK rfl rfl rfl ?_
  refine x_iconst 2 hK rfl rfl ?_
  refine x_if_icmp_lt 27 5 hK rfl rfl rfl (by omega) (by omega) (fun c3 => ?_) (fun c3 => ?_)
  · refine x_iconst 28 hK rfl rfl ?_
    exact x_iret hK rfl ⟨by rw [if_neg (by omega)], hG, (FRM.rf : FRM gRL [(0, 3, 1, 1), (1, 4, 0, 29)] h h)⟩
  · refine x_iload_n 6 hK rfl rfl rfl ?_
    refine x_bipush 8 hK rfl rfl rfl ?_
    refine x_if_icmp_gt 27 11 hK rfl rfl rfl (by omega) (by omega) (fun c8 => ?_) (fun c8 => ?_)
    · refine x_iconst 28 hK rfl rfl ?_
      exact x_iret hK rfl ⟨by rw [if_neg (by omega)], hG, (FRM.rf : FRM gRL [(0, 3, 1, 1), (1, 4, 0, 29)] h h)⟩
    · refine x_iload_n 12 hK rfl rfl rfl ?_
      refine x_iconst 13 hK rfl rfl ?_
      refine x_iremp 14 hK rfl rfl (by omega) (by omega) (by omega) (by omega) ?_
      refine x_if_eq 27 17 hK rfl rfl rfl (by omega) (fun c14 => ?_) (fun c14 => ?_)
      · refine x_iconst 28 hK rfl rfl ?_
        exact x_iret hK rfl ⟨by rw [if_neg (by omega)], hG, (FRM.rf : FRM gRL [(0, 3, 1, 1), (1, 4, 0, 29)] h h)⟩
      · refine x_iload_n 18 hK rfl rfl rfl ?_
        refine x_if_lt 27 21 hK rfl rfl rfl (by omega) (fun c18 => ?_) (fun c18 => ?_)
        · refine x_iconst 28 hK rfl rfl ?_
          exact x_iret hK rfl ⟨by rw [if_neg (by omega)], hG, (FRM.rf : FRM gRL [(0, 3, 1, 1), (1, 4, 0, 29)] h h)⟩
        · refine x_iload_n 22 hK rfl rfl rfl ?_
          refine x_bipush 24 hK rfl rfl rfl ?_
          refine x_if_icmp_le 29 27 hK rfl rfl rfl (by omega) (by omega) (fun c23 => ?_) (fun c23 => ?_)
          · refine x_aload_n 30 hK rfl rfl rfl ?_
            refine x_getR 33 hK rfl rfl (sp_0 (h := h) hG) (rf_0_1 (h := h) hG) ?_
            refine x_iload_n 34 hK rfl rfl rfl ?_
            refine x_iload_n 35 hK rfl rfl rfl ?_
            refine x_callS 38 hK hmono rfl (Or.inl rfl) rfl [.int (I k), .int (I p)] [.ref 3] rfl rfl (Nat.le_of_ble_eq_true rfl) (Nat.le_of_ble_eq_true rfl) (CLd_le (Nat.le_of_ble_eq_true rfl) (ctX10_likelyWord hSP (k := k) (p := p) (by omega) (by omega))) ?_
            rintro v9 h9 ⟨e9, rfl⟩
            rw [e9]
            clear e9
            refine x_ldc2_w 41 hK rfl rfl ?_
            refine x_iload_n 42 hK rfl rfl rfl ?_
            refine x_callS 45 hK hmono rfl (Or.inl rfl) rfl [.long (J 10), .int (I k)] [.long (J (lkS k p (k / 2 + 1).toNat)), .ref 3] rfl rfl (Nat.le_of_ble_eq_true rfl) (Nat.le_of_ble_eq_true rfl) (CLd_le (Nat.le_of_ble_eq_true rfl) (ctX10_power hSP (x := 10) (n := k) (by omega))) ?_
            rintro v9 h9 ⟨e9, rfl⟩
            rw [e9]
            clear e9
            replace lb := lb (by omega)
            replace tb := tb (by omega)
            rw [pw_ten, lb.1]
            refine x_callV 48 hK hmono rfl rfl [.ref 3, .long (J (btS k p ((k + 1) / 2).toNat)), .long (J (tenN k.toNat))] [] rfl rfl (Nat.le_of_ble_eq_true rfl) (Nat.le_of_ble_eq_true rfl) rfl (sp_3 (h := h) hG) (CLd_le (Nat.le_of_ble_eq_true rfl) (ctX3_tellFraction hSP hG hX (by omega) (by omega))) ?_
            rintro v69 h69 ⟨rfl, hG69, hF69⟩
            refine x_iconst 49 hK rfl rfl ?_
            exact x_iret hK rfl ⟨by rw [if_pos (by omega)], hG69, hF69⟩
          · refine x_iconst 28 hK rfl rfl ?_
            exact x_iret hK rfl ⟨by rw [if_neg (by omega)], hG, (FRM.rf : FRM gRL [(0, 3, 1, 1), (1, 4, 0, 29)] h h)⟩
