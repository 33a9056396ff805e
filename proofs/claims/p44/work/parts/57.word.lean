/-! WORDS, RELAYS, MUTINIES, WHAT CAN BE CLEARED (the reference) -/
def tenN : Nat → Int
  | 0 => 1
  | n + 1 => tenN n * 10
def btB (k : Int) : Nat → Int
  | 0 => 1
  | i + 1 => btB k i * (k - i) / (i + 1)
def btP (k p : Int) (j : Nat) : Nat → Int
  | 0 => btB k j
  | i + 1 => btP k p j i * (if (i : Int) < j then p else 10 - p)
/-- in parts of 10 to the k: how likely fewer than half of k rows turn a word round -/
def btS (k p : Int) : Nat → Int
  | 0 => 0
  | j + 1 => btS k p j + btP k p j k.toNat
theorem tn_s {i : Int} (h : 0 ≤ i) : (i + 1).toNat = i.toNat + 1 := by omega
theorem tn_c {i : Int} (h : 0 ≤ i) : (i.toNat : Int) = i := by omega
theorem tenN_s {i : Int} (h : 0 ≤ i) : tenN (i + 1).toNat = tenN i.toNat * 10 := by rw [tn_s h]; rfl
theorem btB_s {k i : Int} (h : 0 ≤ i) : btB k (i + 1).toNat = btB k i.toNat * (k - i) / (i + 1) := by
  rw [tn_s h]
  show btB k i.toNat * (k - (i.toNat : Int)) / ((i.toNat : Int) + 1) = _
  rw [tn_c h]
theorem btP_s {k p i j : Int} (h : 0 ≤ i) (hj : 0 ≤ j) : btP k p j.toNat (i + 1).toNat = btP k p j.toNat i.toNat * (if i < j then p else 10 - p) := by
  rw [tn_s h]
  show btP k p j.toNat i.toNat * (if (i.toNat : Int) < (j.toNat : Int) then p else 10 - p) = _
  rw [tn_c h, tn_c hj]
theorem btS_s {k p j : Int} (h : 0 ≤ j) : btS k p (j + 1).toNat = btS k p j.toNat + btP k p j.toNat k.toNat := by rw [tn_s h]; rfl
theorem tenN_b : ((List.range 17).all fun n => decide (1 ≤ tenN n ∧ tenN n ≤ 10000000000000000)) = true := by decide +kernel
theorem bt_b1 : ((List.range 16).all fun k => (List.range 9).all fun i => decide (0 ≤ btB k i ∧ btB k i ≤ 100000 ∧ (0 ≤ btB k i * ((k : Int) - i) ∨ k < i) ∧ btB k i * ((k : Int) - i) ≤ 1000000)) = true := by decide +kernel
theorem bt_b2 : ((List.range 16).all fun k => (List.range 11).all fun p => (List.range 9).all fun j => decide (0 ≤ btS k p j ∧ btS k p j ≤ 1000000000000000000)) = true := by decide +kernel
theorem all_r {n : Nat} {f : Nat → Bool} (h : (List.range n).all f = true) {i : Nat} (hi : i < n) : f i = true := List.all_eq_true.mp h i (List.mem_range.mpr hi)
theorem tenN_bd {i : Int} (h : 0 ≤ i) (h2 : i ≤ 16) : 1 ≤ tenN i.toNat ∧ tenN i.toNat ≤ 10000000000000000 := of_decide_eq_true (all_r tenN_b (by omega))
theorem btB_bd {k i : Int} (hk : 0 ≤ k) (hk2 : k ≤ 15) (h : 0 ≤ i) (h2 : i ≤ 8) (h3 : i ≤ k) : 0 ≤ btB k i.toNat ∧ btB k i.toNat ≤ 100000 ∧ 0 ≤ btB k i.toNat * (k - i) ∧ btB k i.toNat * (k - i) ≤ 1000000 := by
  have z := of_decide_eq_true (all_r (all_r bt_b1 (i := k.toNat) (by omega)) (i := i.toNat) (by omega))
  rw [tn_c hk, tn_c h] at z
  obtain ⟨z1, z2, z3, z4⟩ := z
  refine ⟨z1, z2, ?_, z4⟩
  rcases z3 with z3 | z3
  · exact z3
  · omega
theorem btS_bd {k p j : Int} (hk : 0 ≤ k) (hk2 : k ≤ 15) (hp : 0 ≤ p) (hp2 : p ≤ 10) (h : 0 ≤ j) (h2 : j ≤ 8) : 0 ≤ btS k p j.toNat ∧ btS k p j.toNat ≤ 1000000000000000000 := by
  have z := of_decide_eq_true (all_r (all_r (all_r bt_b2 (i := k.toNat) (by omega)) (i := p.toNat) (by omega)) (i := j.toNat) (by omega))
  rw [tn_c hk, tn_c hp] at z
  exact z
set_option maxRecDepth 4000 in
theorem ctX11_bets {SP : CT} (hSP : MONO SP) {sh : List (Nat × Nat)} {h : aH} (hG : GD gE gRL sh h) {k p : Int} (hk : 0 ≤ k ∧ k ≤ 15) (hp : 0 ≤ p ∧ p ≤ 10) : CLd SP 2 mX11_bets [.ref 171, .int (I k), .int (I p)] h 0 0 (fun rv h' => rv = none ∧ GD gE gRL sh h' ∧ FRM gRL [(1, 54, 39, 39), (1, 54, 40, 40)] h h' ∧ gj h' 171 39 = btS k p ((k + 1) / 2).toNat ∧ gj h' 171 40 = tenN k.toNat) := by
  refine x_met _ rfl (Nat.le_of_ble_eq_true rfl) (fun K hK => ?_)
  have hmono := MONO_CLd hSP 1
  have loop2 : ∀ (mz : Nat) (j : Int) (h5 : aH) (ls : List (Nat × Value)), ((16 - j).toNat = mz) → (0 ≤ j) → (2 * j ≤ k + 1) → (gj h5 171 39 = btS k p j.toNat) → (gj h5 171 40 = tenN k.toNat) → lk ls 0 = some (.ref 171) → lk ls 1 = some (.int (I k)) → lk ls 2 = some (.int (I p)) → lk ls 3 = some (.int (I j)) → GD gE gRL sh h5 → FRM gRL [(1, 54, 39, 39), (1, 54, 40, 40)] h h5 → K 37 ls [] h5 0 0 := by
    intro mz
    induction mz using Nat.strongRecOn with
    | ind mz ih =>
    intro j h5 ls hm j0 j1 e39 e40 l0 l1 l2 l3 hG5 hF5
    have s1 := btS_bd (k := k) (p := p) hk.1 hk.2 hp.1 hp.2 j0 (by omega)
    have ih5 := ih
    have in2 : ∀ (js : 2 * j < k), ∀ (mz : Nat) (its i : Int) (ls : List (Nat × Value)), ((k - i).toNat = mz) → (0 ≤ i) → (i ≤ k) → (its = btP k p j.toNat i.toNat) → lk ls 0 = some (.ref 171) → lk ls 1 = some (.int (I k)) → lk ls 2 = some (.int (I p)) → lk ls 3 = some (.int (I j)) → lk ls 4 = some (.long (J its)) → lk ls 6 = some (.int (I i)) → K 81 ls [] h5 0 0 := by
      intro js
      intro mz
      induction mz using Nat.strongRecOn with
      | ind mz ih =>
      intro its i ls hm i0 i1 ib l0 l1 l2 l3 l4 l6
      refine x_iload 83 hK rfl rfl l6 ?_
      refine x_iload_n 84 hK rfl rfl l1 ?_
      refine x_if_icmp_ge 114 87 hK rfl rfl rfl (by omega) (by omega) (fun c3 => ?_) (fun c3 => ?_)
      · have s2 := btS_bd (k := k) (p := p) (j := j + 1) hk.1 hk.2 hp.1 hp.2 (by omega) (by omega)
        rw [btS_s j0] at s2
        obtain rfl : k = i := by omega
        rw [← ib] at s2
        refine x_aload_n 115 hK rfl rfl l0 ?_
        refine x_dup 116 hK rfl rfl rfl ?_
        refine x_getJE 119 hK rfl rfl (sp_171 (h := h5) hG5) (e := (btS k p j.toNat)) (e39) ?_
        refine x_lload 121 hK rfl rfl l4 ?_
        refine x_ladd 122 hK rfl rfl ?_
        refine x_putJ 125 hK rfl rfl (sp_171 (h := h5) hG5) ?_
        refine x_iinc 128 hK rfl rfl l3 _ rfl ?_
        refine x_goto 37 hK rfl rfl ?_
        have e39n : gj (sJ h5 171 39 (J ((btS k p j.toNat) + its))) 171 39 = btS k p (j + 1).toNat := (gj_same (by omega)).trans (by rw [btS_s j0, ← ib])
        have e40n : gj (sJ h5 171 39 (J ((btS k p j.toNat) + its))) 171 40 = tenN k.toNat := (gj_k (by decide) _).trans (e40)
        exact ih5 _ (by omega) (j + 1) _ _ rfl (by omega) (by omega) e39n e40n (lk1_n l0 (by decide) (Or.inl rfl)) (lk1_n l1 (by decide) (Or.inl rfl)) (lk1_n l2 (by decide) (Or.inl rfl)) lk1_s (GD_J (hG5)) (FRM_J (hF5) (r := 54) rfl rfl)
      · refine x_lload 89 hK rfl rfl l4 ?_
        refine x_iload 91 hK rfl rfl l6 ?_
        refine x_iload_n 92 hK rfl rfl l3 ?_
        refine x_if_icmp_ge 100 95 hK rfl rfl rfl (by omega) (by omega) (fun c17 => ?_) (fun c17 => ?_)
        · refine x_bipush 102 hK rfl rfl rfl ?_
          refine x_iload_n 103 hK rfl rfl l2 ?_
          refine x_isub 104 hK rfl rfl ?_
          refine x_i2l 105 hK rfl rfl (by omega) ?_
          refine x_lmul 106 hK rfl rfl ?_
          refine x_lstore 108 hK rfl rfl _ rfl ?_
          refine x_iinc 111 hK rfl rfl (lk2_n l6 (by decide) (by decide) (Or.inl rfl)) _ rfl ?_
          refine x_goto 81 hK rfl rfl ?_
          have cc : ¬ i < j := by omega
          exact ih _ (by omega) (its * (10 - p)) (i + 1) _ rfl (by omega) (by omega) (by rw [btP_s i0 j0, if_neg cc, ← ib]) (lk1_n (lk2_n l0 (by decide) (by decide) (Or.inl rfl)) (by decide) (Or.inl rfl)) (lk1_n (lk2_n l1 (by decide) (by decide) (Or.inl rfl)) (by decide) (Or.inl rfl)) (lk1_n (lk2_n l2 (by decide) (by decide) (Or.inl rfl)) (by decide) (Or.inl rfl)) (lk1_n (lk2_n l3 (by decide) (by decide) (Or.inl rfl)) (by decide) (Or.inl rfl)) (lk1_n lk2_s (by decide) (Or.inr (by decide))) lk1_s
        · refine x_iload_n 96 hK rfl rfl l2 ?_
          refine x_i2l 97 hK rfl rfl (by omega) ?_
          refine x_goto 105 hK rfl rfl ?_
          refine x_lmul 106 hK rfl rfl ?_
          refine x_lstore 108 hK rfl rfl _ rfl ?_
          refine x_iinc 111 hK rfl rfl (lk2_n l6 (by decide) (by decide) (Or.inl rfl)) _ rfl ?_
          refine x_goto 81 hK rfl rfl ?_
          have cc : i < j := by omega
          exact ih _ (by omega) (its * p) (i + 1) _ rfl (by omega) (by omega) (by rw [btP_s i0 j0, if_pos cc, ← ib]) (lk1_n (lk2_n l0 (by decide) (by decide) (Or.inl rfl)) (by decide) (Or.inl rfl)) (lk1_n (lk2_n l1 (by decide) (by decide) (Or.inl rfl)) (by decide) (Or.inl rfl)) (lk1_n (lk2_n l2 (by decide) (by decide) (Or.inl rfl)) (by decide) (Or.inl rfl)) (lk1_n (lk2_n l3 (by decide) (by decide) (Or.inl rfl)) (by decide) (Or.inl rfl)) (lk1_n lk2_s (by decide) (Or.inr (by decide))) lk1_s
    have in1 : ∀ (js : 2 * j < k), ∀ (mz : Nat) (its i : Int) (ls : List (Nat × Value)), ((j - i).toNat = mz) → (0 ≤ i) → (i ≤ j) → (its = btB k i.toNat) → lk ls 0 = some (.ref 171) → lk ls 1 = some (.int (I k)) → lk ls 2 = some (.int (I p)) → lk ls 3 = some (.int (I j)) → lk ls 4 = some (.long (J its)) → lk ls 6 = some (.int (I i)) → K 50 ls [] h5 0 0 := by
      intro js
      intro mz
      induction mz using Nat.strongRecOn with
      | ind mz ih =>
      intro its i ls hm i0 i1 ib l0 l1 l2 l3 l4 l6
      have bb := btB_bd (k := k) hk.1 hk.2 i0 (by omega) (by omega)
      rw [← ib] at bb
      refine x_iload 52 hK rfl rfl l6 ?_
      refine x_iload_n 53 hK rfl rfl l3 ?_
      refine x_if_icmp_ge 78 56 hK rfl rfl rfl (by omega) (by omega) (fun c3 => ?_) (fun c3 => ?_)
      · refine x_iconst 79 hK rfl rfl ?_
        refine x_istore 81 hK rfl rfl _ rfl ?_
        exact in2 js _ its 0 _ rfl (by omega) (by omega) ((by rw [ib, show i = j by omega]; rfl)) (lk1_n l0 (by decide) (Or.inl rfl)) (lk1_n l1 (by decide) (Or.inl rfl)) (lk1_n l2 (by decide) (Or.inl rfl)) (lk1_n l3 (by decide) (Or.inl rfl)) (lk1_n l4 (by decide) (Or.inr (by decide))) lk1_s
      · refine x_lload 58 hK rfl rfl l4 ?_
        refine x_iload_n 59 hK rfl rfl l1 ?_
        refine x_iload 61 hK rfl rfl l6 ?_
        refine x_isub 62 hK rfl rfl ?_
        refine x_i2l 63 hK rfl rfl (by omega) ?_
        refine x_lmul 64 hK rfl rfl ?_
        refine x_iload 66 hK rfl rfl l6 ?_
        refine x_iconst 67 hK rfl rfl ?_
        refine x_iadd 68 hK rfl rfl ?_
        refine x_i2l 69 hK rfl rfl (by omega) ?_
        refine x_ldivp 70 hK rfl rfl (by omega) (by omega) (by omega) (by omega) ?_
        refine x_lstore 72 hK rfl rfl _ rfl ?_
        refine x_iinc 75 hK rfl rfl (lk2_n l6 (by decide) (by decide) (Or.inl rfl)) _ rfl ?_
        refine x_goto 50 hK rfl rfl ?_
        exact ih _ (by omega) ((its * (k - i)) / (i + 1)) (i + 1) _ rfl (by omega) (by omega) ((btB_s i0).symm ▸ ib ▸ rfl) (lk1_n (lk2_n l0 (by decide) (by decide) (Or.inl rfl)) (by decide) (Or.inl rfl)) (lk1_n (lk2_n l1 (by decide) (by decide) (Or.inl rfl)) (by decide) (Or.inl rfl)) (lk1_n (lk2_n l2 (by decide) (by decide) (Or.inl rfl)) (by decide) (Or.inl rfl)) (lk1_n (lk2_n l3 (by decide) (by decide) (Or.inl rfl)) (by decide) (Or.inl rfl)) (lk1_n lk2_s (by decide) (Or.inr (by decide))) lk1_s
    refine x_iconst 38 hK rfl rfl ?_
    refine x_iload_n 39 hK rfl rfl l3 ?_
    refine x_imul 40 hK rfl rfl ?_
    refine x_iload_n 41 hK rfl rfl l1 ?_
    refine x_if_icmp_ge 131 44 hK rfl rfl rfl (by omega) (by omega) (fun c5 => ?_) (fun c5 => ?_)
    · exact x_vret hK rfl ⟨rfl, hG5, hF5, by rw [e39, show (k + 1) / 2 = j by omega], e40⟩
    · refine x_lconstE 45 1 hK rfl rfl rfl ?_
      refine x_lstore 47 hK rfl rfl _ rfl ?_
      refine x_iconst 48 hK rfl rfl ?_
      refine x_istore 50 hK rfl rfl _ rfl ?_
      exact in1 (by omega) _ 1 0 _ rfl (by omega) (by omega) (rfl) (lk1_n (lk2_n l0 (by decide) (by decide) (Or.inl rfl)) (by decide) (Or.inl rfl)) (lk1_n (lk2_n l1 (by decide) (by decide) (Or.inl rfl)) (by decide) (Or.inl rfl)) (lk1_n (lk2_n l2 (by decide) (by decide) (Or.inl rfl)) (by decide) (Or.inl rfl)) (lk1_n (lk2_n l3 (by decide) (by decide) (Or.inl rfl)) (by decide) (Or.inl rfl)) (lk1_n lk2_s (by decide) (Or.inr (by decide))) lk1_s
  have loop1 : ∀ (mz : Nat) (i : Int) (h4 : aH) (ls : List (Nat × Value)), ((k - i).toNat = mz) → (0 ≤ i) → (i ≤ k) → (gj h4 171 39 = 0) → (gj h4 171 40 = tenN i.toNat) → lk ls 0 = some (.ref 171) → lk ls 1 = some (.int (I k)) → lk ls 2 = some (.int (I p)) → lk ls 3 = some (.int (I i)) → GD gE gRL sh h4 → FRM gRL [(1, 54, 39, 39), (1, 54, 40, 40)] h h4 → K 12 ls [] h4 0 0 := by
    intro mz
    induction mz using Nat.strongRecOn with
    | ind mz ih =>
    intro i h4 ls hm i0 i1 e39 e40 l0 l1 l2 l3 hG4 hF4
    have tb := tenN_bd i0 (by omega)
    have tb2 := tenN_bd (i := i + 1) (by omega) (by omega)
    rw [tenN_s i0] at tb2
    refine x_iload_n 13 hK rfl rfl l3 ?_
    refine x_iload_n 14 hK rfl rfl l1 ?_
    refine x_if_icmp_ge 35 17 hK rfl rfl rfl (by omega) (by omega) (fun c3 => ?_) (fun c3 => ?_)
    · refine x_iconst 36 hK rfl rfl ?_
      refine x_istore_n 37 hK rfl rfl _ rfl ?_
      exact loop2 _ 0 _ _ rfl (by omega) (by omega) (e39) ((by rw [e40, show i = k by omega])) (lk1_n l0 (by decide) (Or.inl rfl)) (lk1_n l1 (by decide) (Or.inl rfl)) (lk1_n l2 (by decide) (Or.inl rfl)) lk1_s (hG4) (hF4)
    · refine x_aload_n 18 hK rfl rfl l0 ?_
      refine x_dup 19 hK rfl rfl rfl ?_
      refine x_getJE 22 hK rfl rfl (sp_171 (h := h4) hG4) (e := (tenN i.toNat)) (e40) ?_
      refine x_ldc2_w 25 hK rfl rfl ?_
      refine x_lmul 26 hK rfl rfl ?_
      refine x_putJ 29 hK rfl rfl (sp_171 (h := h4) hG4) ?_
      refine x_iinc 32 hK rfl rfl l3 _ rfl ?_
      refine x_goto 12 hK rfl rfl ?_
      exact ih _ (by omega) (i + 1) _ _ rfl (by omega) (by omega) ((gj_k (by decide) _).trans (e39)) ((gj_same (by omega)).trans (tenN_s i0).symm) (lk1_n l0 (by decide) (Or.inl rfl)) (lk1_n l1 (by decide) (Or.inl rfl)) (lk1_n l2 (by decide) (Or.inl rfl)) lk1_s (GD_J (hG4)) (FRM_J (hF4) (r := 54) rfl rfl)
  refine x_aload_n 1 hK rfl rfl rfl ?_
  refine x_lconstE 2 0 hK rfl rfl rfl ?_
  refine x_putJ 5 hK rfl rfl (sp_171 (h := h) hG) ?_
  refine x_aload_n 6 hK rfl rfl rfl ?_
  refine x_lconstE 7 1 hK rfl rfl rfl ?_
  refine x_putJ 10 hK rfl rfl (sp_171 (h := h) hG) ?_
  refine x_iconst 11 hK rfl rfl ?_
  refine x_istore_n 12 hK rfl rfl [(3, .int (I 0)), (0, .ref 171), (1, .int (I k)), (2, .int (I p))] rfl ?_
  exact loop1 _ 0 _ _ rfl (by omega) (by omega) ((gj_k (by decide) _).trans (gj_same (by omega))) (gj_same (by omega)) rfl rfl rfl rfl (GD_J (GD_J (hG))) (FRM_J (FRM_J ((FRM.rf : FRM gRL [(1, 54, 39, 39), (1, 54, 40, 40)] h h)) (r := 54) rfl rfl) (r := 54) rfl rfl)
set_option maxRecDepth 4000 in
theorem ctX11_word {SP : CT} (hSP : MONO SP) {sh : List (Nat × Nat)} {h : aH} (hG : GD gE gRL sh h) {k p : Int} (rk : r32 k) (rp : r32 p) : CLd SP 131 mX11_word [.ref 171, .int (I k), .int (I p)] h 0 0 (fun rv h' => (((1 ≤ k ∧ k ≤ 15 ∧ k % 2 = 1 ∧ 0 ≤ p ∧ p ≤ 10) ∧ rv = some (.int (I 0)) ∧ gi h' 171 1 = 2) ∨ (¬ (1 ≤ k ∧ k ≤ 15 ∧ k % 2 = 1 ∧ 0 ≤ p ∧ p ≤ 10) ∧ rv = some (.int (I (-1))) ∧ gi h' 171 1 = gi h 171 1)) ∧ GD gE gRL sh h' ∧ FRM gRL [(0, 54, 0, 0), (0, 54, 1, 1), (1, 54, 39, 39), (1, 54, 40, 40), (1, 55, 0, 39)] h h' ∧ gi h' 171 0 = 0) := by
  refine x_met _ rfl (Nat.le_of_ble_eq_true rfl) (fun K hK => ?_)
  have hmono := MONO_CLd hSP 130
  refine x_aload_n 1 hK rfl rfl rfl ?_
  refine x_iconst 2 hK rfl rfl ?_
  refine x_putI 5 hK rfl rfl (sp_171 (h := h) hG) ?_
  refine x_iload_n 6 hK rfl rfl rfl ?_
  refine x_i2l 7 hK rfl rfl (by omega) ?_
  refine x_lconstE 8 1 hK rfl rfl rfl ?_
  refine x_ldc2_w 11 hK rfl rfl ?_
  have hGp1 : GD gE gRL sh (wI h 171 0 0) := GD_w1 (hG) (r := 54) rfl (by omega) rfl (by omega) (by omega)
  refine x_callS 14 hK hmono rfl (Or.inl rfl) rfl [.long (J k), .long (J 1), .long (J 15)] [] rfl rfl (Nat.le_of_ble_eq_true rfl) (Nat.le_of_ble_eq_true rfl) (CLd_le (Nat.le_of_ble_eq_true rfl) (ctX11_in (by omega) (by omega) (by omega))) ?_
  rintro v9 h9 ⟨e9, ⟨rfl, i12, i22⟩ | ⟨rfl, i12⟩⟩ <;> rw [e9] <;> clear e9
  · refine x_if_eq 35 17 hK rfl rfl rfl (by omega) (fun c => by omega) (fun _ => ?_)
    refine x_iload_n 18 hK rfl rfl rfl ?_
    refine x_iconst 19 hK rfl rfl ?_
    refine x_iremp 20 hK rfl rfl (by omega) (by omega) (by omega) (by omega) ?_
    refine x_if_eq 35 23 hK rfl rfl rfl (by omega) (fun c13 => ?_) (fun c13 => ?_)
    · refine x_iconst 36 hK rfl rfl ?_
      exact x_iret hK rfl ⟨Or.inr ⟨by omega, rfl, gi_k (by decide) _⟩, GD_w1 (hG) (r := 54) rfl (by omega) rfl (by omega) (by omega), FRM_w ((FRM.rf : FRM gRL [(0, 54, 0, 0), (0, 54, 1, 1), (1, 54, 39, 39), (1, 54, 40, 40), (1, 55, 0, 39)] h h)) (r := 54) rfl rfl, gi_same (by omega)⟩
    · refine x_iload_n 24 hK rfl rfl rfl ?_
      refine x_i2l 25 hK rfl rfl (by omega) ?_
      refine x_lconstE 26 0 hK rfl rfl rfl ?_
      refine x_ldc2_w 29 hK rfl rfl ?_
      have hGp3 : GD gE gRL sh (wI h 171 0 0) := GD_w1 (hG) (r := 54) rfl (by omega) rfl (by omega) (by omega)
      refine x_callS 32 hK hmono rfl (Or.inl rfl) rfl [.long (J p), .long (J 0), .long (J 10)] [] rfl rfl (Nat.le_of_ble_eq_true rfl) (Nat.le_of_ble_eq_true rfl) (CLd_le (Nat.le_of_ble_eq_true rfl) (ctX11_in (by omega) (by omega) (by omega))) ?_
      rintro v9 h9 ⟨e9, ⟨rfl, i14, i24⟩ | ⟨rfl, i14⟩⟩ <;> rw [e9] <;> clear e9
      · refine x_if_ne 37 35 hK rfl rfl rfl (by omega) (fun _ => ?_) (fun c => by omega)
        refine x_aload_n 38 hK rfl rfl rfl ?_
        refine x_iload_n 39 hK rfl rfl rfl ?_
        refine x_iload_n 40 hK rfl rfl rfl ?_
        have hGp5 : GD gE gRL sh (wI h 171 0 0) := GD_w1 (hG) (r := 54) rfl (by omega) rfl (by omega) (by omega)
        refine x_callV 43 hK hmono rfl rfl [.ref 171, .int (I k), .int (I p)] [] rfl rfl (Nat.le_of_ble_eq_true rfl) (Nat.le_of_ble_eq_true rfl) rfl (sp_171 (h := h) hG) (CLd_le (Nat.le_of_ble_eq_true rfl) (ctX11_bets hSP hGp5 (by omega) (by omega))) ?_
        rintro v6 h6 ⟨rfl, hG6, hF6, u6, d6⟩
        have tb := tenN_bd (i := k) (by omega) (by omega)
        have sb := btS_bd (k := k) (p := p) (j := (k + 1) / 2) (by omega) (by omega) (by omega) (by omega) (by omega) (by omega)
        refine x_aload_n 44 hK rfl rfl rfl ?_
        refine x_aload_n 45 hK rfl rfl rfl ?_
        refine x_getJE 48 hK rfl rfl (sp_171 (h := h6) hG6) (e := (btS k p ((k + 1) / 2).toNat)) (u6) ?_
        refine x_aload_n 49 hK rfl rfl rfl ?_
        refine x_getJE 52 hK rfl rfl (sp_171 (h := h6) hG6) (e := (tenN k.toNat)) (d6) ?_
        refine x_callV 55 hK hmono rfl rfl [.ref 171, .long (J (btS k p ((k + 1) / 2).toNat)), .long (J (tenN k.toNat))] [] rfl rfl (Nat.le_of_ble_eq_true rfl) (Nat.le_of_ble_eq_true rfl) rfl (sp_171 (h := h6) hG6) (CLd_le (Nat.le_of_ble_eq_true rfl) (ctX11_tellsFraction hSP hG6 (by omega) (by omega) (by omega) (by omega))) ?_
        rintro v7 h7 ⟨rfl, hG7, hF7, t7⟩
        refine x_iconst 56 hK rfl rfl ?_
        exact x_iret hK rfl ⟨Or.inl ⟨⟨by omega, by omega, by omega, by omega, by omega⟩, rfl, t7⟩, hG7, ((FRM_w ((FRM.rf : FRM gRL [(0, 54, 0, 0), (0, 54, 1, 1), (1, 54, 39, 39), (1, 54, 40, 40), (1, 55, 0, 39)] h h)) (r := 54) rfl rfl).trans ((hF6).mono rfl)).trans ((hF7).mono rfl), (FRM_gi hF7 (r := 54) rfl rfl).trans ((FRM_gi hF6 (r := 54) rfl rfl).trans (gi_same (by omega)))⟩
      · refine x_if_ne 37 35 hK rfl rfl rfl (by omega) (fun c => by omega) (fun _ => ?_)
        refine x_iconst 36 hK rfl rfl ?_
        exact x_iret hK rfl ⟨Or.inr ⟨by omega, rfl, gi_k (by decide) _⟩, GD_w1 (hG) (r := 54) rfl (by omega) rfl (by omega) (by omega), FRM_w ((FRM.rf : FRM gRL [(0, 54, 0, 0), (0, 54, 1, 1), (1, 54, 39, 39), (1, 54, 40, 40), (1, 55, 0, 39)] h h)) (r := 54) rfl rfl, gi_same (by omega)⟩
  · refine x_if_eq 35 17 hK rfl rfl rfl (by omega) (fun _ => ?_) (fun c => by omega)
    refine x_iconst 36 hK rfl rfl ?_
    exact x_iret hK rfl ⟨Or.inr ⟨by omega, rfl, gi_k (by decide) _⟩, GD_w1 (hG) (r := 54) rfl (by omega) rfl (by omega) (by omega), FRM_w ((FRM.rf : FRM gRL [(0, 54, 0, 0), (0, 54, 1, 1), (1, 54, 39, 39), (1, 54, 40, 40), (1, 55, 0, 39)] h h)) (r := 54) rfl rfl, gi_same (by omega)⟩
