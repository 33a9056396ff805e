/-! LIVES, THE SAFEST LANE, COMES -/
theorem cm_b {S n d : Int} (hS : 2 ≤ S ∧ S ≤ 40) (hn : 0 ≤ n ∧ n ≤ 12) (hd : 1 ≤ d ∧ d ≤ 12) : 0 ≤ (S - 1) * n ∧ (S - 1) * n ≤ 468 ∧ 0 ≤ ((S - 1) * n) / d ∧ ((S - 1) * n) / d ≤ 468 ∧ min (S - 1) (((S - 1) * n) / d) = if d ≤ n then S - 1 else ((S - 1) * n) / d := by
  have p0 : 0 ≤ (S - 1) * n := Int.mul_nonneg (by omega) (by omega)
  have p1 : (S - 1) * n ≤ 39 * 12 := Int.mul_le_mul (by omega) (by omega) (by omega) (by omega)
  have q0 := Int.ediv_nonneg p0 (show 0 ≤ d by omega)
  have q1 := Int.ediv_le_self d p0
  refine ⟨p0, by omega, q0, by omega, ?_⟩
  by_cases c : d ≤ n
  · rw [if_pos c]
    have h1 : (S - 1) * d ≤ (S - 1) * n := Int.mul_le_mul_of_nonneg_left c (by omega)
    have h2 := (Int.le_ediv_iff_mul_le (show 0 < d by omega)).mpr h1
    omega
  · rw [if_neg c]
    have h1 : (S - 1) * n ≤ (S - 1) * d := Int.mul_le_mul_of_nonneg_left (by omega) (by omega)
    have h2 := Int.ediv_le_of_le_mul (show 0 < d by omega) h1
    omega
set_option maxRecDepth 4000 in
theorem ctX10_comesF {SP : CT} (hSP : MONO SP) {sh : List (Nat × Nat)} {h : aH} (hG : GD gE gRL sh h) {s u : Nat} (hP : PT h) (hX : XI h) (hD : DR h s u) (h0 : 0 ≤ gi h 23 0) {n : Int} (rn : r32 n) : CLd SP 7 mX10_comes [.ref 0, .int (I n)] h 0 0 (fun rv h' => ((¬ (0 ≤ n ∧ n ≤ 12) ∧ rv = some (.int (I (-1))) ∧ h' = h) ∨ ((0 ≤ n ∧ n ≤ 12) ∧ rv = some (.int (I (if (dlA h (gi h 23 0)) ≤ n then (gi h 171 3) - 1 else (((gi h 171 3) - 1) * n) / (dlA h (gi h 23 0))))) ∧ gi h' 3 1 = 2)) ∧ GD gE gRL sh h' ∧ FRM gRL [(0, 3, 1, 1), (0, 8, 3, 3), (0, 10, 0, 39), (1, 4, 0, 29)] h h') := by
  refine x_met _ rfl (Nat.le_of_ble_eq_true rfl) (fun K hK => ?_)
  have hmono := MONO_CLd hSP 6
  have hD2 := hD
  obtain ⟨h5, hu, pS, pL, ⟨c0, c1, c2⟩, r0, r1, r2⟩ := hD2
  have g3 := gri 2 40 hG (a := 171) (r := 54) (k := 3) rfl rfl
  have g4 := gri 0 10 hG (a := 171) (r := 54) (k := 4) rfl rfl
  have g0 := gi_r h 23 0
  have db := dlA_b h (gi h 23 0)
  have cm := fun z : 0 ≤ n ∧ n ≤ 12 => cm_b (S := gi h 171 3) (n := n) (d := dlA h (gi h 23 0)) g3 z db
  have loop : ∀ (mz : Nat) (c p l i : Int) (h4 : aH) (ls : List (Nat × Value)), ((11 - i).toNat = mz) → (0 ≤ n ∧ n ≤ 12) → (c = (if (dlA h (gi h 23 0)) ≤ n then (gi h 171 3) - 1 else (((gi h 171 3) - 1) * n) / (dlA h (gi h 23 0)))) → (0 ≤ c ∧ c ≤ 468) → (0 ≤ i ∧ i ≤ 10) → (0 ≤ p ∧ p ≤ i) → (0 ≤ l ∧ l ≤ i) → lk ls 0 = some (.ref 0) → lk ls 1 = some (.int (I n)) → lk ls 4 = some (.int (I c)) → lk ls 5 = some (.int (I p)) → lk ls 6 = some (.int (I l)) → lk ls 7 = some (.int (I i)) → GD gE gRL sh h4 → FRM gRL [(0, 8, 3, 3), (0, 10, 0, 39)] h h4 → K 59 ls [] h4 0 0 := by
    intro mz
    induction mz using Nat.strongRecOn with
    | ind mz ih =>
    intro c p l i h4 ls hm n0 c0 cr i0 p0 l0_ l0 l1 l4 l5 l6 l7 hG4 hF4
    have s1 : gi h4 s 1 = gi h 171 4 := (FRM_gi hF4 (r := 5) (ss_r h5).1 rfl).trans c1
    have gz := fun z : i < 10 => grn 0 1 hG (a := s + 2) (r := 7) (k := i.toNat) (ss_r h5).2.2 rfl (by omega)
    refine x_iload 61 hK rfl rfl l7 ?_
    refine x_aload_n 62 hK rfl rfl l0 ?_
    refine x_getR 65 hK rfl rfl (sp_0 (h := h4) hG4) ((FRM_aR hF4 (r := 0) rfl rfl).trans (pS)) ?_
    have g631 := gri (0) (10) hG (a := 171) (r := 54) (k := 4) rfl rfl
    refine x_getE 68 hK rfl (Or.inl rfl) rfl (shx (h := h4) hG4 (r := 5) (ss_r h5).1 rfl) (e := (gi h 171 4)) (s1) ?_
    refine x_if_icmp_ge 110 71 hK rfl rfl rfl (by omega) (by omega) (fun c5 => ?_) (fun c5 => ?_)
    · refine x_aload_n 111 hK rfl rfl l0 ?_
      refine x_getR 114 hK rfl rfl (sp_0 (h := h4) hG4) (rf_0_1 (h := h4) hG4) ?_
      refine x_iload 116 hK rfl rfl l5 ?_
      refine x_i2l 117 hK rfl rfl (by omega) ?_
      refine x_iload 119 hK rfl rfl l6 ?_
      refine x_iconst 120 hK rfl rfl ?_
      refine x_iremp 121 hK rfl rfl (by omega) (by omega) (by omega) (by omega) ?_
      refine x_i2l 122 hK rfl rfl (by omega) ?_
      refine x_callV 125 hK hmono rfl rfl [.ref 3, .long (J p), .long (J (l % 2))] [] rfl rfl (Nat.le_of_ble_eq_true rfl) (Nat.le_of_ble_eq_true rfl) rfl (sp_3 (h := h4) hG4) (CLd_le (Nat.le_of_ble_eq_true rfl) (ctX3_tellTwo hSP hG4 (by omega) (by omega))) ?_
      rintro v632 h632 ⟨rfl, hG632, hF632, t632, s632⟩
      refine x_iload 127 hK rfl rfl l4 ?_
      exact x_iret hK rfl ⟨Or.inr ⟨n0, by rw [c0], t632⟩, hG632, ((hF4).mono rfl).trans ((hF632).mono rfl)⟩
    · have gz2 := gz (by omega)
      have ga2 := gi_r h (s + 1) i.toNat
      refine x_aload_n 72 hK rfl rfl l0 ?_
      refine x_getR 75 hK rfl rfl (sp_0 (h := h4) hG4) ((FRM_aR hF4 (r := 0) rfl rfl).trans (pS)) ?_
      refine x_getR 78 hK rfl rfl (shx (h := h4) hG4 (r := 5) (ss_r h5).1 rfl) (ss_p (show PT h4 from (PT_F hF4 (by decide) hP)) h5).1 ?_
      refine x_iload 80 hK rfl rfl l7 ?_
      refine x_ialoadE 81 hK rfl rfl (shx (h := h4) hG4 (r := 6) (ss_r h5).2.1 rfl) (by omega) (by omega) (by omega) (e' := (gi h (s + 1) i.toNat)) (FRM_gi hF4 (r := 6) (ss_r h5).2.1 rfl) ?_
      refine x_iload 83 hK rfl rfl l4 ?_
      refine x_if_icmp_gt 110 86 hK rfl rfl rfl (by omega) (by omega) (fun c24 => ?_) (fun c24 => ?_)
      · refine x_aload_n 111 hK rfl rfl l0 ?_
        refine x_getR 114 hK rfl rfl (sp_0 (h := h4) hG4) (rf_0_1 (h := h4) hG4) ?_
        refine x_iload 116 hK rfl rfl l5 ?_
        refine x_i2l 117 hK rfl rfl (by omega) ?_
        refine x_iload 119 hK rfl rfl l6 ?_
        refine x_iconst 120 hK rfl rfl ?_
        refine x_iremp 121 hK rfl rfl (by omega) (by omega) (by omega) (by omega) ?_
        refine x_i2l 122 hK rfl rfl (by omega) ?_
        refine x_callV 125 hK hmono rfl rfl [.ref 3, .long (J p), .long (J (l % 2))] [] rfl rfl (Nat.le_of_ble_eq_true rfl) (Nat.le_of_ble_eq_true rfl) rfl (sp_3 (h := h4) hG4) (CLd_le (Nat.le_of_ble_eq_true rfl) (ctX3_tellTwo hSP hG4 (by omega) (by omega))) ?_
        rintro v633 h633 ⟨rfl, hG633, hF633, t633, s633⟩
        refine x_iload 127 hK rfl rfl l4 ?_
        exact x_iret hK rfl ⟨Or.inr ⟨n0, by rw [c0], t633⟩, hG633, ((hF4).mono rfl).trans ((hF633).mono rfl)⟩
      · refine x_iinc 89 hK rfl rfl l5 _ rfl ?_
        refine x_iload 91 hK rfl rfl (lk1_n l6 (by decide) (Or.inl rfl)) ?_
        refine x_aload_n 92 hK rfl rfl (lk1_n l0 (by decide) (Or.inl rfl)) ?_
        refine x_getR 95 hK rfl rfl (sp_0 (h := h4) hG4) ((FRM_aR hF4 (r := 0) rfl rfl).trans (pS)) ?_
        refine x_getR 98 hK rfl rfl (shx (h := h4) hG4 (r := 5) (ss_r h5).1 rfl) (ss_p (show PT h4 from (PT_F hF4 (by decide) hP)) h5).2 ?_
        refine x_iload 100 hK rfl rfl (lk1_n l7 (by decide) (Or.inl rfl)) ?_
        refine x_ialoadE 101 hK rfl rfl (shx (h := h4) hG4 (r := 7) (ss_r h5).2.2 rfl) (by omega) (by omega) (by omega) (e' := (gi h (s + 2) i.toNat)) (FRM_gi hF4 (r := 7) (ss_r h5).2.2 rfl) ?_
        refine x_iadd 102 hK rfl rfl ?_
        refine x_istore 104 hK rfl rfl _ rfl ?_
        refine x_iinc 107 hK rfl rfl (lk1_n (lk1_n l7 (by decide) (Or.inl rfl)) (by decide) (Or.inl rfl)) _ rfl ?_
        refine x_goto 59 hK rfl rfl ?_
        exact ih _ (by omega) c (p + 1) (l + (gi h (s + 2) i.toNat)) (i + 1) _ _ rfl (n0) (c0) (cr) (by omega) (by omega) (by omega) (lk1_n (lk1_n (lk1_n l0 (by decide) (Or.inl rfl)) (by decide) (Or.inl rfl)) (by decide) (Or.inl rfl)) (lk1_n (lk1_n (lk1_n l1 (by decide) (Or.inl rfl)) (by decide) (Or.inl rfl)) (by decide) (Or.inl rfl)) (lk1_n (lk1_n (lk1_n l4 (by decide) (Or.inl rfl)) (by decide) (Or.inl rfl)) (by decide) (Or.inl rfl)) (lk1_n (lk1_n lk1_s (by decide) (Or.inl rfl)) (by decide) (Or.inl rfl)) (lk1_n lk1_s (by decide) (Or.inl rfl)) lk1_s (hG4) (hF4)
  refine x_iload_n 1 hK rfl rfl rfl ?_
  refine x_if_lt 10 4 hK rfl rfl rfl (by omega) (fun c2 => ?_) (fun c2 => ?_)
  · refine x_iconst 11 hK rfl rfl ?_
    exact x_iret hK rfl ⟨Or.inl ⟨by omega, rfl, rfl⟩, hG, FRM.rf⟩
  · refine x_iload_n 5 hK rfl rfl rfl ?_
    refine x_bipush 7 hK rfl rfl rfl ?_
    refine x_if_icmp_le 12 10 hK rfl rfl rfl (by omega) (by omega) (fun c7 => ?_) (fun c7 => ?_)
    · refine x_aload_n 13 hK rfl rfl rfl ?_
      refine x_getR 16 hK rfl rfl (sp_0 (h := h) hG) (pS) ?_
      have g634 := gri (2) (40) hG (a := 171) (r := 54) (k := 3) rfl rfl
      refine x_getE 19 hK rfl (Or.inl rfl) rfl (shx (h := h) hG (r := 5) (ss_r h5).1 rfl) (e := (gi h 171 3)) (c0) ?_
      refine x_iconst 20 hK rfl rfl ?_
      refine x_isub 21 hK rfl rfl ?_
      refine x_istore_n 22 hK rfl rfl [(2, .int (I ((gi h 171 3) - 1))), (0, .ref 0), (1, .int (I n))] rfl ?_
      refine x_aload_n 23 hK rfl rfl rfl ?_
      refine x_aload_n 24 hK rfl rfl rfl ?_
      refine x_getR 27 hK rfl rfl (sp_0 (h := h) hG) (rf_0_10 (h := h) hG) ?_
      have g635 := gi_r h 23 0
      refine x_getE 30 hK rfl (Or.inl rfl) rfl (sp_23 (h := h) hG) (e := (gi h 23 0)) (rfl) ?_
      have cmn := cm (by omega)
      refine x_callV 33 hK hmono rfl rfl [.ref 0, .int (I (gi h 23 0))] [] rfl rfl (Nat.le_of_ble_eq_true rfl) (Nat.le_of_ble_eq_true rfl) rfl (sp_0 (h := h) hG) (CLd_le (Nat.le_of_ble_eq_true rfl) (ctX10_delayA hSP hG hP hX hD (t := gi h 23 0) (by omega))) ?_
      rintro v636 h636 ⟨rfl, hG636, hF636⟩
      refine x_istore_n 34 hK rfl rfl [(3, .int (I (dlA h (gi h 23 0)))), (2, .int (I ((gi h 171 3) - 1))), (0, .ref 0), (1, .int (I n))] rfl ?_
      refine x_iload_n 35 hK rfl rfl rfl ?_
      refine x_iload_n 36 hK rfl rfl rfl ?_
      refine x_if_icmp_lt 43 39 hK rfl rfl rfl (by omega) (by omega) (fun c22 => ?_) (fun c22 => ?_)
      · refine x_iload_n 44 hK rfl rfl rfl ?_
        refine x_iload_n 45 hK rfl rfl rfl ?_
        refine x_imul 46 hK rfl rfl ?_
        refine x_iload_n 47 hK rfl rfl rfl ?_
        refine x_idivp 48 hK rfl rfl (by omega) (by omega) (by omega) (by omega) ?_
        refine x_istore 50 hK rfl rfl [(4, .int (I ((((gi h 171 3) - 1) * n) / (dlA h (gi h 23 0))))), (3, .int (I (dlA h (gi h 23 0)))), (2, .int (I ((gi h 171 3) - 1))), (0, .ref 0), (1, .int (I n))] rfl ?_
        refine x_iconst 51 hK rfl rfl ?_
        refine x_istore 53 hK rfl rfl [(5, .int (I 0)), (4, .int (I ((((gi h 171 3) - 1) * n) / (dlA h (gi h 23 0))))), (3, .int (I (dlA h (gi h 23 0)))), (2, .int (I ((gi h 171 3) - 1))), (0, .ref 0), (1, .int (I n))] rfl ?_
        refine x_iconst 54 hK rfl rfl ?_
        refine x_istore 56 hK rfl rfl [(6, .int (I 0)), (5, .int (I 0)), (4, .int (I ((((gi h 171 3) - 1) * n) / (dlA h (gi h 23 0))))), (3, .int (I (dlA h (gi h 23 0)))), (2, .int (I ((gi h 171 3) - 1))), (0, .ref 0), (1, .int (I n))] rfl ?_
        refine x_iconst 57 hK rfl rfl ?_
        refine x_istore 59 hK rfl rfl [(7, .int (I 0)), (6, .int (I 0)), (5, .int (I 0)), (4, .int (I ((((gi h 171 3) - 1) * n) / (dlA h (gi h 23 0))))), (3, .int (I (dlA h (gi h 23 0)))), (2, .int (I ((gi h 171 3) - 1))), (0, .ref 0), (1, .int (I n))] rfl ?_
        have ev : ((((gi h 171 3) - 1) * n) / (dlA h (gi h 23 0))) = (if (dlA h (gi h 23 0)) ≤ n then (gi h 171 3) - 1 else (((gi h 171 3) - 1) * n) / (dlA h (gi h 23 0))) := by first | (rw [if_pos (by omega)]; done) | (rw [if_neg (by omega)]; done)
        exact loop _ ((((gi h 171 3) - 1) * n) / (dlA h (gi h 23 0))) 0 0 0 _ _ rfl (⟨by omega, by omega⟩) (ev) (by omega) (by omega) (by omega) (by omega) rfl rfl rfl rfl rfl rfl (hG636) (hF636)
      · refine x_iload_n 40 hK rfl rfl rfl ?_
        refine x_goto 48 hK rfl rfl ?_
        refine x_istore 50 hK rfl rfl [(4, .int (I ((gi h 171 3) - 1))), (3, .int (I (dlA h (gi h 23 0)))), (2, .int (I ((gi h 171 3) - 1))), (0, .ref 0), (1, .int (I n))] rfl ?_
        refine x_iconst 51 hK rfl rfl ?_
        refine x_istore 53 hK rfl rfl [(5, .int (I 0)), (4, .int (I ((gi h 171 3) - 1))), (3, .int (I (dlA h (gi h 23 0)))), (2, .int (I ((gi h 171 3) - 1))), (0, .ref 0), (1, .int (I n))] rfl ?_
        refine x_iconst 54 hK rfl rfl ?_
        refine x_istore 56 hK rfl rfl [(6, .int (I 0)), (5, .int (I 0)), (4, .int (I ((gi h 171 3) - 1))), (3, .int (I (dlA h (gi h 23 0)))), (2, .int (I ((gi h 171 3) - 1))), (0, .ref 0), (1, .int (I n))] rfl ?_
        refine x_iconst 57 hK rfl rfl ?_
        refine x_istore 59 hK rfl rfl [(7, .int (I 0)), (6, .int (I 0)), (5, .int (I 0)), (4, .int (I ((gi h 171 3) - 1))), (3, .int (I (dlA h (gi h 23 0)))), (2, .int (I ((gi h 171 3) - 1))), (0, .ref 0), (1, .int (I n))] rfl ?_
        have ev : ((gi h 171 3) - 1) = (if (dlA h (gi h 23 0)) ≤ n then (gi h 171 3) - 1 else (((gi h 171 3) - 1) * n) / (dlA h (gi h 23 0))) := by first | (rw [if_pos (by omega)]; done) | (rw [if_neg (by omega)]; done)
        exact loop _ ((gi h 171 3) - 1) 0 0 0 _ _ rfl (⟨by omega, by omega⟩) (ev) (by omega) (by omega) (by omega) (by omega) rfl rfl rfl rfl rfl rfl (hG636) (hF636)
    · refine x_iconst 11 hK rfl rfl ?_
      exact x_iret hK rfl ⟨Or.inl ⟨by omega, rfl, rfl⟩, hG, FRM.rf⟩
set_option maxRecDepth 4000 in
theorem ctX11_comesF {SP : CT} (hSP : MONO SP) {sh : List (Nat × Nat)} {h : aH} (hG : GD gE gRL sh h) (hX : XI h) (h0 : 0 ≤ gi h 178 0) {n : Int} (rn : r32 n) : CLd SP 7 mX11_comes [.ref 171, .int (I n)] h 0 0 (fun rv h' => ((¬ (0 ≤ n ∧ n ≤ 12) ∧ rv = some (.int (I (-1)))) ∨ ((0 ≤ n ∧ n ≤ 12) ∧ rv = some (.int (I (if (dlA h (gi h 178 0)) ≤ n then (gi h 171 3) - 1 else (((gi h 171 3) - 1) * n) / (dlA h (gi h 178 0))))))) ∧ GD gE gRL sh h' ∧ FRM gRL [(0, 54, 0, 0), (0, 54, 1, 1), (0, 67, 0, 79), (0, 68, 0, 3), (1, 55, 0, 39)] h h') := by
  refine x_met _ rfl (Nat.le_of_ble_eq_true rfl) (fun K hK => ?_)
  have hmono := MONO_CLd hSP 6
  have g3 := gri 2 40 hG (a := 171) (r := 54) (k := 3) rfl rfl
  have g4 := gri 0 10 hG (a := 171) (r := 54) (k := 4) rfl rfl
  have g0 := gi_r h 178 0
  have db := dlA_b h (gi h 178 0)
  have cm := fun z : 0 ≤ n ∧ n ≤ 12 => cm_b (S := gi h 171 3) (n := n) (d := dlA h (gi h 178 0)) g3 z db
  have loop : ∀ (mz : Nat) (c p l i : Int) (h4 : aH) (ls : List (Nat × Value)), ((11 - i).toNat = mz) → (0 ≤ n ∧ n ≤ 12) → (c = (if (dlA h (gi h 178 0)) ≤ n then (gi h 171 3) - 1 else (((gi h 171 3) - 1) * n) / (dlA h (gi h 178 0)))) → (0 ≤ c ∧ c ≤ 468) → (0 ≤ i ∧ i ≤ 10) → (0 ≤ p ∧ p ≤ i) → (0 ≤ l ∧ l ≤ i) → lk ls 0 = some (.ref 171) → lk ls 1 = some (.int (I n)) → lk ls 2 = some (.int (I c)) → lk ls 3 = some (.int (I p)) → lk ls 4 = some (.int (I l)) → lk ls 5 = some (.int (I i)) → GD gE gRL sh h4 → FRM gRL [(0, 54, 0, 0), (0, 54, 1, 1), (0, 67, 0, 79), (0, 68, 0, 3), (1, 55, 0, 39)] h h4 → K 56 ls [] h4 0 0 := by
    intro mz
    induction mz using Nat.strongRecOn with
    | ind mz ih =>
    intro c p l i h4 ls hm n0 c0 cr i0 p0 l0_ l0 l1 l2 l3 l4 l5 hG4 hF4
    have s1 : gi h4 171 4 = gi h 171 4 := FRM_gi hF4 (r := 54) rfl (by decide)
    refine x_iload 58 hK rfl rfl l5 ?_
    refine x_aload_n 59 hK rfl rfl l0 ?_
    have g637 := gri (0) (10) hG (a := 171) (r := 54) (k := 4) rfl rfl
    refine x_getE 62 hK rfl (Or.inl rfl) rfl (sp_171 (h := h4) hG4) (e := (gi h 171 4)) (s1) ?_
    refine x_if_icmp_ge 127 65 hK rfl rfl rfl (by omega) (by omega) (fun c4 => ?_) (fun c4 => ?_)
    · refine x_aload_n 128 hK rfl rfl l0 ?_
      refine x_iconst 129 hK rfl rfl ?_
      refine x_putI 132 hK rfl rfl (sp_171 (h := h4) hG4) ?_
      refine x_aload_n 133 hK rfl rfl l0 ?_
      refine x_iload_n 134 hK rfl rfl l3 ?_
      refine x_i2l 135 hK rfl rfl (by omega) ?_
      have hGp638 : GD gE gRL sh (wI h4 171 1 0) := GD_w1 (hG4) (r := 54) rfl (by omega) rfl (by omega) (by omega)
      have z640 : gi (wI h4 171 1 0) 171 1 = 0 := gi_same (by omega)
      have z640r : mrow (wI h4 171 1 0) = [] := mrow_0 (gi_same (by omega))
      refine x_callV 138 hK hmono rfl rfl [.ref 171, .long (J p)] [] rfl rfl (Nat.le_of_ble_eq_true rfl) (Nat.le_of_ble_eq_true rfl) rfl (sp_171 (h := h4) hG4) (CLd_le (Nat.le_of_ble_eq_true rfl) (ctX11_entersF hSP hGp638 (by omega) (by omega))) ?_
      rintro v639 h639 ⟨rfl, hG639, hF639, t639, s639⟩
      rw [z640] at t639
      rw [z640r] at s639
      replace t639 : gi h639 171 1 = 1 := t639
      change mrow h639 = [p] at s639
      refine x_aload_n 139 hK rfl rfl l0 ?_
      refine x_iload 141 hK rfl rfl l4 ?_
      refine x_iconst 142 hK rfl rfl ?_
      refine x_iremp 143 hK rfl rfl (by omega) (by omega) (by omega) (by omega) ?_
      refine x_i2l 144 hK rfl rfl (by omega) ?_
      have z642 : gi h639 171 1 = 1 := t639
      have z642r : mrow h639 = [p] := s639
      refine x_callV 147 hK hmono rfl rfl [.ref 171, .long (J (l % 2))] [] rfl rfl (Nat.le_of_ble_eq_true rfl) (Nat.le_of_ble_eq_true rfl) rfl (sp_171 (h := h639) hG639) (CLd_le (Nat.le_of_ble_eq_true rfl) (ctX11_entersF hSP hG639 (by omega) (by omega))) ?_
      rintro v641 h641 ⟨rfl, hG641, hF641, t641, s641⟩
      rw [z642] at t641
      rw [z642r] at s641
      replace t641 : gi h641 171 1 = 2 := t641
      change mrow h641 = [p, (l % 2)] at s641
      refine x_iload_n 148 hK rfl rfl l2 ?_
      exact x_iret hK rfl ⟨Or.inr ⟨n0, by rw [c0]⟩, hG641, ((FRM_w (hF4) (r := 54) rfl rfl).trans ((hF639).mono rfl)).trans ((hF641).mono rfl)⟩
    · refine x_iload_n 66 hK rfl rfl l3 ?_
      refine x_aload_n 67 hK rfl rfl l0 ?_
      refine x_getR 70 hK rfl rfl (sp_171 (h := h4) hG4) (rf_171_9 (h := h4) hG4) ?_
      refine x_iload 72 hK rfl rfl l5 ?_
      have g643 := gi_r h 173 i.toNat
      refine x_ialoadE 73 hK rfl rfl (sp_173 (h := h4) hG4) (by omega) (by omega) (by omega) (e' := (gi h 173 i.toNat)) (FRM_gi hF4 (r := 56) rfl rfl) ?_
      refine x_iload_n 74 hK rfl rfl l2 ?_
      refine x_if_icmp_gt 81 77 hK rfl rfl rfl (by omega) (by omega) (fun c26 => ?_) (fun c26 => ?_)
      · refine x_iconst 82 hK rfl rfl ?_
        refine x_callS 85 hK hmono rfl (Or.inl rfl) rfl [.int (I 0)] [.int (I p)] rfl rfl (Nat.le_of_ble_eq_true rfl) (Nat.le_of_ble_eq_true rfl) (CLd_le (Nat.le_of_ble_eq_true rfl) (ctX11_flag (by omega))) ?_
        rintro v9 h9 ⟨e9, rfl⟩
        rw [e9]
        clear e9
        refine x_iadd 86 hK rfl rfl ?_
        refine x_istore_n 87 hK rfl rfl _ rfl ?_
        refine x_iload 89 hK rfl rfl (lk1_n l4 (by decide) (Or.inl rfl)) ?_
        refine x_aload_n 90 hK rfl rfl (lk1_n l0 (by decide) (Or.inl rfl)) ?_
        refine x_getR 93 hK rfl rfl (sp_171 (h := h4) hG4) (rf_171_9 (h := h4) hG4) ?_
        refine x_iload 95 hK rfl rfl (lk1_n l5 (by decide) (Or.inl rfl)) ?_
        refine x_ialoadE 96 hK rfl rfl (sp_173 (h := h4) hG4) (by omega) (by omega) (by omega) (e' := (gi h 173 i.toNat)) (FRM_gi hF4 (r := 56) rfl rfl) ?_
        refine x_iload_n 97 hK rfl rfl (lk1_n l2 (by decide) (Or.inl rfl)) ?_
        refine x_if_icmp_gt 114 100 hK rfl rfl rfl (by omega) (by omega) (fun _ => ?_) (fun c => by omega)
        refine x_iconst 115 hK rfl rfl ?_
        refine x_callS 118 hK hmono rfl (Or.inl rfl) rfl [.int (I 0)] [.int (I l)] rfl rfl (Nat.le_of_ble_eq_true rfl) (Nat.le_of_ble_eq_true rfl) (CLd_le (Nat.le_of_ble_eq_true rfl) (ctX11_flag (by omega))) ?_
        rintro v9 h9 ⟨e9, rfl⟩
        rw [e9]
        clear e9
        refine x_iadd 119 hK rfl rfl ?_
        refine x_istore 121 hK rfl rfl _ rfl ?_
        refine x_iinc 124 hK rfl rfl (lk1_n (lk1_n l5 (by decide) (Or.inl rfl)) (by decide) (Or.inl rfl)) _ rfl ?_
        refine x_goto 56 hK rfl rfl ?_
        exact ih _ (by omega) c (p + 0) (l + 0) (i + 1) _ _ rfl (n0) (c0) (cr) (by omega) (by omega) (by omega) (lk1_n (lk1_n (lk1_n l0 (by decide) (Or.inl rfl)) (by decide) (Or.inl rfl)) (by decide) (Or.inl rfl)) (lk1_n (lk1_n (lk1_n l1 (by decide) (Or.inl rfl)) (by decide) (Or.inl rfl)) (by decide) (Or.inl rfl)) (lk1_n (lk1_n (lk1_n l2 (by decide) (Or.inl rfl)) (by decide) (Or.inl rfl)) (by decide) (Or.inl rfl)) (lk1_n (lk1_n lk1_s (by decide) (Or.inl rfl)) (by decide) (Or.inl rfl)) (lk1_n lk1_s (by decide) (Or.inl rfl)) lk1_s (hG4) (hF4)
      · refine x_iconst 78 hK rfl rfl ?_
        refine x_goto 82 hK rfl rfl ?_
        refine x_callS 85 hK hmono rfl (Or.inl rfl) rfl [.int (I 1)] [.int (I p)] rfl rfl (Nat.le_of_ble_eq_true rfl) (Nat.le_of_ble_eq_true rfl) (CLd_le (Nat.le_of_ble_eq_true rfl) (ctX11_flag (by omega))) ?_
        rintro v9 h9 ⟨e9, rfl⟩
        rw [e9]
        clear e9
        refine x_iadd 86 hK rfl rfl ?_
        refine x_istore_n 87 hK rfl rfl _ rfl ?_
        refine x_iload 89 hK rfl rfl (lk1_n l4 (by decide) (Or.inl rfl)) ?_
        refine x_aload_n 90 hK rfl rfl (lk1_n l0 (by decide) (Or.inl rfl)) ?_
        refine x_getR 93 hK rfl rfl (sp_171 (h := h4) hG4) (rf_171_9 (h := h4) hG4) ?_
        refine x_iload 95 hK rfl rfl (lk1_n l5 (by decide) (Or.inl rfl)) ?_
        refine x_ialoadE 96 hK rfl rfl (sp_173 (h := h4) hG4) (by omega) (by omega) (by omega) (e' := (gi h 173 i.toNat)) (FRM_gi hF4 (r := 56) rfl rfl) ?_
        refine x_iload_n 97 hK rfl rfl (lk1_n l2 (by decide) (Or.inl rfl)) ?_
        refine x_if_icmp_gt 114 100 hK rfl rfl rfl (by omega) (by omega) (fun c => by omega) (fun _ => ?_)
        refine x_aload_n 101 hK rfl rfl (lk1_n l0 (by decide) (Or.inl rfl)) ?_
        refine x_getR 104 hK rfl rfl (sp_171 (h := h4) hG4) (rf_171_10 (h := h4) hG4) ?_
        refine x_iload 106 hK rfl rfl (lk1_n l5 (by decide) (Or.inl rfl)) ?_
        have g647 := grn (0) (1) hG (a := 174) (r := 57) (k := i.toNat) rfl rfl (by omega)
        refine x_baloadE 107 hK rfl rfl (sp_174 (h := h4) hG4) (by omega) (by omega) (by omega) (e' := (gi h 174 i.toNat)) (FRM_gi hF4 (r := 57) rfl rfl) ?_
        refine x_if_eq 114 110 hK rfl rfl rfl (by omega) (fun c61 => ?_) (fun c61 => ?_)
        · refine x_iconst 115 hK rfl rfl ?_
          refine x_callS 118 hK hmono rfl (Or.inl rfl) rfl [.int (I 0)] [.int (I l)] rfl rfl (Nat.le_of_ble_eq_true rfl) (Nat.le_of_ble_eq_true rfl) (CLd_le (Nat.le_of_ble_eq_true rfl) (ctX11_flag (by omega))) ?_
          rintro v9 h9 ⟨e9, rfl⟩
          rw [e9]
          clear e9
          refine x_iadd 119 hK rfl rfl ?_
          refine x_istore 121 hK rfl rfl _ rfl ?_
          refine x_iinc 124 hK rfl rfl (lk1_n (lk1_n l5 (by decide) (Or.inl rfl)) (by decide) (Or.inl rfl)) _ rfl ?_
          refine x_goto 56 hK rfl rfl ?_
          exact ih _ (by omega) c (p + 1) (l + 0) (i + 1) _ _ rfl (n0) (c0) (cr) (by omega) (by omega) (by omega) (lk1_n (lk1_n (lk1_n l0 (by decide) (Or.inl rfl)) (by decide) (Or.inl rfl)) (by decide) (Or.inl rfl)) (lk1_n (lk1_n (lk1_n l1 (by decide) (Or.inl rfl)) (by decide) (Or.inl rfl)) (by decide) (Or.inl rfl)) (lk1_n (lk1_n (lk1_n l2 (by decide) (Or.inl rfl)) (by decide) (Or.inl rfl)) (by decide) (Or.inl rfl)) (lk1_n (lk1_n lk1_s (by decide) (Or.inl rfl)) (by decide) (Or.inl rfl)) (lk1_n lk1_s (by decide) (Or.inl rfl)) lk1_s (hG4) (hF4)
        · refine x_iconst 111 hK rfl rfl ?_
          refine x_goto 115 hK rfl rfl ?_
          refine x_callS 118 hK hmono rfl (Or.inl rfl) rfl [.int (I 1)] [.int (I l)] rfl rfl (Nat.le_of_ble_eq_true rfl) (Nat.le_of_ble_eq_true rfl) (CLd_le (Nat.le_of_ble_eq_true rfl) (ctX11_flag (by omega))) ?_
          rintro v9 h9 ⟨e9, rfl⟩
          rw [e9]
          clear e9
          refine x_iadd 119 hK rfl rfl ?_
          refine x_istore 121 hK rfl rfl _ rfl ?_
          refine x_iinc 124 hK rfl rfl (lk1_n (lk1_n l5 (by decide) (Or.inl rfl)) (by decide) (Or.inl rfl)) _ rfl ?_
          refine x_goto 56 hK rfl rfl ?_
          exact ih _ (by omega) c (p + 1) (l + 1) (i + 1) _ _ rfl (n0) (c0) (cr) (by omega) (by omega) (by omega) (lk1_n (lk1_n (lk1_n l0 (by decide) (Or.inl rfl)) (by decide) (Or.inl rfl)) (by decide) (Or.inl rfl)) (lk1_n (lk1_n (lk1_n l1 (by decide) (Or.inl rfl)) (by decide) (Or.inl rfl)) (by decide) (Or.inl rfl)) (lk1_n (lk1_n (lk1_n l2 (by decide) (Or.inl rfl)) (by decide) (Or.inl rfl)) (by decide) (Or.inl rfl)) (lk1_n (lk1_n lk1_s (by decide) (Or.inl rfl)) (by decide) (Or.inl rfl)) (lk1_n lk1_s (by decide) (Or.inl rfl)) lk1_s (hG4) (hF4)
  refine x_aload_n 1 hK rfl rfl rfl ?_
  refine x_iconst 2 hK rfl rfl ?_
  refine x_putI 5 hK rfl rfl (sp_171 (h := h) hG) ?_
  refine x_iload_n 6 hK rfl rfl rfl ?_
  refine x_i2l 7 hK rfl rfl (by omega) ?_
  refine x_lconstE 8 0 hK rfl rfl rfl ?_
  refine x_ldc2_w 11 hK rfl rfl ?_
  have hGp650 : GD gE gRL sh (wI h 171 0 0) := GD_w1 (hG) (r := 54) rfl (by omega) rfl (by omega) (by omega)
  refine x_callS 14 hK hmono rfl (Or.inl rfl) rfl [.long (J n), .long (J 0), .long (J 12)] [] rfl rfl (Nat.le_of_ble_eq_true rfl) (Nat.le_of_ble_eq_true rfl) (CLd_le (Nat.le_of_ble_eq_true rfl) (ctX11_in (by omega) (by omega) (by omega))) ?_
  rintro v9 h9 ⟨e9, ⟨rfl, i1651, i2651⟩ | ⟨rfl, i1651⟩⟩ <;> rw [e9] <;> clear e9
  · refine x_if_ne 19 17 hK rfl rfl rfl (by omega) (fun _ => ?_) (fun c => by omega)
    refine x_aload_n 20 hK rfl rfl rfl ?_
    have g652 := gri (2) (40) hG (a := 171) (r := 54) (k := 3) rfl rfl
    refine x_getE 23 hK rfl (Or.inl rfl) rfl (sp_171 (h := h) hG) (e := (gi h 171 3)) (gi_k (by decide) _) ?_
    refine x_iconst 24 hK rfl rfl ?_
    refine x_isub 25 hK rfl rfl ?_
    refine x_aload_n 26 hK rfl rfl rfl ?_
    refine x_getE 29 hK rfl (Or.inl rfl) rfl (sp_171 (h := h) hG) (e := (gi h 171 3)) (gi_k (by decide) _) ?_
    refine x_iconst 30 hK rfl rfl ?_
    refine x_isub 31 hK rfl rfl ?_
    refine x_iload_n 32 hK rfl rfl rfl ?_
    refine x_imul 33 hK rfl rfl ?_
    refine x_aload_n 34 hK rfl rfl rfl ?_
    refine x_aload_n 35 hK rfl rfl rfl ?_
    refine x_getR 38 hK rfl rfl (sp_171 (h := h) hG) (rf_171_14 (h := h) hG) ?_
    refine x_iconst 39 hK rfl rfl ?_
    have g653 := gi_r h 178 0
    refine x_ialoadE 40 hK rfl rfl (sp_178 (h := h) hG) (by omega) (by omega) (by omega) (e' := (gi h 178 0)) (gi_a (by decide) _) ?_
    have hGp655 : GD gE gRL sh (wI h 171 0 0) := GD_w1 (hG) (r := 54) rfl (by omega) rfl (by omega) (by omega)
    have cmn := cm (by omega)
    have hXp : XI (wI h 171 0 0) := (xOk_ok rfl h (wI h 171 0 0) (FRM_w ((FRM.rf : FRM gRL [(0, 54, 0, 0)] h h)) (r := 54) rfl rfl) hX)
    have hFp : FRM gRL [(0, 54, 0, 0)] h (wI h 171 0 0) := FRM_w ((FRM.rf : FRM gRL [(0, 54, 0, 0)] h h)) (r := 54) rfl rfl
    have ed : dlA (wI h 171 0 0) (gi h 178 0) = (dlA h (gi h 178 0)) := dlA_F hFp rfl _
    refine x_callV 43 hK hmono rfl rfl [.ref 171, .int (I (gi h 178 0))] [.int (I (((gi h 171 3) - 1) * n)), .int (I ((gi h 171 3) - 1))] rfl rfl (Nat.le_of_ble_eq_true rfl) (Nat.le_of_ble_eq_true rfl) rfl (sp_171 (h := h) hG) (CLd_le (Nat.le_of_ble_eq_true rfl) (ctX11_delayAtF hSP hGp655 hXp (t := gi h 178 0) (by omega))) ?_
    rw [ed]
    rintro v654 h654 ⟨rfl, hG654, hF654⟩
    refine x_idivp 44 hK rfl rfl (by omega) (by omega) (by omega) (by omega) ?_
    refine x_min 47 hK rfl rfl (Nat.le_of_ble_eq_true rfl) (by omega) (by omega) ?_
    refine x_istore_n 48 hK rfl rfl [(2, .int (I (min ((gi h 171 3) - 1) ((((gi h 171 3) - 1) * n) / (dlA h (gi h 178 0)))))), (0, .ref 171), (1, .int (I n))] rfl ?_
    refine x_iconst 49 hK rfl rfl ?_
    refine x_istore_n 50 hK rfl rfl [(3, .int (I 0)), (2, .int (I (min ((gi h 171 3) - 1) ((((gi h 171 3) - 1) * n) / (dlA h (gi h 178 0)))))), (0, .ref 171), (1, .int (I n))] rfl ?_
    refine x_iconst 51 hK rfl rfl ?_
    refine x_istore 53 hK rfl rfl [(4, .int (I 0)), (3, .int (I 0)), (2, .int (I (min ((gi h 171 3) - 1) ((((gi h 171 3) - 1) * n) / (dlA h (gi h 178 0)))))), (0, .ref 171), (1, .int (I n))] rfl ?_
    refine x_iconst 54 hK rfl rfl ?_
    refine x_istore 56 hK rfl rfl [(5, .int (I 0)), (4, .int (I 0)), (3, .int (I 0)), (2, .int (I (min ((gi h 171 3) - 1) ((((gi h 171 3) - 1) * n) / (dlA h (gi h 178 0)))))), (0, .ref 171), (1, .int (I n))] rfl ?_
    exact loop _ (min ((gi h 171 3) - 1) ((((gi h 171 3) - 1) * n) / (dlA h (gi h 178 0)))) 0 0 0 _ _ rfl (⟨by omega, by omega⟩) (cmn.2.2.2.2) (by omega) (by omega) (by omega) (by omega) rfl rfl rfl rfl rfl rfl (hG654) ((FRM_w ((FRM.rf : FRM gRL [(0, 54, 0, 0), (0, 54, 1, 1), (0, 67, 0, 79), (0, 68, 0, 3), (1, 55, 0, 39)] h h)) (r := 54) rfl rfl).trans ((hF654).mono rfl))
  · refine x_if_ne 19 17 hK rfl rfl rfl (by omega) (fun c => by omega) (fun _ => ?_)
    refine x_iconst 18 hK rfl rfl ?_
    exact x_iret hK rfl ⟨Or.inl ⟨by omega, rfl⟩, GD_w1 (hG) (r := 54) rfl (by omega) rfl (by omega) (by omega), FRM_w ((FRM.rf : FRM gRL [(0, 54, 0, 0), (0, 54, 1, 1), (0, 67, 0, 79), (0, 68, 0, 3), (1, 55, 0, 39)] h h)) (r := 54) rfl rfl⟩
