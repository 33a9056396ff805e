/-! THE CLASS: its ROW as a list; mutinies -/
set_option maxRecDepth 4000 in
theorem ctX3_clear {SP : CT} (hSP : MONO SP) {sh : List (Nat × Nat)} {h : aH} (hG : GD gE gRL sh h) : CLd SP 1 mX3_clear [.ref 3] h 0 0 (fun rv h' => rv = none ∧ GD gE gRL sh h' ∧ FRM gRL [(0, 3, 1, 1)] h h' ∧ gi h' 3 1 = 0 ∧ crow h' = []) := by
  refine x_met _ rfl (Nat.le_of_ble_eq_true rfl) (fun K hK => ?_)
  have hmono := MONO_CLd hSP 0
  refine x_aload_n 1 hK rfl rfl rfl ?_
  refine x_iconst 2 hK rfl rfl ?_
  refine x_putI 5 hK rfl rfl (sp_3 (h := h) hG) ?_
  exact x_vret hK rfl ⟨rfl, GD_w1 (hG) (r := 3) rfl (by omega) rfl (by omega) (by omega), FRM_w ((FRM.rf : FRM gRL [(0, 3, 1, 1)] h h)) (r := 3) rfl rfl, gi_same (by omega), crow_0 (gi_same (by omega))⟩
set_option maxRecDepth 4000 in
theorem ctX3_add {SP : CT} (hSP : MONO SP) {sh : List (Nat × Nat)} {h : aH} (hG : GD gE gRL sh h) {v : Int} (hr : 0 ≤ gi h 3 1 ∧ gi h 3 1 ≤ 29) (hv : r64 v) : CLd SP 1 mX3_add [.ref 3, .long (J v)] h 0 0 (fun rv h' => rv = none ∧ GD gE gRL sh h' ∧ FRM gRL [(0, 3, 1, 1), (1, 4, 0, 29)] h h' ∧ gi h' 3 1 = gi h 3 1 + 1 ∧ crow h' = crow h ++ [v]) := by
  refine x_met _ rfl (Nat.le_of_ble_eq_true rfl) (fun K hK => ?_)
  have hmono := MONO_CLd hSP 0
  refine x_aload_n 1 hK rfl rfl rfl ?_
  have g49 := gri (0) (30) hG (a := 3) (r := 3) (k := 1) rfl rfl
  refine x_getE 4 hK rfl (Or.inl rfl) rfl (sp_3 (h := h) hG) (e := (gi h 3 1)) (rfl) ?_
  refine x_bipush 6 hK rfl rfl rfl ?_
  refine x_if_icmp_ge 29 9 hK rfl rfl rfl (by omega) (by omega) (fun c4 => ?_) (fun c4 => ?_)
  · exact absurd hr.2 (by omega)
  · refine x_aload_n 10 hK rfl rfl rfl ?_
    refine x_getR 13 hK rfl rfl (sp_3 (h := h) hG) (rf_3_0 (h := h) hG) ?_
    refine x_aload_n 14 hK rfl rfl rfl ?_
    refine x_getE 17 hK rfl (Or.inl rfl) rfl (sp_3 (h := h) hG) (e := (gi h 3 1)) (rfl) ?_
    refine x_lload_n 18 hK rfl rfl rfl ?_
    refine x_lastore 19 hK rfl rfl (sp_4 (h := h) hG) (by omega) (by omega) (by omega) ?_
    refine x_aload_n 20 hK rfl rfl rfl ?_
    refine x_dup 21 hK rfl rfl rfl ?_
    refine x_getE 24 hK rfl (Or.inl rfl) rfl (sp_3 (h := h) hG) (e := (gi h 3 1)) (rfl) ?_
    refine x_iconst 25 hK rfl rfl ?_
    refine x_iadd 26 hK rfl rfl ?_
    refine x_putI 29 hK rfl rfl (sp_3 (h := h) hG) ?_
    have e1 : gi (wI (sJ h 4 (gi h 3 1).toNat (J v)) 3 1 ((gi h 3 1) + 1)) 3 1 = gi h 3 1 + 1 := gi_same (by omega)
    exact x_vret hK rfl ⟨rfl, GD_w1 (GD_J (hG)) (r := 3) rfl (by omega) rfl (by omega) (by omega), FRM_w (FRM_Jn 0 29 ((FRM.rf : FRM gRL [(0, 3, 1, 1), (1, 4, 0, 29)] h h)) (r := 4) rfl rfl rfl (by omega) (by omega)) (r := 3) rfl rfl, e1, crow_snoc hr.1 e1 ((gj_same hv)) fun j hj => gj_k hj _⟩
set_option maxRecDepth 4000 in
theorem ctX3_tellOne {SP : CT} (hSP : MONO SP) {sh : List (Nat × Nat)} {h : aH} (hG : GD gE gRL sh h) {v : Int} (hv : r64 v) : CLd SP 2 mX3_tellOne [.ref 3, .long (J v)] h 0 0 (fun rv h' => rv = none ∧ GD gE gRL sh h' ∧ FRM gRL [(0, 3, 1, 1), (1, 4, 0, 29)] h h' ∧ gi h' 3 1 = 1 ∧ crow h' = [v]) := by
  refine x_met _ rfl (Nat.le_of_ble_eq_true rfl) (fun K hK => ?_)
  have hmono := MONO_CLd hSP 1
  refine x_aload_n 1 hK rfl rfl rfl ?_
  refine x_callV 4 hK hmono rfl rfl [.ref 3] [] rfl rfl (Nat.le_of_ble_eq_true rfl) (Nat.le_of_ble_eq_true rfl) rfl (sp_3 (h := h) hG) (CLd_le (Nat.le_of_ble_eq_true rfl) (ctX3_clear hSP hG)) ?_
  rintro v50 h50 ⟨rfl, hG50, hF50, t50, s50⟩
  refine x_aload_n 5 hK rfl rfl rfl ?_
  refine x_lload_n 6 hK rfl rfl rfl ?_
  have z52 : gi h50 3 1 = 0 := t50
  have z52r : crow h50 = [] := s50
  refine x_callV 9 hK hmono rfl rfl [.ref 3, .long (J v)] [] rfl rfl (Nat.le_of_ble_eq_true rfl) (Nat.le_of_ble_eq_true rfl) rfl (sp_3 (h := h50) hG50) (CLd_le (Nat.le_of_ble_eq_true rfl) (ctX3_add hSP hG50 (by omega) (by omega))) ?_
  rintro v51 h51 ⟨rfl, hG51, hF51, t51, s51⟩
  rw [z52] at t51
  rw [z52r] at s51
  replace t51 : gi h51 3 1 = 1 := t51
  change crow h51 = [v] at s51
  exact x_vret hK rfl ⟨rfl, hG51, ((hF50).mono rfl).trans ((hF51).mono rfl), t51, s51⟩
set_option maxRecDepth 4000 in
theorem ctX3_tellTwo {SP : CT} (hSP : MONO SP) {sh : List (Nat × Nat)} {h : aH} (hG : GD gE gRL sh h) {v w : Int} (hv : r64 v) (hw : r64 w) : CLd SP 2 mX3_tellTwo [.ref 3, .long (J v), .long (J w)] h 0 0 (fun rv h' => rv = none ∧ GD gE gRL sh h' ∧ FRM gRL [(0, 3, 1, 1), (1, 4, 0, 29)] h h' ∧ gi h' 3 1 = 2 ∧ crow h' = [v, w]) := by
  refine x_met _ rfl (Nat.le_of_ble_eq_true rfl) (fun K hK => ?_)
  have hmono := MONO_CLd hSP 1
  refine x_aload_n 1 hK rfl rfl rfl ?_
  refine x_callV 4 hK hmono rfl rfl [.ref 3] [] rfl rfl (Nat.le_of_ble_eq_true rfl) (Nat.le_of_ble_eq_true rfl) rfl (sp_3 (h := h) hG) (CLd_le (Nat.le_of_ble_eq_true rfl) (ctX3_clear hSP hG)) ?_
  rintro v53 h53 ⟨rfl, hG53, hF53, t53, s53⟩
  refine x_aload_n 5 hK rfl rfl rfl ?_
  refine x_lload_n 6 hK rfl rfl rfl ?_
  have z55 : gi h53 3 1 = 0 := t53
  have z55r : crow h53 = [] := s53
  refine x_callV 9 hK hmono rfl rfl [.ref 3, .long (J v)] [] rfl rfl (Nat.le_of_ble_eq_true rfl) (Nat.le_of_ble_eq_true rfl) rfl (sp_3 (h := h53) hG53) (CLd_le (Nat.le_of_ble_eq_true rfl) (ctX3_add hSP hG53 (by omega) (by omega))) ?_
  rintro v54 h54 ⟨rfl, hG54, hF54, t54, s54⟩
  rw [z55] at t54
  rw [z55r] at s54
  replace t54 : gi h54 3 1 = 1 := t54
  change crow h54 = [v] at s54
  refine x_aload_n 10 hK rfl rfl rfl ?_
  refine x_lload_n 11 hK rfl rfl rfl ?_
  have z57 : gi h54 3 1 = 1 := t54
  have z57r : crow h54 = [v] := s54
  refine x_callV 14 hK hmono rfl rfl [.ref 3, .long (J w)] [] rfl rfl (Nat.le_of_ble_eq_true rfl) (Nat.le_of_ble_eq_true rfl) rfl (sp_3 (h := h54) hG54) (CLd_le (Nat.le_of_ble_eq_true rfl) (ctX3_add hSP hG54 (by omega) (by omega))) ?_
  rintro v56 h56 ⟨rfl, hG56, hF56, t56, s56⟩
  rw [z57] at t56
  rw [z57r] at s56
  replace t56 : gi h56 3 1 = 2 := t56
  change crow h56 = [v, w] at s56
  exact x_vret hK rfl ⟨rfl, hG56, (((hF53).mono rfl).trans ((hF54).mono rfl)).trans ((hF56).mono rfl), t56, s56⟩
set_option maxRecDepth 4000 in
theorem ctX10_holdsThen {SP : CT} (hSP : MONO SP) {h : aH} {a x y v : Int} (ha : 0 ≤ a ∧ a ≤ 100) (hx : 0 ≤ x ∧ x ≤ 100) (hy : 0 ≤ y ∧ y ≤ 100) (hv : 0 ≤ v ∧ v ≤ 100) : CLd SP 1 mX10_holdsThen [.int (I a), .int (I x), .int (I y), .int (I v)] h 0 0 (fun rv h' => h' = h ∧ rv = some (.int (I (kps a x y v)))) := by
  refine x_met _ rfl (Nat.le_of_ble_eq_true rfl) (fun K hK => ?_)
  have hmono := MONO_CLd hSP 0
  refine x_iload_n 1 hK rfl rfl rfl ?_
  refine x_iload_n 2 hK rfl rfl rfl ?_
  refine x_iadd 3 hK rfl rfl ?_
  refine x_iload_n 4 hK rfl rfl rfl ?_
  refine x_if_icmp_lt 13 7 hK rfl rfl rfl (by omega) (by omega) (fun c5 => ?_) (fun c5 => ?_)
  · refine x_iload_n 14 hK rfl rfl rfl ?_
    refine x_iconst 15 hK rfl rfl ?_
    refine x_idivp 16 hK rfl rfl (by omega) (by omega) (by omega) (by omega) ?_
    exact x_iret hK rfl ⟨rfl, by rw [show kps a x y v = (a / 2) from if_neg (by omega)]⟩
  · refine x_iload_n 8 hK rfl rfl rfl ?_
    refine x_iload_n 9 hK rfl rfl rfl ?_
    refine x_isub 10 hK rfl rfl ?_
    refine x_goto 16 hK rfl rfl ?_
    exact x_iret hK rfl ⟨rfl, by rw [show kps a x y v = (a - x) from if_pos (by omega)]⟩
theorem rstB_no {a x y v : Int} : ∀ (n m : Nat), n ≤ m → rstB a x y v n = false → rstB a x y v m = false
  | n, 0, h, e => by rw [show n = 0 by omega] at e; cases e
  | n, m + 1, h, e => by
    by_cases c : n = m + 1
    · rw [← c]; exact e
    · show (rstB a x y v m && _) = false
      rw [rstB_no n m (by omega) e]; rfl
theorem rst_no {a x y v i : Int} (h0 : 0 ≤ i) (h1 : i ≤ min 9 a) (h : kps a x y v < kps a i y v) : rst a x y v = false := by
  refine rstB_no (i + 1).toNat _ (by omega) ?_
  rw [rstB_s h0, show decide (kps a i y v ≤ kps a x y v) = false from decide_eq_false (by omega), Bool.and_false]
theorem rstB_ye {a x y v i : Int} (h0 : 0 ≤ i) (e : rstB a x y v i.toNat = true) (h : ¬ kps a x y v < kps a i y v) : rstB a x y v (i + 1).toNat = true := by
  rw [rstB_s h0, e, show decide (kps a i y v ≤ kps a x y v) = true from decide_eq_true (by omega)]; rfl
set_option maxRecDepth 4000 in
theorem ctX10_wantsAnother {SP : CT} (hSP : MONO SP) {h : aH} {a x y v : Int} (ha : 0 ≤ a ∧ a ≤ 100) (hx : 0 ≤ x ∧ x ≤ 100) (hy : 0 ≤ y ∧ y ≤ 100) (hv : 0 ≤ v ∧ v ≤ 100) : CLd SP 2 mX10_wantsAnother [.int (I a), .int (I x), .int (I y), .int (I v)] h 0 0 (fun rv h' => h' = h ∧ rv = some (.int (I (b2i (!rst a x y v))))) := by
  refine x_met _ rfl (Nat.le_of_ble_eq_true rfl) (fun K hK => ?_)
  have hmono := MONO_CLd hSP 1
  have loop : ∀ (mz : Nat) (i : Int) (ls : List (Nat × Value)), ((min 9 a + 1 - i).toNat = mz) → (0 ≤ i ∧ i ≤ min 9 a + 1) → (rstB a x y v i.toNat = true) → lk ls 0 = some (.int (I a)) → lk ls 1 = some (.int (I x)) → lk ls 2 = some (.int (I y)) → lk ls 3 = some (.int (I v)) → lk ls 4 = some (.int (I (kps a x y v))) → lk ls 5 = some (.int (I i)) → K 12 ls [] h 0 0 := by
    intro mz
    induction mz using Nat.strongRecOn with
    | ind mz ih =>
    intro i ls hm i0 ee l0 l1 l2 l3 l4 l5
    have kk := kps_b a x y v (by omega) (by omega)
    refine x_iload 14 hK rfl rfl l5 ?_
    refine x_bipush 16 hK rfl rfl rfl ?_
    refine x_iload_n 17 hK rfl rfl l0 ?_
    refine x_min 20 hK rfl rfl (Nat.le_of_ble_eq_true rfl) (by omega) (by omega) ?_
    refine x_if_icmp_gt 44 23 hK rfl rfl rfl (by omega) (by omega) (fun c5 => ?_) (fun c5 => ?_)
    · refine x_iconst 45 hK rfl rfl ?_
      obtain rfl : i = min 9 a + 1 := by omega
      have er : rst a x y v = true := ee
      exact x_zret hK rfl (by omega) ⟨rfl, by rw [er]; rfl⟩
    · refine x_iload_n 24 hK rfl rfl l0 ?_
      refine x_iload 26 hK rfl rfl l5 ?_
      refine x_iload_n 27 hK rfl rfl l2 ?_
      refine x_iload_n 28 hK rfl rfl l3 ?_
      refine x_callS 31 hK hmono rfl (Or.inl rfl) rfl [.int (I a), .int (I i), .int (I y), .int (I v)] [] rfl rfl (Nat.le_of_ble_eq_true rfl) (Nat.le_of_ble_eq_true rfl) (CLd_le (Nat.le_of_ble_eq_true rfl) (ctX10_holdsThen hSP (by omega) (by omega) (by omega) (by omega))) ?_
      rintro v9 h9 ⟨e9, rfl⟩
      rw [e9]
      clear e9
      have kb58 := kps_b a i y v (by omega) (by omega)
      refine x_iload 33 hK rfl rfl l4 ?_
      refine x_if_icmp_le 38 36 hK rfl rfl rfl (by omega) (by omega) (fun c14 => ?_) (fun c14 => ?_)
      · refine x_iinc 41 hK rfl rfl l5 _ rfl ?_
        refine x_goto 12 hK rfl rfl ?_
        exact ih _ (by omega) (i + 1) _ rfl (by omega) (rstB_ye i0.1 ee (by omega)) (lk1_n l0 (by decide) (Or.inl rfl)) (lk1_n l1 (by decide) (Or.inl rfl)) (lk1_n l2 (by decide) (Or.inl rfl)) (lk1_n l3 (by decide) (Or.inl rfl)) (lk1_n l4 (by decide) (Or.inl rfl)) lk1_s
      · refine x_iconst 37 hK rfl rfl ?_
        exact x_zret hK rfl (by omega) ⟨rfl, by rw [rst_no (i := i) i0.1 (by omega) (by omega)]; rfl⟩
  refine x_iload_n 1 hK rfl rfl rfl ?_
  refine x_iload_n 2 hK rfl rfl rfl ?_
  refine x_iload_n 3 hK rfl rfl rfl ?_
  refine x_iload_n 4 hK rfl rfl rfl ?_
  refine x_callS 7 hK hmono rfl (Or.inl rfl) rfl [.int (I a), .int (I x), .int (I y), .int (I v)] [] rfl rfl (Nat.le_of_ble_eq_true rfl) (Nat.le_of_ble_eq_true rfl) (CLd_le (Nat.le_of_ble_eq_true rfl) (ctX10_holdsThen hSP (by omega) (by omega) (by omega) (by omega))) ?_
  rintro v9 h9 ⟨e9, rfl⟩
  rw [e9]
  clear e9
  have kb59 := kps_b a x y v (by omega) (by omega)
  refine x_istore 9 hK rfl rfl [(4, .int (I (kps a x y v))), (0, .int (I a)), (1, .int (I x)), (2, .int (I y)), (3, .int (I v))] rfl ?_
  refine x_iconst 10 hK rfl rfl ?_
  refine x_istore 12 hK rfl rfl [(5, .int (I 0)), (4, .int (I (kps a x y v))), (0, .int (I a)), (1, .int (I x)), (2, .int (I y)), (3, .int (I v))] rfl ?_
  exact loop _ 0 _ rfl (by omega) (rfl) rfl rfl rfl rfl rfl rfl
theorem nand_no {p q : Bool} (h : ¬ b2i (!p) = 0 ∨ ¬ b2i (!q) = 0) : (p && q) = false := by cases p <;> cases q <;> simp_all [b2i]
theorem nand_ye {p q : Bool} (h : b2i (!p) = 0) (h' : b2i (!q) = 0) : (p && q) = true := by cases p <;> cases q <;> simp_all [b2i]
set_option maxRecDepth 4000 in
theorem ctX10_mutiny {SP : CT} (hSP : MONO SP) {sh : List (Nat × Nat)} {h : aH} (hG : GD gE gRL sh h) {a b v : Int} (ra : r32 a) (rb : r32 b) (rv : r32 v) : CLd SP 5 mX10_mutiny [.ref 0, .int (I a), .int (I b), .int (I v)] h 0 0 (fun rv h' => ((((1 ≤ a ∧ a ≤ 20) ∧ (1 ≤ b ∧ b ≤ 20) ∧ 1 ≤ v ∧ v ≤ 18) ∧ rv = some (.int (I ((mtX a b v (min 9 a + 1).toNat).length : Nat))) ∧ crow h' = mtR (mtX a b v (min 9 a + 1).toNat)) ∨ (¬ ((1 ≤ a ∧ a ≤ 20) ∧ (1 ≤ b ∧ b ≤ 20) ∧ 1 ≤ v ∧ v ≤ 18) ∧ rv = some (.int (I (-1))) ∧ crow h' = crow h)) ∧ GD gE gRL sh h' ∧ FRM gRL [(0, 3, 1, 1), (1, 4, 0, 29)] h h') := by
  refine x_met _ rfl (Nat.le_of_ble_eq_true rfl) (fun K hK => ?_)
  have hmono := MONO_CLd hSP 4
  have loopX : ∀ (mz : Nat) (f x : Int) (h3 : aH) (ls : List (Nat × Value)), ((min 9 a + 1 - x).toNat = mz) → ((1 ≤ a ∧ a ≤ 20) ∧ (1 ≤ b ∧ b ≤ 20) ∧ 1 ≤ v ∧ v ≤ 18) → (0 ≤ x ∧ x ≤ min 9 a + 1) → (f = ((mtX a b v x.toNat).length : Nat)) → (crow h3 = mtR (mtX a b v x.toNat)) → lk ls 0 = some (.ref 0) → lk ls 1 = some (.int (I a)) → lk ls 2 = some (.int (I b)) → lk ls 3 = some (.int (I v)) → lk ls 4 = some (.int (I f)) → lk ls 5 = some (.int (I x)) → GD gE gRL sh h3 → FRM gRL [(0, 3, 1, 1), (1, 4, 0, 29)] h h3 → K 48 ls [] h3 0 0 := by
    intro mz
    induction mz using Nat.strongRecOn with
    | ind mz ih =>
    intro f x h3 ls hm q0 x0 fe e3 l0 l1 l2 l3 l4 l5 hG3 hF3
    have ihX := ih
    have lx := mtX_l a b v x.toNat
    have loopY : ∀ (mz : Nat) (f y : Int) (h4 : aH) (ls : List (Nat × Value)), ((min 9 b + 1 - y).toNat = mz) → (x ≤ min 9 a) → (0 ≤ y ∧ y ≤ min 9 b + 1) → (f = ((mtX a b v x.toNat ++ mtY a b v x.toNat y.toNat).length : Nat)) → (crow h4 = mtR (mtX a b v x.toNat ++ mtY a b v x.toNat y.toNat)) → lk ls 0 = some (.ref 0) → lk ls 1 = some (.int (I a)) → lk ls 2 = some (.int (I b)) → lk ls 3 = some (.int (I v)) → lk ls 4 = some (.int (I f)) → lk ls 5 = some (.int (I x)) → lk ls 6 = some (.int (I y)) → GD gE gRL sh h4 → FRM gRL [(0, 3, 1, 1), (1, 4, 0, 29)] h h4 → K 62 ls [] h4 0 0 := by
      intro mz
      induction mz using Nat.strongRecOn with
      | ind mz ih =>
      intro f y h4 ls hm x1 y0 fe e4 l0 l1 l2 l3 l4 l5 l6 hG4 hF4
      have ly := mtY_l a b v x.toNat y.toNat
      have fl : (mtX a b v x.toNat ++ mtY a b v x.toNat y.toNat).length ≤ 110 := by rw [List.length_append]; omega
      have ys : ∀ c : Bool, mtOk a b v x.toNat y.toNat = c → (mtX a b v x.toNat ++ mtY a b v x.toNat (y + 1).toNat) = (mtX a b v x.toNat ++ mtY a b v x.toNat y.toNat) ++ if c then [(x, y)] else [] := by
        intro c hc
        rw [tn_s y0.1]
        show mtX a b v x.toNat ++ (mtY a b v x.toNat y.toNat ++ if mtOk a b v x.toNat y.toNat then [((x.toNat : Int), (y.toNat : Int))] else []) = _
        rw [hc, tn_c x0.1, tn_c y0.1, List.append_assoc]
      have ok : mtOk a b v x.toNat y.toNat = (rst a x y v && rst b y x v) := by show (rst a (x.toNat : Int) (y.toNat : Int) v && rst b (y.toNat : Int) (x.toNat : Int) v) = _; rw [tn_c x0.1, tn_c y0.1]
      refine x_iload 64 hK rfl rfl l6 ?_
      refine x_bipush 66 hK rfl rfl rfl ?_
      refine x_iload_n 67 hK rfl rfl l2 ?_
      refine x_min 70 hK rfl rfl (Nat.le_of_ble_eq_true rfl) (by omega) (by omega) ?_
      refine x_if_icmp_gt 124 73 hK rfl rfl rfl (by omega) (by omega) (fun c5 => ?_) (fun c5 => ?_)
      · obtain rfl : y = min 9 b + 1 := by omega
        refine x_iinc 127 hK rfl rfl l5 _ rfl ?_
        refine x_goto 48 hK rfl rfl ?_
        exact ihX _ (by omega) f (x + 1) _ _ rfl (q0) (by omega) (by rw [tn_s x0.1]; exact fe) (by rw [tn_s x0.1]; exact e4) (lk1_n l0 (by decide) (Or.inl rfl)) (lk1_n l1 (by decide) (Or.inl rfl)) (lk1_n l2 (by decide) (Or.inl rfl)) (lk1_n l3 (by decide) (Or.inl rfl)) (lk1_n l4 (by decide) (Or.inl rfl)) lk1_s (hG4) (hF4)
      · refine x_iload_n 74 hK rfl rfl l1 ?_
        refine x_iload 76 hK rfl rfl l5 ?_
        refine x_iload 78 hK rfl rfl l6 ?_
        refine x_iload_n 79 hK rfl rfl l3 ?_
        refine x_callS 82 hK hmono rfl (Or.inl rfl) rfl [.int (I a), .int (I x), .int (I y), .int (I v)] [] rfl rfl (Nat.le_of_ble_eq_true rfl) (Nat.le_of_ble_eq_true rfl) (CLd_le (Nat.le_of_ble_eq_true rfl) (ctX10_wantsAnother hSP (by omega) (by omega) (by omega) (by omega))) ?_
        rintro v9 h9 ⟨e9, rfl⟩
        rw [e9]
        clear e9
        have rb60 := b2i_r (!rst a x y v)
        refine x_if_ne 118 85 hK rfl rfl rfl (by omega) (fun c15 => ?_) (fun c15 => ?_)
        · refine x_iinc 121 hK rfl rfl l6 _ rfl ?_
          refine x_goto 62 hK rfl rfl ?_
          have ys0 := ys false (by rw [ok]; exact nand_no (by first | exact Or.inl (by omega) | exact Or.inr (by omega)))
          rw [show (if false = true then [(x, y)] else []) = ([] : List (Int × Int)) from rfl, List.append_nil] at ys0
          exact ih _ (by omega) f (y + 1) _ _ rfl (by omega) (by omega) (by rw [ys0]; exact fe) (by rw [ys0]; exact e4) (lk1_n l0 (by decide) (Or.inl rfl)) (lk1_n l1 (by decide) (Or.inl rfl)) (lk1_n l2 (by decide) (Or.inl rfl)) (lk1_n l3 (by decide) (Or.inl rfl)) (lk1_n l4 (by decide) (Or.inl rfl)) (lk1_n l5 (by decide) (Or.inl rfl)) lk1_s (hG4) (hF4)
        · refine x_iload_n 86 hK rfl rfl l2 ?_
          refine x_iload 88 hK rfl rfl l6 ?_
          refine x_iload 90 hK rfl rfl l5 ?_
          refine x_iload_n 91 hK rfl rfl l3 ?_
          refine x_callS 94 hK hmono rfl (Or.inl rfl) rfl [.int (I b), .int (I y), .int (I x), .int (I v)] [] rfl rfl (Nat.le_of_ble_eq_true rfl) (Nat.le_of_ble_eq_true rfl) (CLd_le (Nat.le_of_ble_eq_true rfl) (ctX10_wantsAnother hSP (by omega) (by omega) (by omega) (by omega))) ?_
          rintro v9 h9 ⟨e9, rfl⟩
          rw [e9]
          clear e9
          have rb61 := b2i_r (!rst b y x v)
          refine x_if_ne 118 97 hK rfl rfl rfl (by omega) (fun c24 => ?_) (fun c24 => ?_)
          · refine x_iinc 121 hK rfl rfl l6 _ rfl ?_
            refine x_goto 62 hK rfl rfl ?_
            have ys0 := ys false (by rw [ok]; exact nand_no (by first | exact Or.inl (by omega) | exact Or.inr (by omega)))
            rw [show (if false = true then [(x, y)] else []) = ([] : List (Int × Int)) from rfl, List.append_nil] at ys0
            exact ih _ (by omega) f (y + 1) _ _ rfl (by omega) (by omega) (by rw [ys0]; exact fe) (by rw [ys0]; exact e4) (lk1_n l0 (by decide) (Or.inl rfl)) (lk1_n l1 (by decide) (Or.inl rfl)) (lk1_n l2 (by decide) (Or.inl rfl)) (lk1_n l3 (by decide) (Or.inl rfl)) (lk1_n l4 (by decide) (Or.inl rfl)) (lk1_n l5 (by decide) (Or.inl rfl)) lk1_s (hG4) (hF4)
          · refine x_iload 99 hK rfl rfl l4 ?_
            refine x_if_ne 115 102 hK rfl rfl rfl (by omega) (fun c29 => ?_) (fun c29 => ?_)
            · refine x_iinc 118 hK rfl rfl l4 _ rfl ?_
              refine x_iinc 121 hK rfl rfl (lk1_n l6 (by decide) (Or.inl rfl)) _ rfl ?_
              refine x_goto 62 hK rfl rfl ?_
              have ys1 := ys true (by rw [ok]; exact nand_ye (by omega) (by omega))
              rw [if_pos rfl] at ys1
              have ne : (mtX a b v x.toNat ++ mtY a b v x.toNat y.toNat) ≠ [] := fun z => by rw [z] at fe; exact absurd fe (by simp only [List.length_nil]; omega)
              exact ih _ (by omega) (f + 1) (y + 1) _ _ rfl (by omega) (by omega) (by rw [ys1, List.length_append, fe]; simp) (by rw [ys1, mtR_a ne]; exact e4) (lk1_n (lk1_n l0 (by decide) (Or.inl rfl)) (by decide) (Or.inl rfl)) (lk1_n (lk1_n l1 (by decide) (Or.inl rfl)) (by decide) (Or.inl rfl)) (lk1_n (lk1_n l2 (by decide) (Or.inl rfl)) (by decide) (Or.inl rfl)) (lk1_n (lk1_n l3 (by decide) (Or.inl rfl)) (by decide) (Or.inl rfl)) (lk1_n lk1_s (by decide) (Or.inl rfl)) (lk1_n (lk1_n l5 (by decide) (Or.inl rfl)) (by decide) (Or.inl rfl)) lk1_s (hG4) (hF4)
            · refine x_aload_n 103 hK rfl rfl l0 ?_
              refine x_getR 106 hK rfl rfl (sp_0 (h := h4) hG4) (rf_0_1 (h := h4) hG4) ?_
              refine x_iload 108 hK rfl rfl l5 ?_
              refine x_i2l 109 hK rfl rfl (by omega) ?_
              refine x_iload 111 hK rfl rfl l6 ?_
              refine x_i2l 112 hK rfl rfl (by omega) ?_
              refine x_callV 115 hK hmono rfl rfl [.ref 3, .long (J x), .long (J y)] [] rfl rfl (Nat.le_of_ble_eq_true rfl) (Nat.le_of_ble_eq_true rfl) rfl (sp_3 (h := h4) hG4) (CLd_le (Nat.le_of_ble_eq_true rfl) (ctX3_tellTwo hSP hG4 (by omega) (by omega))) ?_
              rintro v62 h62 ⟨rfl, hG62, hF62, t62, s62⟩
              refine x_iinc 118 hK rfl rfl l4 _ rfl ?_
              refine x_iinc 121 hK rfl rfl (lk1_n l6 (by decide) (Or.inl rfl)) _ rfl ?_
              refine x_goto 62 hK rfl rfl ?_
              have ys1 := ys true (by rw [ok]; exact nand_ye (by omega) (by omega))
              rw [if_pos rfl] at ys1
              have ne : (mtX a b v x.toNat ++ mtY a b v x.toNat y.toNat) = [] := len0.mp (by omega)
              rw [ne, List.nil_append] at ys1
              exact ih _ (by omega) (f + 1) (y + 1) _ _ rfl (by omega) (by omega) (by rw [ys1]; show f + 1 = 1; omega) (by rw [ys1]; exact s62) (lk1_n (lk1_n l0 (by decide) (Or.inl rfl)) (by decide) (Or.inl rfl)) (lk1_n (lk1_n l1 (by decide) (Or.inl rfl)) (by decide) (Or.inl rfl)) (lk1_n (lk1_n l2 (by decide) (Or.inl rfl)) (by decide) (Or.inl rfl)) (lk1_n (lk1_n l3 (by decide) (Or.inl rfl)) (by decide) (Or.inl rfl)) (lk1_n lk1_s (by decide) (Or.inl rfl)) (lk1_n (lk1_n l5 (by decide) (Or.inl rfl)) (by decide) (Or.inl rfl)) lk1_s (hG62) ((hF4).trans ((hF62).mono rfl))
    refine x_iload 50 hK rfl rfl l5 ?_
    refine x_bipush 52 hK rfl rfl rfl ?_
    refine x_iload_n 53 hK rfl rfl l1 ?_
    refine x_min 56 hK rfl rfl (Nat.le_of_ble_eq_true rfl) (by omega) (by omega) ?_
    refine x_if_icmp_gt 130 59 hK rfl rfl rfl (by omega) (by omega) (fun c5 => ?_) (fun c5 => ?_)
    · refine x_iload 132 hK rfl rfl l4 ?_
      obtain rfl : x = min 9 a + 1 := by omega
      exact x_iret hK rfl ⟨Or.inl ⟨q0, by rw [fe], e3⟩, hG3, hF3⟩
    · refine x_iconst 60 hK rfl rfl ?_
      refine x_istore 62 hK rfl rfl _ rfl ?_
      exact loopY _ f 0 _ _ rfl (by omega) (by omega) (by rw [fe]; simp [mtY]) (by rw [e3]; simp [mtY]) (lk1_n l0 (by decide) (Or.inl rfl)) (lk1_n l1 (by decide) (Or.inl rfl)) (lk1_n l2 (by decide) (Or.inl rfl)) (lk1_n l3 (by decide) (Or.inl rfl)) (lk1_n l4 (by decide) (Or.inl rfl)) (lk1_n l5 (by decide) (Or.inl rfl)) lk1_s (hG3) (hF3)
  refine x_iload_n 1 hK rfl rfl rfl ?_
  refine x_iconst 2 hK rfl rfl ?_
  refine x_if_icmp_lt 33 5 hK rfl rfl rfl (by omega) (by omega) (fun c3 => ?_) (fun c3 => ?_)
  · refine x_iconst 34 hK rfl rfl ?_
    exact x_iret hK rfl ⟨Or.inr ⟨by omega, rfl, rfl⟩, hG, (FRM.rf : FRM gRL [(0, 3, 1, 1), (1, 4, 0, 29)] h h)⟩
  · refine x_iload_n 6 hK rfl rfl rfl ?_
    refine x_bipush 8 hK rfl rfl rfl ?_
    refine x_if_icmp_gt 33 11 hK rfl rfl rfl (by omega) (by omega) (fun c8 => ?_) (fun c8 => ?_)
    · refine x_iconst 34 hK rfl rfl ?_
      exact x_iret hK rfl ⟨Or.inr ⟨by omega, rfl, rfl⟩, hG, (FRM.rf : FRM gRL [(0, 3, 1, 1), (1, 4, 0, 29)] h h)⟩
    · refine x_iload_n 12 hK rfl rfl rfl ?_
      refine x_iconst 13 hK rfl rfl ?_
      refine x_if_icmp_lt 33 16 hK rfl rfl rfl (by omega) (by omega) (fun c13 => ?_) (fun c13 => ?_)
      · refine x_iconst 34 hK rfl rfl ?_
        exact x_iret hK rfl ⟨Or.inr ⟨by omega, rfl, rfl⟩, hG, (FRM.rf : FRM gRL [(0, 3, 1, 1), (1, 4, 0, 29)] h h)⟩
      · refine x_iload_n 17 hK rfl rfl rfl ?_
        refine x_bipush 19 hK rfl rfl rfl ?_
        refine x_if_icmp_gt 33 22 hK rfl rfl rfl (by omega) (by omega) (fun c18 => ?_) (fun c18 => ?_)
        · refine x_iconst 34 hK rfl rfl ?_
          exact x_iret hK rfl ⟨Or.inr ⟨by omega, rfl, rfl⟩, hG, (FRM.rf : FRM gRL [(0, 3, 1, 1), (1, 4, 0, 29)] h h)⟩
        · refine x_iload_n 23 hK rfl rfl rfl ?_
          refine x_iconst 24 hK rfl rfl ?_
          refine x_if_icmp_lt 33 27 hK rfl rfl rfl (by omega) (by omega) (fun c23 => ?_) (fun c23 => ?_)
          · refine x_iconst 34 hK rfl rfl ?_
            exact x_iret hK rfl ⟨Or.inr ⟨by omega, rfl, rfl⟩, hG, (FRM.rf : FRM gRL [(0, 3, 1, 1), (1, 4, 0, 29)] h h)⟩
          · refine x_iload_n 28 hK rfl rfl rfl ?_
            refine x_bipush 30 hK rfl rfl rfl ?_
            refine x_if_icmp_le 35 33 hK rfl rfl rfl (by omega) (by omega) (fun c28 => ?_) (fun c28 => ?_)
            · refine x_aload_n 36 hK rfl rfl rfl ?_
              refine x_getR 39 hK rfl rfl (sp_0 (h := h) hG) (rf_0_1 (h := h) hG) ?_
              refine x_callV 42 hK hmono rfl rfl [.ref 3] [] rfl rfl (Nat.le_of_ble_eq_true rfl) (Nat.le_of_ble_eq_true rfl) rfl (sp_3 (h := h) hG) (CLd_le (Nat.le_of_ble_eq_true rfl) (ctX3_clear hSP hG)) ?_
              rintro v63 h63 ⟨rfl, hG63, hF63, t63, s63⟩
              refine x_iconst 43 hK rfl rfl ?_
              refine x_istore 45 hK rfl rfl [(4, .int (I 0)), (0, .ref 0), (1, .int (I a)), (2, .int (I b)), (3, .int (I v))] rfl ?_
              refine x_iconst 46 hK rfl rfl ?_
              refine x_istore 48 hK rfl rfl [(5, .int (I 0)), (4, .int (I 0)), (0, .ref 0), (1, .int (I a)), (2, .int (I b)), (3, .int (I v))] rfl ?_
              exact loopX _ 0 0 _ _ rfl (by omega) (by omega) (rfl) (s63) rfl rfl rfl rfl rfl rfl (hG63) ((hF63).mono rfl)
            · refine x_iconst 34 hK rfl rfl ?_
              exact x_iret hK rfl ⟨Or.inr ⟨by omega, rfl, rfl⟩, hG, (FRM.rf : FRM gRL [(0, 3, 1, 1), (1, 4, 0, 29)] h h)⟩
