/-! THE CLASS: its ROW as a list; mutinies -/
set_option maxRecDepth 4000 in
theorem ctX3_clear {SP : CT} (hSP : MONO SP) {sh : List (Nat × Nat)} {h : aH} (hG : GD gE gRL sh h) : CLd SP 1 mX3_clear [.ref 3] h 0 0 (fun rv h' => rv = none ∧ GD gE gRL sh h' ∧ FRM gRL [(0, 3, 1, 1)] h h' ∧ gi h' 3 1 = 0 ∧ crow h' = []) := by
  refine x_met _ rfl (Nat.le_of_ble_eq_true rfl) (fun K hK => ?_)
  have hmono := MONO_CLd hSP 0
  refine x_aload_n 1 hK rfl rfl rfl ?_
  refine x_iconst 2 hK rfl rfl ?_
  refine x_putI 5 hK rfl rfl (sp_3 (h := h) hG) ?_
  exact x_vret hK rfl ⟨rfl, GD_w1 (hG) (r := 3) rfl (by omega) rfl (by omega) (by omega), FRM_w ((FRM.rf : FRM gRL [(0, 3, 1, 1)] h h)) (r := 3) rfl rfl, gi_same (by omega), crow_0 (gi_same (by omega))⟩
set_option maxRecDepth 4000 in
theorem ctX3_add {SP : CT} (hSP : MONO SP) {sh : List (Nat × Nat)} {h : aH} (hG : GD gE gRL sh h) {v : Int} (hr : 0 ≤ gi h 3 1 ∧ gi h 3 1 ≤ 29) (hv : r64 v) : CLd SP 1 mX3_add [.ref 3, .long (J v)] h 0 0 (fun rv h' => rv = none ∧ GD gE gRL sh h' ∧ FRM gRL [(0, 3, 1, 1), (1, 4, 0, 29)] h h' ∧ gi h' 3 1 = gi h 3 1 + 1 ∧ crow h' = crow h ++ [v]) := by
  refine x_met _ rfl (Nat.le_of_ble_eq_true rfl) (fun K hK => ?_)
  have hmono := MONO_CLd hSP 0
  refine x_aload_n 1 hK rfl rfl rfl ?_
  have g49 := gri (0) (30) hG (a := 3) (r := 3) (k := 1) rfl rfl
  refine x_getE 4 hK rfl (Or.inl rfl) rfl (sp_3 (h := h) hG) (e := (gi h 3 1)) (rfl) ?_
  refine x_bipush 6 hK rfl rfl rfl ?_
  refine x_if_icmp_ge 29 9 hK rfl rfl rfl (by omega) (by omega) (fun c4 => ?_) (fun c4 => ?_)
  · exact absurd hr.2 (by omega)
  · refine x_aload_n 10 hK rfl rfl rfl ?_
    refine x_getR 13 hK rfl rfl (sp_3 (h := h) hG) (rf_3_0 (h := h) hG) ?_
    refine x_aload_n 14 hK rfl rfl rfl ?_
    refine x_getE 17 hK rfl (Or.inl rfl) rfl (sp_3 (h := h) hG) (e := (gi h 3 1)) (rfl) ?_
    refine x_lload_n 18 hK rfl rfl rfl ?_
    refine x_lastore 19 hK rfl rfl (sp_4 (h := h) hG) (by omega) (by omega) (by omega) ?_
    refine x_aload_n 20 hK rfl rfl rfl ?_
    refine x_dup 21 hK rfl rfl rfl ?_
    refine x_getE 24 hK rfl (Or.inl rfl) rfl (sp_3 (h := h) hG) (e := (gi h 3 1)) (rfl) ?_
    refine x_iconst 25 hK rfl rfl ?_
    refine x_iadd 26 hK rfl rfl ?_
    refine x_putI 29 hK rfl rfl (sp_3 (h := h) hG) ?_
    have e1 : gi (wI (sJ h 4 (gi h 3 1).toNat (J v)) 3 1 ((gi h 3 1) + 1)) 3 1 = gi h 3 1 + 1 := gi_same (by omega)
    exact x_vret hK rfl ⟨rfl, GD_w1 (GD_J (hG)) (r := 3) rfl (by omega) rfl (by omega) (by omega), FRM_w (FRM_Jn 0 29 ((FRM.rf : FRM gRL [(0, 3, 1, 1), (1, 4, 0, 29)] h h)) (r := 4) rfl rfl rfl (by omega) (by omega)) (r := 3) rfl rfl, e1, crow_snoc hr.1 e1 ((gj_same hv)) fun j hj => gj_k hj _⟩
set_option maxRecDepth 4000 in
theorem ctX3_tellTwo {SP : CT} (hSP : MONO SP) {sh : List (Nat × Nat)} {h : aH} (hG : GD gE gRL sh h) {v w : Int} (hv : r64 v) (hw : r64 w) : CLd SP 2 mX3_tellTwo [.ref 3, .long (J v), .long (J w)] h 0 0 (fun rv h' => rv = none ∧ GD gE gRL sh h' ∧ FRM gRL [(0, 3, 1, 1), (1, 4, 0, 29)] h h' ∧ gi h' 3 1 = 2 ∧ crow h' = [v, w]) := by
  refine x_met _ rfl (Nat.le_of_ble_eq_true rfl) (fun K hK => ?_)
  have hmono := MONO_CLd hSP 1
  refine x_aload_n 1 hK rfl rfl rfl ?_
  refine x_callV 4 hK hmono rfl rfl [.ref 3] [] rfl rfl (Nat.le_of_ble_eq_true rfl) (Nat.le_of_ble_eq_true rfl) rfl (sp_3 (h := h) hG) (CLd_le (Nat.le_of_ble_eq_true rfl) (ctX3_clear hSP hG)) ?_
  rintro v53 h53 ⟨rfl, hG53, hF53, t53, s53⟩
  refine x_aload_n 5 hK rfl rfl rfl ?_
  refine x_lload_n 6 hK rfl rfl rfl ?_
  have z55 : gi h53 3 1 = 0 := t53
  have z55r : crow h53 = [] := s53
  refine x_callV 9 hK hmono rfl rfl [.ref 3, .long (J v)] [] rfl rfl (Nat.le_of_ble_eq_true rfl) (Nat.le_of_ble_eq_true rfl) rfl (sp_3 (h := h53) hG53) (CLd_le (Nat.le_of_ble_eq_true rfl) (ctX3_add hSP hG53 (by omega) (by omega))) ?_
  rintro v54 h54 ⟨rfl, hG54, hF54, t54, s54⟩
  rw [z55] at t54
  rw [z55r] at s54
  replace t54 : gi h54 3 1 = 1 := t54
  change crow h54 = [v] at s54
  refine x_aload_n 10 hK rfl rfl rfl ?_
  refine x_lload_n 11 hK rfl rfl rfl ?_
  have z57 : gi h54 3 1 = 1 := t54
  have z57r : crow h54 = [v] := s54
  refine x_callV 14 hK hmono rfl rfl [.ref 3, .long (J w)] [] rfl rfl (Nat.le_of_ble_eq_true rfl) (Nat.le_of_ble_eq_true rfl) rfl (sp_3 (h := h54) hG54) (CLd_le (Nat.le_of_ble_eq_true rfl) (ctX3_add hSP hG54 (by omega) (by omega))) ?_
  rintro v56 h56 ⟨rfl, hG56, hF56, t56, s56⟩
  rw [z57] at t56
  rw [z57r] at s56
  replace t56 : gi h56 3 1 = 2 := t56
  change crow h56 = [v, w] at s56
  exact x_vret hK rfl ⟨rfl, hG56, (((hF53).mono rfl).trans ((hF54).mono rfl)).trans ((hF56).mono rfl), t56, s56⟩
