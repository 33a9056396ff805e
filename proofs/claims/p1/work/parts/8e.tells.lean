/-! POSTS, ROCKS as the reference tells them -/
set_option maxRecDepth 4000 in
theorem ctX11_refuse {SP : CT} (hSP : MONO SP) {sh : List (Nat × Nat)} {h : aH} (hG : GD gE gRL sh h) : CLd SP 1 mX11_refuse [.ref 171] h 0 0 (fun rv h' => rv = some (.int (I 0)) ∧ GD gE gRL sh h' ∧ FRM gRL [(0, 54, 0, 0)] h h' ∧ gi h' 171 0 = 1) := by
  refine x_met _ rfl (Nat.le_of_ble_eq_true rfl) (fun K hK => ?_)
  have hmono := MONO_CLd hSP 0
  refine x_aload_n 1 hK rfl rfl rfl ?_
  refine x_iconst 2 hK rfl rfl ?_
  refine x_putI 5 hK rfl rfl (sp_171 (h := h) hG) ?_
  refine x_iconst 6 hK rfl rfl ?_
  exact x_iret hK rfl ⟨rfl, GD_w1 (hG) (r := 54) rfl (by omega) rfl (by omega) (by omega), FRM_w ((FRM.rf : FRM gRL [(0, 54, 0, 0)] h h)) (r := 54) rfl rfl, gi_same (by omega)⟩
set_option maxRecDepth 4000 in
theorem ctX11_thrown {SP : CT} (hSP : MONO SP) {sh : List (Nat × Nat)} {h : aH} (hG : GD gE gRL sh h) : CLd SP 1 mX11_thrown [.ref 171] h 0 0 (fun rv h' => h' = h ∧ rv = some (.int (I (gi h 171 0)))) := by
  refine x_met _ rfl (Nat.le_of_ble_eq_true rfl) (fun K hK => ?_)
  have hmono := MONO_CLd hSP 0
  refine x_aload_n 1 hK rfl rfl rfl ?_
  have g64 := gri (0) (1) hG (a := 171) (r := 54) (k := 0) rfl rfl
  refine x_getE 4 hK rfl (Or.inl rfl) rfl (sp_171 (h := h) hG) (e := (gi h 171 0)) (rfl) ?_
  exact x_iret hK rfl ⟨rfl, by rw [show gi h 171 0 = (gi h 171 0) from rfl]⟩
set_option maxRecDepth 4000 in
theorem ctX11_post {SP : CT} (hSP : MONO SP) {sh : List (Nat × Nat)} {h : aH} (hG : GD gE gRL sh h) {x y : Int} (rx : r32 x) (ry : r32 y) : CLd SP 3 mX11_post [.ref 171, .int (I x), .int (I y)] h 0 0 (fun rv h' => ((((0 ≤ x ∧ x < gi h 171 4) ∧ 0 ≤ y ∧ y ≤ 1) ∧ rv = some (.int (I (if y = 0 then gi h 173 x.toNat else gi h 174 x.toNat))) ∧ gi h' 171 0 = 0) ∨ (¬ ((0 ≤ x ∧ x < gi h 171 4) ∧ 0 ≤ y ∧ y ≤ 1) ∧ rv = some (.int (I 0)) ∧ gi h' 171 0 = 1)) ∧ GD gE gRL sh h' ∧ FRM gRL [(0, 54, 0, 0)] h h') := by
  refine x_met _ rfl (Nat.le_of_ble_eq_true rfl) (fun K hK => ?_)
  have hmono := MONO_CLd hSP 2
  refine x_aload_n 1 hK rfl rfl rfl ?_
  refine x_iconst 2 hK rfl rfl ?_
  refine x_putI 5 hK rfl rfl (sp_171 (h := h) hG) ?_
  refine x_iload_n 6 hK rfl rfl rfl ?_
  refine x_i2l 7 hK rfl rfl (by omega) ?_
  refine x_lconstE 8 0 hK rfl rfl rfl ?_
  refine x_aload_n 9 hK rfl rfl rfl ?_
  have g65 := gri (0) (10) hG (a := 171) (r := 54) (k := 4) rfl rfl
  refine x_getE 12 hK rfl (Or.inl rfl) rfl (sp_171 (h := h) hG) (e := (gi h 171 4)) (gi_k (by decide) _) ?_
  refine x_iconst 13 hK rfl rfl ?_
  refine x_isub 14 hK rfl rfl ?_
  refine x_i2l 15 hK rfl rfl (by omega) ?_
  have hGp66 : GD gE gRL sh (wI h 171 0 0) := GD_w1 (hG) (r := 54) rfl (by omega) rfl (by omega) (by omega)
  refine x_callS 18 hK hmono rfl (Or.inl rfl) rfl [.long (J x), .long (J 0), .long (J ((gi h 171 4) - 1))] [] rfl rfl (Nat.le_of_ble_eq_true rfl) (Nat.le_of_ble_eq_true rfl) (CLd_le (Nat.le_of_ble_eq_true rfl) (ctX11_in (by omega) (by omega) (by omega))) ?_
  rintro v9 h9 ⟨e9, ⟨rfl, i167, i267⟩ | ⟨rfl, i167⟩⟩ <;> rw [e9] <;> clear e9
  · refine x_if_eq 31 21 hK rfl rfl rfl (by omega) (fun c => by omega) (fun _ => ?_)
    refine x_iload_n 22 hK rfl rfl rfl ?_
    refine x_i2l 23 hK rfl rfl (by omega) ?_
    refine x_lconstE 24 0 hK rfl rfl rfl ?_
    refine x_lconstE 25 1 hK rfl rfl rfl ?_
    have hGp68 : GD gE gRL sh (wI h 171 0 0) := GD_w1 (hG) (r := 54) rfl (by omega) rfl (by omega) (by omega)
    refine x_callS 28 hK hmono rfl (Or.inl rfl) rfl [.long (J y), .long (J 0), .long (J 1)] [] rfl rfl (Nat.le_of_ble_eq_true rfl) (Nat.le_of_ble_eq_true rfl) (CLd_le (Nat.le_of_ble_eq_true rfl) (ctX11_in (by omega) (by omega) (by omega))) ?_
    rintro v9 h9 ⟨e9, ⟨rfl, i169, i269⟩ | ⟨rfl, i169⟩⟩ <;> rw [e9] <;> clear e9
    · refine x_if_ne 36 31 hK rfl rfl rfl (by omega) (fun _ => ?_) (fun c => by omega)
      refine x_iload_n 37 hK rfl rfl rfl ?_
      refine x_if_ne 49 40 hK rfl rfl rfl (by omega) (fun c21 => ?_) (fun c21 => ?_)
      · refine x_aload_n 50 hK rfl rfl rfl ?_
        refine x_getR 53 hK rfl rfl (sp_171 (h := h) hG) (rf_171_10 (h := h) hG) ?_
        refine x_iload_n 54 hK rfl rfl rfl ?_
        have g70 := grn (0) (1) hG (a := 174) (r := 57) (k := x.toNat) rfl rfl (by omega)
        refine x_baloadE 55 hK rfl rfl (sp_174 (h := h) hG) (by omega) (by omega) (by omega) (e' := (gi h 174 x.toNat)) (gi_a (by decide) _) ?_
        have hGp71 : GD gE gRL sh (wI h 171 0 0) := GD_w1 (hG) (r := 54) rfl (by omega) rfl (by omega) (by omega)
        refine x_callS 58 hK hmono rfl (Or.inl rfl) rfl [.int (I (gi h 174 x.toNat))] [] rfl rfl (Nat.le_of_ble_eq_true rfl) (Nat.le_of_ble_eq_true rfl) (CLd_le (Nat.le_of_ble_eq_true rfl) (ctX11_flag (by omega))) ?_
        rintro v9 h9 ⟨e9, rfl⟩
        rw [e9]
        clear e9
        exact x_iret hK rfl ⟨Or.inl ⟨by omega, by first | rw [if_pos (by omega)] | rw [if_neg (by omega)], gi_same (by omega)⟩, GD_w1 (hG) (r := 54) rfl (by omega) rfl (by omega) (by omega), FRM_w ((FRM.rf : FRM gRL [(0, 54, 0, 0)] h h)) (r := 54) rfl rfl⟩
      · refine x_aload_n 41 hK rfl rfl rfl ?_
        refine x_getR 44 hK rfl rfl (sp_171 (h := h) hG) (rf_171_9 (h := h) hG) ?_
        refine x_iload_n 45 hK rfl rfl rfl ?_
        have g73 := gi_r h 173 x.toNat
        refine x_ialoadE 46 hK rfl rfl (sp_173 (h := h) hG) (by omega) (by omega) (by omega) (e' := (gi h 173 x.toNat)) (gi_a (by decide) _) ?_
        refine x_goto 58 hK rfl rfl ?_
        exact x_iret hK rfl ⟨Or.inl ⟨by omega, by first | rw [if_pos (by omega)] | rw [if_neg (by omega)], gi_same (by omega)⟩, GD_w1 (hG) (r := 54) rfl (by omega) rfl (by omega) (by omega), FRM_w ((FRM.rf : FRM gRL [(0, 54, 0, 0)] h h)) (r := 54) rfl rfl⟩
    · refine x_if_ne 36 31 hK rfl rfl rfl (by omega) (fun c => by omega) (fun _ => ?_)
      refine x_aload_n 32 hK rfl rfl rfl ?_
      have hGp74 : GD gE gRL sh (wI h 171 0 0) := GD_w1 (hG) (r := 54) rfl (by omega) rfl (by omega) (by omega)
      refine x_callV 35 hK hmono rfl rfl [.ref 171] [] rfl rfl (Nat.le_of_ble_eq_true rfl) (Nat.le_of_ble_eq_true rfl) rfl (sp_171 (h := h) hG) (CLd_le (Nat.le_of_ble_eq_true rfl) (ctX11_refuse hSP hGp74)) ?_
      rintro v75 h75 ⟨rfl, hG75, hF75, t75⟩
      exact x_iret hK rfl ⟨Or.inr ⟨by omega, rfl, t75⟩, hG75, (FRM_w ((FRM.rf : FRM gRL [(0, 54, 0, 0)] h h)) (r := 54) rfl rfl).trans ((hF75).mono rfl)⟩
  · refine x_if_eq 31 21 hK rfl rfl rfl (by omega) (fun _ => ?_) (fun c => by omega)
    refine x_aload_n 32 hK rfl rfl rfl ?_
    have hGp76 : GD gE gRL sh (wI h 171 0 0) := GD_w1 (hG) (r := 54) rfl (by omega) rfl (by omega) (by omega)
    refine x_callV 35 hK hmono rfl rfl [.ref 171] [] rfl rfl (Nat.le_of_ble_eq_true rfl) (Nat.le_of_ble_eq_true rfl) rfl (sp_171 (h := h) hG) (CLd_le (Nat.le_of_ble_eq_true rfl) (ctX11_refuse hSP hGp76)) ?_
    rintro v77 h77 ⟨rfl, hG77, hF77, t77⟩
    exact x_iret hK rfl ⟨Or.inr ⟨by omega, rfl, t77⟩, hG77, (FRM_w ((FRM.rf : FRM gRL [(0, 54, 0, 0)] h h)) (r := 54) rfl rfl).trans ((hF77).mono rfl)⟩
set_option maxRecDepth 4000 in
theorem ctX11_rock {SP : CT} (hSP : MONO SP) {sh : List (Nat × Nat)} {h : aH} (hG : GD gE gRL sh h) {x y : Int} (rx : r32 x) (ry : r32 y) : CLd SP 3 mX11_rock [.ref 171, .int (I x), .int (I y)] h 0 0 (fun rv h' => ((((0 ≤ x ∧ x < gi h 171 6) ∧ 0 ≤ y ∧ y ≤ 1) ∧ rv = some (.int (I (if y = 0 then gi h 175 x.toNat else gi h 176 x.toNat))) ∧ gi h' 171 0 = 0) ∨ (¬ ((0 ≤ x ∧ x < gi h 171 6) ∧ 0 ≤ y ∧ y ≤ 1) ∧ rv = some (.int (I 0)) ∧ gi h' 171 0 = 1)) ∧ GD gE gRL sh h' ∧ FRM gRL [(0, 54, 0, 0)] h h') := by
  refine x_met _ rfl (Nat.le_of_ble_eq_true rfl) (fun K hK => ?_)
  have hmono := MONO_CLd hSP 2
  refine x_aload_n 1 hK rfl rfl rfl ?_
  refine x_iconst 2 hK rfl rfl ?_
  refine x_putI 5 hK rfl rfl (sp_171 (h := h) hG) ?_
  refine x_iload_n 6 hK rfl rfl rfl ?_
  refine x_i2l 7 hK rfl rfl (by omega) ?_
  refine x_lconstE 8 0 hK rfl rfl rfl ?_
  refine x_aload_n 9 hK rfl rfl rfl ?_
  have g78 := gri (0) (16) hG (a := 171) (r := 54) (k := 6) rfl rfl
  refine x_getE 12 hK rfl (Or.inl rfl) rfl (sp_171 (h := h) hG) (e := (gi h 171 6)) (gi_k (by decide) _) ?_
  refine x_iconst 13 hK rfl rfl ?_
  refine x_isub 14 hK rfl rfl ?_
  refine x_i2l 15 hK rfl rfl (by omega) ?_
  have hGp79 : GD gE gRL sh (wI h 171 0 0) := GD_w1 (hG) (r := 54) rfl (by omega) rfl (by omega) (by omega)
  refine x_callS 18 hK hmono rfl (Or.inl rfl) rfl [.long (J x), .long (J 0), .long (J ((gi h 171 6) - 1))] [] rfl rfl (Nat.le_of_ble_eq_true rfl) (Nat.le_of_ble_eq_true rfl) (CLd_le (Nat.le_of_ble_eq_true rfl) (ctX11_in (by omega) (by omega) (by omega))) ?_
  rintro v9 h9 ⟨e9, ⟨rfl, i180, i280⟩ | ⟨rfl, i180⟩⟩ <;> rw [e9] <;> clear e9
  · refine x_if_eq 31 21 hK rfl rfl rfl (by omega) (fun c => by omega) (fun _ => ?_)
    refine x_iload_n 22 hK rfl rfl rfl ?_
    refine x_i2l 23 hK rfl rfl (by omega) ?_
    refine x_lconstE 24 0 hK rfl rfl rfl ?_
    refine x_lconstE 25 1 hK rfl rfl rfl ?_
    have hGp81 : GD gE gRL sh (wI h 171 0 0) := GD_w1 (hG) (r := 54) rfl (by omega) rfl (by omega) (by omega)
    refine x_callS 28 hK hmono rfl (Or.inl rfl) rfl [.long (J y), .long (J 0), .long (J 1)] [] rfl rfl (Nat.le_of_ble_eq_true rfl) (Nat.le_of_ble_eq_true rfl) (CLd_le (Nat.le_of_ble_eq_true rfl) (ctX11_in (by omega) (by omega) (by omega))) ?_
    rintro v9 h9 ⟨e9, ⟨rfl, i182, i282⟩ | ⟨rfl, i182⟩⟩ <;> rw [e9] <;> clear e9
    · refine x_if_ne 36 31 hK rfl rfl rfl (by omega) (fun _ => ?_) (fun c => by omega)
      refine x_iload_n 37 hK rfl rfl rfl ?_
      refine x_if_ne 49 40 hK rfl rfl rfl (by omega) (fun c21 => ?_) (fun c21 => ?_)
      · refine x_aload_n 50 hK rfl rfl rfl ?_
        refine x_getR 53 hK rfl rfl (sp_171 (h := h) hG) (rf_171_12 (h := h) hG) ?_
        refine x_iload_n 54 hK rfl rfl rfl ?_
        have g83 := gi_r h 176 x.toNat
        refine x_ialoadE 55 hK rfl rfl (sp_176 (h := h) hG) (by omega) (by omega) (by omega) (e' := (gi h 176 x.toNat)) (gi_a (by decide) _) ?_
        exact x_iret hK rfl ⟨Or.inl ⟨by omega, by first | rw [if_pos (by omega)] | rw [if_neg (by omega)], gi_same (by omega)⟩, GD_w1 (hG) (r := 54) rfl (by omega) rfl (by omega) (by omega), FRM_w ((FRM.rf : FRM gRL [(0, 54, 0, 0)] h h)) (r := 54) rfl rfl⟩
      · refine x_aload_n 41 hK rfl rfl rfl ?_
        refine x_getR 44 hK rfl rfl (sp_171 (h := h) hG) (rf_171_11 (h := h) hG) ?_
        refine x_iload_n 45 hK rfl rfl rfl ?_
        have g84 := grn (0) (999) hG (a := 175) (r := 58) (k := x.toNat) rfl rfl (by omega)
        refine x_ialoadE 46 hK rfl rfl (sp_175 (h := h) hG) (by omega) (by omega) (by omega) (e' := (gi h 175 x.toNat)) (gi_a (by decide) _) ?_
        refine x_goto 55 hK rfl rfl ?_
        exact x_iret hK rfl ⟨Or.inl ⟨by omega, by first | rw [if_pos (by omega)] | rw [if_neg (by omega)], gi_same (by omega)⟩, GD_w1 (hG) (r := 54) rfl (by omega) rfl (by omega) (by omega), FRM_w ((FRM.rf : FRM gRL [(0, 54, 0, 0)] h h)) (r := 54) rfl rfl⟩
    · refine x_if_ne 36 31 hK rfl rfl rfl (by omega) (fun c => by omega) (fun _ => ?_)
      refine x_aload_n 32 hK rfl rfl rfl ?_
      have hGp85 : GD gE gRL sh (wI h 171 0 0) := GD_w1 (hG) (r := 54) rfl (by omega) rfl (by omega) (by omega)
      refine x_callV 35 hK hmono rfl rfl [.ref 171] [] rfl rfl (Nat.le_of_ble_eq_true rfl) (Nat.le_of_ble_eq_true rfl) rfl (sp_171 (h := h) hG) (CLd_le (Nat.le_of_ble_eq_true rfl) (ctX11_refuse hSP hGp85)) ?_
      rintro v86 h86 ⟨rfl, hG86, hF86, t86⟩
      exact x_iret hK rfl ⟨Or.inr ⟨by omega, rfl, t86⟩, hG86, (FRM_w ((FRM.rf : FRM gRL [(0, 54, 0, 0)] h h)) (r := 54) rfl rfl).trans ((hF86).mono rfl)⟩
  · refine x_if_eq 31 21 hK rfl rfl rfl (by omega) (fun _ => ?_) (fun c => by omega)
    refine x_aload_n 32 hK rfl rfl rfl ?_
    have hGp87 : GD gE gRL sh (wI h 171 0 0) := GD_w1 (hG) (r := 54) rfl (by omega) rfl (by omega) (by omega)
    refine x_callV 35 hK hmono rfl rfl [.ref 171] [] rfl rfl (Nat.le_of_ble_eq_true rfl) (Nat.le_of_ble_eq_true rfl) rfl (sp_171 (h := h) hG) (CLd_le (Nat.le_of_ble_eq_true rfl) (ctX11_refuse hSP hGp87)) ?_
    rintro v88 h88 ⟨rfl, hG88, hF88, t88⟩
    exact x_iret hK rfl ⟨Or.inr ⟨by omega, rfl, t88⟩, hG88, (FRM_w ((FRM.rf : FRM gRL [(0, 54, 0, 0)] h h)) (r := 54) rfl rfl).trans ((hF88).mono rfl)⟩
