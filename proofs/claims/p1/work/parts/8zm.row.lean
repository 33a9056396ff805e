/-! A NUMBER OF THE ROW; NO ROCKS TOLD -/
set_option maxRecDepth 4000 in
theorem ctX11_rowF {SP : CT} (hSP : MONO SP) {sh : List (Nat × Nat)} {h : aH} (hG : GD gE gRL sh h) {x : Int} (rx : r32 x) : CLd SP 2 mX11_row [.ref 171, .int (I x)] h 0 0 (fun rv h' => (((0 ≤ x ∧ x < gi h 171 1) ∧ rv = some (.long (J (gj h 172 x.toNat))) ∧ gi h' 171 0 = 0) ∨ (¬ (0 ≤ x ∧ x < gi h 171 1) ∧ rv = some (.long (J 0)) ∧ gi h' 171 0 = 1)) ∧ GD gE gRL sh h' ∧ FRM gRL [(0, 54, 0, 0)] h h') := by
  refine x_met _ rfl (Nat.le_of_ble_eq_true rfl) (fun K hK => ?_)
  have hmono := MONO_CLd hSP 1
  have g1 := gri 0 40 hG (a := 171) (r := 54) (k := 1) rfl rfl
  refine x_aload_n 1 hK rfl rfl rfl ?_
  refine x_iconst 2 hK rfl rfl ?_
  refine x_putI 5 hK rfl rfl (sp_171 (h := h) hG) ?_
  refine x_iload_n 6 hK rfl rfl rfl ?_
  refine x_i2l 7 hK rfl rfl (by omega) ?_
  refine x_lconstE 8 0 hK rfl rfl rfl ?_
  refine x_aload_n 9 hK rfl rfl rfl ?_
  have g292 := gri (0) (40) hG (a := 171) (r := 54) (k := 1) rfl rfl
  refine x_getE 12 hK rfl (Or.inl rfl) rfl (sp_171 (h := h) hG) (e := (gi h 171 1)) (gi_k (by decide) _) ?_
  refine x_iconst 13 hK rfl rfl ?_
  refine x_isub 14 hK rfl rfl ?_
  refine x_i2l 15 hK rfl rfl (by omega) ?_
  have hGp293 : GD gE gRL sh (wI h 171 0 0) := GD_w1 (hG) (r := 54) rfl (by omega) rfl (by omega) (by omega)
  refine x_callS 18 hK hmono rfl (Or.inl rfl) rfl [.long (J x), .long (J 0), .long (J ((gi h 171 1) - 1))] [] rfl rfl (Nat.le_of_ble_eq_true rfl) (Nat.le_of_ble_eq_true rfl) (CLd_le (Nat.le_of_ble_eq_true rfl) (ctX11_in (by omega) (by omega) (by omega))) ?_
  rintro v9 h9 ⟨e9, ⟨rfl, i1294, i2294⟩ | ⟨rfl, i1294⟩⟩ <;> rw [e9] <;> clear e9
  · refine x_if_ne 28 21 hK rfl rfl rfl (by omega) (fun _ => ?_) (fun c => by omega)
    refine x_aload_n 29 hK rfl rfl rfl ?_
    refine x_getR 32 hK rfl rfl (sp_171 (h := h) hG) (rf_171_2 (h := h) hG) ?_
    refine x_iload_n 33 hK rfl rfl rfl ?_
    have g295 := gj_r h 172 x.toNat
    refine x_laloadE 34 hK rfl rfl (sp_172 (h := h) hG) (by omega) (by omega) (by omega) (e' := (gj h 172 x.toNat)) (rfl) ?_
    exact x_lret hK rfl ⟨Or.inl ⟨⟨by omega, by omega⟩, rfl, gi_same (by omega)⟩, GD_w1 (hG) (r := 54) rfl (by omega) rfl (by omega) (by omega), FRM_w ((FRM.rf : FRM gRL [(0, 54, 0, 0)] h h)) (r := 54) rfl rfl⟩
  · refine x_if_ne 28 21 hK rfl rfl rfl (by omega) (fun c => by omega) (fun _ => ?_)
    refine x_aload_n 22 hK rfl rfl rfl ?_
    refine x_iconst 23 hK rfl rfl ?_
    refine x_putI 26 hK rfl rfl (sp_171 (h := h) hG) ?_
    refine x_lconstE 27 0 hK rfl rfl rfl ?_
    exact x_lret hK rfl ⟨Or.inr ⟨by omega, rfl, gi_same (by omega)⟩, GD_w1 (GD_w1 (hG) (r := 54) rfl (by omega) rfl (by omega) (by omega)) (r := 54) rfl (by omega) rfl (by omega) (by omega), FRM_w (FRM_w ((FRM.rf : FRM gRL [(0, 54, 0, 0)] h h)) (r := 54) rfl rfl) (r := 54) rfl rfl⟩
set_option maxRecDepth 4000 in
theorem ctX10_rocks0 {SP : CT} (hSP : MONO SP) {sh : List (Nat × Nat)} {h : aH} (hG : GD gE gRL sh h) (h0 : gi h 1 1 = 0) : CLd SP 1 mX10_rocks [.ref 0] h 0 0 (fun rv h' => h' = h ∧ rv = some (.int (I 0))) := by
  refine x_met _ rfl (Nat.le_of_ble_eq_true rfl) (fun K hK => ?_)
  have hmono := MONO_CLd hSP 0
  refine x_aload_n 1 hK rfl rfl rfl ?_
  refine x_getR 4 hK rfl rfl (sp_0 (h := h) hG) (rf_0_0 (h := h) hG) ?_
  refine x_getE 7 hK rfl (Or.inl rfl) rfl (sp_1 (h := h) hG) (e := 0) (h0) ?_
  refine x_if_ne 12 10 hK rfl rfl rfl (by omega) (fun c => by omega) (fun _ => ?_)
  refine x_iconst 11 hK rfl rfl ?_
  exact x_iret hK rfl ⟨rfl, rfl⟩
theorem rkR_0 {f : Int → Int} {k : Int} : fltF 0 76 (rkR f 0 k).1 = 0 ∧ (rkR f 0 k).2.length = 0 := ⟨rfl, rfl⟩
theorem list_at {f g : Nat → Int} {n m : Nat} (h : (List.range n).map f = (List.range m).map g) : n = m ∧ ∀ j : Nat, j < n → f j = g j := by
  have e := congrArg List.length h
  rw [List.length_map, List.length_map, List.length_range, List.length_range] at e
  refine ⟨e, fun j hj => ?_⟩
  have z : ((List.range n).map f)[j]? = ((List.range m).map g)[j]? := by rw [h]
  rw [List.getElem?_map, List.getElem?_map, List.getElem?_range hj, List.getElem?_range (by omega)] at z
  exact Option.some.inj z
theorem rowR_J {sh : List (Nat × Nat)} {h : aH} (hG : GD gE gRL sh h) {i : Int} {o : Option Int} {v : Int64} (hR : rowR h i o) : rowR (sJ h 201 0 v) i o := by
  obtain ⟨b1, hb1, hR⟩ := hR
  obtain rfl : 3 = b1 := Option.some.inj ((rf_0_1 hG).symm.trans hb1)
  refine ⟨3, hb1, ?_⟩
  rcases hR with hR | ⟨hc, c, hcc, e⟩
  · exact Or.inl hR
  · obtain rfl : 4 = c := Option.some.inj ((rf_3_0 hG).symm.trans hcc)
    exact Or.inr ⟨hc, 4, hcc, e.trans (congrArg some (gj_a (h := h) (k := 0) (v := v) (show (4 : Nat) ≠ 201 by decide) i.toNat).symm)⟩
