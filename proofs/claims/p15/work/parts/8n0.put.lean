/-! PUT BETWEEN BOUNDS -/
set_option maxRecDepth 4000 in
theorem ctX10_put {SP : CT} (hSP : MONO SP) {h : aH} {v a b : Int} (rv : r32 v) (ra : r32 a) (rb : r32 b) : CLd SP 1 mX10_put [.int (I v), .int (I a), .int (I b)] h 0 0 (fun rv h' => h' = h ∧ rv = some (.int (I (max a (min b v))))) := by
  refine x_met _ rfl (Nat.le_of_ble_eq_true rfl) (fun K hK => ?_)
  have hmono := MONO_CLd hSP 0
  refine x_iload_n 1 hK rfl rfl rfl ?_
  refine x_iload_n 2 hK rfl rfl rfl ?_
  refine x_iload_n 3 hK rfl rfl rfl ?_
  refine x_min 6 hK rfl rfl (Nat.le_of_ble_eq_true rfl) (by omega) (by omega) ?_
  refine x_max 9 hK rfl rfl (Nat.le_of_ble_eq_true rfl) (by omega) (by omega) ?_
  exact x_iret hK rfl ⟨rfl, rfl⟩
set_option maxRecDepth 4000 in
theorem ctX10_keepOnSea {SP : CT} (hSP : MONO SP) {h : aH} {v : Int} (rv : r32 v) : CLd SP 2 mX10_keepOnSea [.int (I v)] h 0 0 (fun rv h' => h' = h ∧ rv = some (.int (I (max 0 (min 8 v))))) := by
  refine x_met _ rfl (Nat.le_of_ble_eq_true rfl) (fun K hK => ?_)
  have hmono := MONO_CLd hSP 1
  refine x_iload_n 1 hK rfl rfl rfl ?_
  refine x_iconst 2 hK rfl rfl ?_
  refine x_bipush 4 hK rfl rfl rfl ?_
  refine x_callS 7 hK hmono rfl (Or.inl rfl) rfl [.int (I v), .int (I 0), .int (I 8)] [] rfl rfl (Nat.le_of_ble_eq_true rfl) (Nat.le_of_ble_eq_true rfl) (CLd_le (Nat.le_of_ble_eq_true rfl) (ctX10_put hSP (v := v) (a := 0) (b := 8) (by omega) (by omega) (by omega))) ?_
  rintro v9 h9 ⟨e9, rfl⟩
  rw [e9]
  clear e9
  exact x_iret hK rfl ⟨rfl, rfl⟩
