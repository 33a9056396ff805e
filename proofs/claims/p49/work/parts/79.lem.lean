section
/-! SMALL LEMMAS; where the class's cells are -/
theorem gi_c {c : cH} {h : aH} (hr : REL c h) (a k : Nat) : gi h a k = (rI c.2.2.1 a k).toInt := congrArg Int32.toInt (hr.2.2.1 a k)
theorem mfn {M : MD} {k : Nat} {w r : Nat} (h : (!(mHas M w r k)) = true) : mHas M w r k = false := by simpa using h
theorem ov_at {h : aH} {o : OV} {a r k : Nat} (x : Int) (h5 : r < 500) (hr : gRL[a]? = some r) (g : gov gRL (fun _ => none) o h) (hx : ovG o r k (i0, i1) = (x, x)) : gi h a k = x := by
  have z := ovG_ok (rl := gRL) (sg := fun _ => none) (o := o) (h := h) (r := r) (a := a) (k := k) (d := (i0, i1)) (by unfold isr; rw [if_pos h5]; exact hr) ⟨i32_lo _, i32_hi _⟩ g
  rw [hx] at z
  exact Int.le_antisymm z.2 z.1
/-- the pointers of the class that never change -/
noncomputable def PT (h : aH) : Prop := (∀ k, k < 25 → aR h 135 k = some (136 + k)) ∧ (∀ k, k < 15 → aR h 34 k = some (37 + 5 * k) ∧ ∀ j, j < 4 → aR h (37 + 5 * k) (5 + j) = some (38 + 5 * k + j)) ∧ (∀ k, k < 3 → aR h 35 k = some (112 + 5 * k) ∧ ∀ j, j < 4 → aR h (112 + 5 * k) (5 + j) = some (113 + 5 * k + j)) ∧ (∀ k, k < 8 → aR h 162 k = some (163 + k)) ∧
  (aR h 5 3 = some 6 ∧ aR h 5 4 = some 7) ∧ (aR h 8 3 = some 9 ∧ aR h 8 4 = some 10) ∧ (aR h 11 0 = some 12 ∧ aR h 11 2 = some 13) ∧ aR h 14 0 = some 15 ∧ aR h 14 2 = some 16
noncomputable def PTOk (M : MD) : Bool := M.all fun q => !(Nat.beq q.1 2) || Nat.beq q.2.1 0
theorem PTOk_n {M : MD} (h : PTOk M = true) {r : Nat} (hr : r ≠ 0) (k : Nat) : mHas M 2 r k = false := by
  cases hc : mHas M 2 r k with
  | false => rfl
  | true =>
    obtain ⟨q, hq, h2⟩ := List.any_eq_true.mp hc
    have z := List.all_eq_true.mp h q hq
    simp only [Bool.and_eq_true, Nat.beq_eq] at h2
    obtain ⟨⟨⟨a1, a2⟩, a3⟩, a4⟩ := h2
    rw [a1, a2] at z
    simp at z
    exact absurd z hr
theorem pt_r1 : ∀ k, k < 25 → gRL[136 + k]? = some 50 := by decide
theorem pt_r2 : ∀ k, k < 15 → gRL[37 + 5 * k]? = some 31 ∧ gRL[38 + 5 * k]? = some 32 ∧ gRL[39 + 5 * k]? = some 33 ∧ gRL[40 + 5 * k]? = some 34 ∧ gRL[41 + 5 * k]? = some 35 := by decide
theorem pt_r3 : ∀ k, k < 3 → gRL[112 + 5 * k]? = some 36 ∧ gRL[113 + 5 * k]? = some 37 ∧ gRL[114 + 5 * k]? = some 38 ∧ gRL[115 + 5 * k]? = some 39 ∧ gRL[116 + 5 * k]? = some 40 := by decide
theorem PT_F {M : MD} {h h' : aH} (hF : FRM gRL M h h') (hm : PTOk M = true) (hc : PT h) : PT h' := by
  have e : ∀ {a r : Nat} (k : Nat), gRL[a]? = some r → r ≠ 0 → aR h' a k = aR h a k := fun k hr h0 => FRM_aR hF hr (PTOk_n hm h0 k)
  obtain ⟨c1, c2, c3, c4, ⟨c5, c6⟩, ⟨c7, c8⟩, ⟨c9, d1⟩, d2, d3⟩ := hc
  refine ⟨fun k hk => ?_, fun k hk => ⟨?_, fun j hj => ?_⟩, fun k hk => ⟨?_, fun j hj => ?_⟩, fun k hk => ?_, ⟨?_, ?_⟩, ⟨?_, ?_⟩, ⟨?_, ?_⟩, ?_, ?_⟩
  · rw [e (r := 49) k rfl (by decide)]; exact c1 k hk
  · rw [e (r := 28) k rfl (by decide)]; exact (c2 k hk).1
  · rw [e _ (pt_r2 k hk).1 (by decide)]; exact (c2 k hk).2 j hj
  · rw [e (r := 29) k rfl (by decide)]; exact (c3 k hk).1
  · rw [e _ (pt_r3 k hk).1 (by decide)]; exact (c3 k hk).2 j hj
  · rw [e (r := 52) k rfl (by decide)]; exact c4 k hk
  · rw [e (r := 5) 3 rfl (by decide)]; exact c5
  · rw [e (r := 5) 4 rfl (by decide)]; exact c6
  · rw [e (r := 5) 3 rfl (by decide)]; exact c7
  · rw [e (r := 5) 4 rfl (by decide)]; exact c8
  · rw [e (r := 8) 0 rfl (by decide)]; exact c9
  · rw [e (r := 8) 2 rfl (by decide)]; exact d1
  · rw [e (r := 8) 0 rfl (by decide)]; exact d2
  · rw [e (r := 8) 2 rfl (by decide)]; exact d3
theorem PT_J {h : aH} {v : Int64} (hc : PT h) : PT (sJ h 201 0 v) := hc
noncomputable def PTB (c : cH) : Bool := ((List.range 25).all fun k => decide (rR c.2.2.2 135 k = some (136 + k))) && (((List.range 15).all fun k => decide (rR c.2.2.2 34 k = some (37 + 5 * k)) && (List.range 4).all fun j => decide (rR c.2.2.2 (37 + 5 * k) (5 + j) = some (38 + 5 * k + j))) && (((List.range 3).all fun k => decide (rR c.2.2.2 35 k = some (112 + 5 * k)) && (List.range 4).all fun j => decide (rR c.2.2.2 (112 + 5 * k) (5 + j) = some (113 + 5 * k + j))) && (((List.range 8).all fun k => decide (rR c.2.2.2 162 k = some (163 + k))) && (decide (rR c.2.2.2 5 3 = some 6 ∧ rR c.2.2.2 5 4 = some 7 ∧ rR c.2.2.2 8 3 = some 9 ∧ rR c.2.2.2 8 4 = some 10 ∧ rR c.2.2.2 11 0 = some 12 ∧ rR c.2.2.2 11 2 = some 13 ∧ rR c.2.2.2 14 0 = some 15 ∧ rR c.2.2.2 14 2 = some 16)))))
theorem PT_0 {c : cH} {h : aH} (hr : REL c h) (hb : PTB c = true) : PT h := by
  have e : ∀ a k, aR h a k = rR c.2.2.2 a k := fun a k => hr.2.2.2.2.1 a k
  simp only [PTB, Bool.and_eq_true] at hb
  obtain ⟨b1, b2, b3, b4, b5⟩ := hb
  obtain ⟨c5, c6, c7, c8, c9, d1, d2, d3⟩ := of_decide_eq_true b5
  have r2 := fun k (hk : k < 15) => List.all_eq_true.mp b2 k (List.mem_range.mpr hk)
  have r3 := fun k (hk : k < 3) => List.all_eq_true.mp b3 k (List.mem_range.mpr hk)
  simp only [Bool.and_eq_true] at r2 r3
  refine ⟨fun k hk => (e _ _).trans (of_decide_eq_true (all_r b1 hk)), fun k hk => ⟨(e _ _).trans (of_decide_eq_true (r2 k hk).1), fun j hj => (e _ _).trans (of_decide_eq_true (all_r (r2 k hk).2 hj))⟩, fun k hk => ⟨(e _ _).trans (of_decide_eq_true (r3 k hk).1), fun j hj => (e _ _).trans (of_decide_eq_true (all_r (r3 k hk).2 hj))⟩, fun k hk => (e _ _).trans (of_decide_eq_true (all_r b4 hk)), ⟨(e _ _).trans c5, (e _ _).trans c6⟩, ⟨(e _ _).trans c7, (e _ _).trans c8⟩, ⟨(e _ _).trans c9, (e _ _).trans d1⟩, (e _ _).trans d2, (e _ _).trans d3⟩
end
section
/-! THE CLASS: its ROW as a list; mutinies -/
set_option maxRecDepth 4000 in
theorem ctX3_clear {SP : CT} (hSP : MONO SP) {sh : List (Nat × Nat)} {h : aH} (hG : GD gE gRL sh h) : CLd SP 1 mX3_clear [.ref 3] h 0 0 (fun rv h' => rv = none ∧ GD gE gRL sh h' ∧ FRM gRL [(0, 3, 1, 1)] h h' ∧ gi h' 3 1 = 0 ∧ crow h' = []) := by
  refine x_met _ rfl (Nat.le_of_ble_eq_true rfl) (fun K hK => ?_)
  have hmono := MONO_CLd hSP 0
  refine x_aload_n 1 hK rfl rfl rfl ?_
  refine x_iconst 2 hK rfl rfl ?_
  refine x_putI 5 hK rfl rfl (sp_3 (h := h) hG) ?_
  exact x_vret hK rfl ⟨rfl, GD_w1 (hG) (r := 3) rfl (by omega) rfl (by omega) (by omega), FRM_w ((FRM.rf : FRM gRL [(0, 3, 1, 1)] h h)) (r := 3) rfl rfl, gi_same (by omega), crow_0 (gi_same (by omega))⟩
set_option maxRecDepth 4000 in
theorem ctX3_add {SP : CT} (hSP : MONO SP) {sh : List (Nat × Nat)} {h : aH} (hG : GD gE gRL sh h) {v : Int} (hr : 0 ≤ gi h 3 1 ∧ gi h 3 1 ≤ 29) (hv : r64 v) : CLd SP 1 mX3_add [.ref 3, .long (J v)] h 0 0 (fun rv h' => rv = none ∧ GD gE gRL sh h' ∧ FRM gRL [(0, 3, 1, 1), (1, 4, 0, 29)] h h' ∧ gi h' 3 1 = gi h 3 1 + 1 ∧ crow h' = crow h ++ [v]) := by
  refine x_met _ rfl (Nat.le_of_ble_eq_true rfl) (fun K hK => ?_)
  have hmono := MONO_CLd hSP 0
  refine x_aload_n 1 hK rfl rfl rfl ?_
  have g49 := gri (0) (30) hG (a := 3) (r := 3) (k := 1) rfl rfl
  refine x_getE 4 hK rfl (Or.inl rfl) rfl (sp_3 (h := h) hG) (e := (gi h 3 1)) (rfl) ?_
  refine x_bipush 6 hK rfl rfl rfl ?_
  refine x_if_icmp_ge 29 9 hK rfl rfl rfl (by omega) (by omega) (fun c4 => ?_) (fun c4 => ?_)
  · exact absurd hr.2 (by omega)
  · refine x_aload_n 10 hK rfl rfl rfl ?_
    refine x_getR 13 hK rfl rfl (sp_3 (h := h) hG) (rf_3_0 (h := h) hG) ?_
    refine x_aload_n 14 hK rfl rfl rfl ?_
    refine x_getE 17 hK rfl (Or.inl rfl) rfl (sp_3 (h := h) hG) (e := (gi h 3 1)) (rfl) ?_
    refine x_lload_n 18 hK rfl rfl rfl ?_
    refine x_lastore 19 hK rfl rfl (sp_4 (h := h) hG) (by omega) (by omega) (by omega) ?_
    refine x_aload_n 20 hK rfl rfl rfl ?_
    refine x_dup 21 hK rfl rfl rfl ?_
    refine x_getE 24 hK rfl (Or.inl rfl) rfl (sp_3 (h := h) hG) (e := (gi h 3 1)) (rfl) ?_
    refine x_iconst 25 hK rfl rfl ?_
    refine x_iadd 26 hK rfl rfl ?_
    refine x_putI 29 hK rfl rfl (sp_3 (h := h) hG) ?_
    have e1 : gi (wI (sJ h 4 (gi h 3 1).toNat (J v)) 3 1 ((gi h 3 1) + 1)) 3 1 = gi h 3 1 + 1 := gi_same (by omega)
    exact x_vret hK rfl ⟨rfl, GD_w1 (GD_J (hG)) (r := 3) rfl (by omega) rfl (by omega) (by omega), FRM_w (FRM_Jn 0 29 ((FRM.rf : FRM gRL [(0, 3, 1, 1), (1, 4, 0, 29)] h h)) (r := 4) rfl rfl rfl (by omega) (by omega)) (r := 3) rfl rfl, e1, crow_snoc hr.1 e1 ((gj_same hv)) fun j hj => gj_k hj _⟩
set_option maxRecDepth 4000 in
theorem ctX3_tellOne {SP : CT} (hSP : MONO SP) {sh : List (Nat × Nat)} {h : aH} (hG : GD gE gRL sh h) {v : Int} (hv : r64 v) : CLd SP 2 mX3_tellOne [.ref 3, .long (J v)] h 0 0 (fun rv h' => rv = none ∧ GD gE gRL sh h' ∧ FRM gRL [(0, 3, 1, 1), (1, 4, 0, 29)] h h' ∧ gi h' 3 1 = 1 ∧ crow h' = [v]) := by
  refine x_met _ rfl (Nat.le_of_ble_eq_true rfl) (fun K hK => ?_)
  have hmono := MONO_CLd hSP 1
  refine x_aload_n 1 hK rfl rfl rfl ?_
  refine x_callV 4 hK hmono rfl rfl [.ref 3] [] rfl rfl (Nat.le_of_ble_eq_true rfl) (Nat.le_of_ble_eq_true rfl) rfl (sp_3 (h := h) hG) (CLd_le (Nat.le_of_ble_eq_true rfl) (ctX3_clear hSP hG)) ?_
  rintro v50 h50 ⟨rfl, hG50, hF50, t50, s50⟩
  refine x_aload_n 5 hK rfl rfl rfl ?_
  refine x_lload_n 6 hK rfl rfl rfl ?_
  have z52 : gi h50 3 1 = 0 := t50
  have z52r : crow h50 = [] := s50
  refine x_callV 9 hK hmono rfl rfl [.ref 3, .long (J v)] [] rfl rfl (Nat.le_of_ble_eq_true rfl) (Nat.le_of_ble_eq_true rfl) rfl (sp_3 (h := h50) hG50) (CLd_le (Nat.le_of_ble_eq_true rfl) (ctX3_add hSP hG50 (by omega) (by omega))) ?_
  rintro v51 h51 ⟨rfl, hG51, hF51, t51, s51⟩
  rw [z52] at t51
  rw [z52r] at s51
  replace t51 : gi h51 3 1 = 1 := t51
  change crow h51 = [v] at s51
  exact x_vret hK rfl ⟨rfl, hG51, ((hF50).mono rfl).trans ((hF51).mono rfl), t51, s51⟩
set_option maxRecDepth 4000 in
theorem ctX3_tellTwo {SP : CT} (hSP : MONO SP) {sh : List (Nat × Nat)} {h : aH} (hG : GD gE gRL sh h) {v w : Int} (hv : r64 v) (hw : r64 w) : CLd SP 2 mX3_tellTwo [.ref 3, .long (J v), .long (J w)] h 0 0 (fun rv h' => rv = none ∧ GD gE gRL sh h' ∧ FRM gRL [(0, 3, 1, 1), (1, 4, 0, 29)] h h' ∧ gi h' 3 1 = 2 ∧ crow h' = [v, w]) := by
  refine x_met _ rfl (Nat.le_of_ble_eq_true rfl) (fun K hK => ?_)
  have hmono := MONO_CLd hSP 1
  refine x_aload_n 1 hK rfl rfl rfl ?_
  refine x_callV 4 hK hmono rfl rfl [.ref 3] [] rfl rfl (Nat.le_of_ble_eq_true rfl) (Nat.le_of_ble_eq_true rfl) rfl (sp_3 (h := h) hG) (CLd_le (Nat.le_of_ble_eq_true rfl) (ctX3_clear hSP hG)) ?_
  rintro v53 h53 ⟨rfl, hG53, hF53, t53, s53⟩
  refine x_aload_n 5 hK rfl rfl rfl ?_
  refine x_lload_n 6 hK rfl rfl rfl ?_
  have z55 : gi h53 3 1 = 0 := t53
  have z55r : crow h53 = [] := s53
  refine x_callV 9 hK hmono rfl rfl [.ref 3, .long (J v)] [] rfl rfl (Nat.le_of_ble_eq_true rfl) (Nat.le_of_ble_eq_true rfl) rfl (sp_3 (h := h53) hG53) (CLd_le (Nat.le_of_ble_eq_true rfl) (ctX3_add hSP hG53 (by omega) (by omega))) ?_
  rintro v54 h54 ⟨rfl, hG54, hF54, t54, s54⟩
  rw [z55] at t54
  rw [z55r] at s54
  replace t54 : gi h54 3 1 = 1 := t54
  change crow h54 = [v] at s54
  refine x_aload_n 10 hK rfl rfl rfl ?_
  refine x_lload_n 11 hK rfl rfl rfl ?_
  have z57 : gi h54 3 1 = 1 := t54
  have z57r : crow h54 = [v] := s54
  refine x_callV 14 hK hmono rfl rfl [.ref 3, .long (J w)] [] rfl rfl (Nat.le_of_ble_eq_true rfl) (Nat.le_of_ble_eq_true rfl) rfl (sp_3 (h := h54) hG54) (CLd_le (Nat.le_of_ble_eq_true rfl) (ctX3_add hSP hG54 (by omega) (by omega))) ?_
  rintro v56 h56 ⟨rfl, hG56, hF56, t56, s56⟩
  rw [z57] at t56
  rw [z57r] at s56
  replace t56 : gi h56 3 1 = 2 := t56
  change crow h56 = [v, w] at s56
  exact x_vret hK rfl ⟨rfl, hG56, (((hF53).mono rfl).trans ((hF54).mono rfl)).trans ((hF56).mono rfl), t56, s56⟩
set_option maxRecDepth 4000 in
theorem ctX10_holdsThen {SP : CT} (hSP : MONO SP) {h : aH} {a x y v : Int} (ha : 0 ≤ a ∧ a ≤ 100) (hx : 0 ≤ x ∧ x ≤ 100) (hy : 0 ≤ y ∧ y ≤ 100) (hv : 0 ≤ v ∧ v ≤ 100) : CLd SP 1 mX10_holdsThen [.int (I a), .int (I x), .int (I y), .int (I v)] h 0 0 (fun rv h' => h' = h ∧ rv = some (.int (I (kps a x y v)))) := by
  refine x_met _ rfl (Nat.le_of_ble_eq_true rfl) (fun K hK => ?_)
  have hmono := MONO_CLd hSP 0
  refine x_iload_n 1 hK rfl rfl rfl ?_
  refine x_iload_n 2 hK rfl rfl rfl ?_
  refine x_iadd 3 hK rfl rfl ?_
  refine x_iload_n 4 hK rfl rfl rfl ?_
  refine x_if_icmp_lt 13 7 hK rfl rfl rfl (by omega) (by omega) (fun c5 => ?_) (fun c5 => ?_)
  · refine x_iload_n 14 hK rfl rfl rfl ?_
    refine x_iconst 15 hK rfl rfl ?_
    refine x_idivp 16 hK rfl rfl (by omega) (by omega) (by omega) (by omega) ?_
    exact x_iret hK rfl ⟨rfl, by rw [show kps a x y v = (a / 2) from if_neg (by omega)]⟩
  · refine x_iload_n 8 hK rfl rfl rfl ?_
    refine x_iload_n 9 hK rfl rfl rfl ?_
    refine x_isub 10 hK rfl rfl ?_
    refine x_goto 16 hK rfl rfl ?_
    exact x_iret hK rfl ⟨rfl, by rw [show kps a x y v = (a - x) from if_pos (by omega)]⟩
theorem rstB_no {a x y v : Int} : ∀ (n m : Nat), n ≤ m → rstB a x y v n = false → rstB a x y v m = false
  | n, 0, h, e => by rw [show n = 0 by omega] at e; cases e
  | n, m + 1, h, e => by
    by_cases c : n = m + 1
    · rw [← c]; exact e
    · show (rstB a x y v m && _) = false
      rw [rstB_no n m (by omega) e]; rfl
theorem rst_no {a x y v i : Int} (h0 : 0 ≤ i) (h1 : i ≤ min 9 a) (h : kps a x y v < kps a i y v) : rst a x y v = false := by
  refine rstB_no (i + 1).toNat _ (by omega) ?_
  rw [rstB_s h0, show decide (kps a i y v ≤ kps a x y v) = false from decide_eq_false (by omega), Bool.and_false]
theorem rstB_ye {a x y v i : Int} (h0 : 0 ≤ i) (e : rstB a x y v i.toNat = true) (h : ¬ kps a x y v < kps a i y v) : rstB a x y v (i + 1).toNat = true := by
  rw [rstB_s h0, e, show decide (kps a i y v ≤ kps a x y v) = true from decide_eq_true (by omega)]; rfl
set_option maxRecDepth 4000 in
theorem ctX10_wantsAnother {SP : CT} (hSP : MONO SP) {h : aH} {a x y v : Int} (ha : 0 ≤ a ∧ a ≤ 100) (hx : 0 ≤ x ∧ x ≤ 100) (hy : 0 ≤ y ∧ y ≤ 100) (hv : 0 ≤ v ∧ v ≤ 100) : CLd SP 2 mX10_wantsAnother [.int (I a), .int (I x), .int (I y), .int (I v)] h 0 0 (fun rv h' => h' = h ∧ rv = some (.int (I (b2i (!rst a x y v))))) := by
  refine x_met _ rfl (Nat.le_of_ble_eq_true rfl) (fun K hK => ?_)
  have hmono := MONO_CLd hSP 1
  have loop : ∀ (mz : Nat) (i : Int) (ls : List (Nat × Value)), ((min 9 a + 1 - i).toNat = mz) → (0 ≤ i ∧ i ≤ min 9 a + 1) → (rstB a x y v i.toNat = true) → lk ls 0 = some (.int (I a)) → lk ls 1 = some (.int (I x)) → lk ls 2 = some (.int (I y)) → lk ls 3 = some (.int (I v)) → lk ls 4 = some (.int (I (kps a x y v))) → lk ls 5 = some (.int (I i)) → K 12 ls [] h 0 0 := by
    intro mz
    induction mz using Nat.strongRecOn with
    | ind mz ih =>
    intro i ls hm i0 ee l0 l1 l2 l3 l4 l5
    have kk := kps_b a x y v (by omega) (by omega)
    refine x_iload 14 hK rfl rfl l5 ?_
    refine x_bipush 16 hK rfl rfl rfl ?_
    refine x_iload_n 17 hK rfl rfl l0 ?_
    refine x_min 20 hK rfl rfl (Nat.le_of_ble_eq_true rfl) (by omega) (by omega) ?_
    refine x_if_icmp_gt 44 23 hK rfl rfl rfl (by omega) (by omega) (fun c5 => ?_) (fun c5 => ?_)
    · refine x_iconst 45 hK rfl rfl ?_
      obtain rfl : i = min 9 a + 1 := by omega
      have er : rst a x y v = true := ee
      exact x_zret hK rfl (by omega) ⟨rfl, by rw [er]; rfl⟩
    · refine x_iload_n 24 hK rfl rfl l0 ?_
      refine x_iload 26 hK rfl rfl l5 ?_
      refine x_iload_n 27 hK rfl rfl l2 ?_
      refine x_iload_n 28 hK rfl rfl l3 ?_
      refine x_callS 31 hK hmono rfl (Or.inl rfl) rfl [.int (I a), .int (I i), .int (I y), .int (I v)] [] rfl rfl (Nat.le_of_ble_eq_true rfl) (Nat.le_of_ble_eq_true rfl) (CLd_le (Nat.le_of_ble_eq_true rfl) (ctX10_holdsThen hSP (by omega) (by omega) (by omega) (by omega))) ?_
      rintro v9 h9 ⟨e9, rfl⟩
      rw [e9]
      clear e9
      have kb58 := kps_b a i y v (by omega) (by omega)
      refine x_iload 33 hK rfl rfl l4 ?_
      refine x_if_icmp_le 38 36 hK rfl rfl rfl (by omega) (by omega) (fun c14 => ?_) (fun c14 => ?_)
      · refine x_iinc 41 hK rfl rfl l5 _ rfl ?_
        refine x_goto 12 hK rfl rfl ?_
        exact ih _ (by omega) (i + 1) _ rfl (by omega) (rstB_ye i0.1 ee (by omega)) (lk1_n l0 (by decide) (Or.inl rfl)) (lk1_n l1 (by decide) (Or.inl rfl)) (lk1_n l2 (by decide) (Or.inl rfl)) (lk1_n l3 (by decide) (Or.inl rfl)) (lk1_n l4 (by decide) (Or.inl rfl)) lk1_s
      · refine x_iconst 37 hK rfl rfl ?_
        exact x_zret hK rfl (by omega) ⟨rfl, by rw [rst_no (i := i) i0.1 (by omega) (by omega)]; rfl⟩
  refine x_iload_n 1 hK rfl rfl rfl ?_
  refine x_iload_n 2 hK rfl rfl rfl ?_
  refine x_iload_n 3 hK rfl rfl rfl ?_
  refine x_iload_n 4 hK rfl rfl rfl ?_
  refine x_callS 7 hK hmono rfl (Or.inl rfl) rfl [.int (I a), .int (I x), .int (I y), .int (I v)] [] rfl rfl (Nat.le_of_ble_eq_true rfl) (Nat.le_of_ble_eq_true rfl) (CLd_le (Nat.le_of_ble_eq_true rfl) (ctX10_holdsThen hSP (by omega) (by omega) (by omega) (by omega))) ?_
  rintro v9 h9 ⟨e9, rfl⟩
  rw [e9]
  clear e9
  have kb59 := kps_b a x y v (by omega) (by omega)
  refine x_istore 9 hK rfl rfl [(4, .int (I (kps a x y v))), (0, .int (I a)), (1, .int (I x)), (2, .int (I y)), (3, .int (I v))] rfl ?_
  refine x_iconst 10 hK rfl rfl ?_
  refine x_istore 12 hK rfl rfl [(5, .int (I 0)), (4, .int (I (kps a x y v))), (0, .int (I a)), (1, .int (I x)), (2, .int (I y)), (3, .int (I v))] rfl ?_
  exact loop _ 0 _ rfl (by omega) (rfl) rfl rfl rfl rfl rfl rfl
theorem nand_no {p q : Bool} (h : ¬ b2i (!p) = 0 ∨ ¬ b2i (!q) = 0) : (p && q) = false := by cases p <;> cases q <;> simp_all [b2i]
theorem nand_ye {p q : Bool} (h : b2i (!p) = 0) (h' : b2i (!q) = 0) : (p && q) = true := by cases p <;> cases q <;> simp_all [b2i]
set_option maxRecDepth 4000 in
theorem ctX10_mutiny {SP : CT} (hSP : MONO SP) {sh : List (Nat × Nat)} {h : aH} (hG : GD gE gRL sh h) {a b v : Int} (ra : r32 a) (rb : r32 b) (rv : r32 v) : CLd SP 5 mX10_mutiny [.ref 0, .int (I a), .int (I b), .int (I v)] h 0 0 (fun rv h' => ((((1 ≤ a ∧ a ≤ 20) ∧ (1 ≤ b ∧ b ≤ 20) ∧ 1 ≤ v ∧ v ≤ 18) ∧ rv = some (.int (I ((mtX a b v (min 9 a + 1).toNat).length : Nat))) ∧ crow h' = mtR (mtX a b v (min 9 a + 1).toNat)) ∨ (¬ ((1 ≤ a ∧ a ≤ 20) ∧ (1 ≤ b ∧ b ≤ 20) ∧ 1 ≤ v ∧ v ≤ 18) ∧ rv = some (.int (I (-1))) ∧ crow h' = crow h)) ∧ GD gE gRL sh h' ∧ FRM gRL [(0, 3, 1, 1), (1, 4, 0, 29)] h h') := by
  refine x_met _ rfl (Nat.le_of_ble_eq_true rfl) (fun K hK => ?_)
  have hmono := MONO_CLd hSP 4
  have loopX : ∀ (mz : Nat) (f x : Int) (h3 : aH) (ls : List (Nat × Value)), ((min 9 a + 1 - x).toNat = mz) → ((1 ≤ a ∧ a ≤ 20) ∧ (1 ≤ b ∧ b ≤ 20) ∧ 1 ≤ v ∧ v ≤ 18) → (0 ≤ x ∧ x ≤ min 9 a + 1) → (f = ((mtX a b v x.toNat).length : Nat)) → (crow h3 = mtR (mtX a b v x.toNat)) → lk ls 0 = some (.ref 0) → lk ls 1 = some (.int (I a)) → lk ls 2 = some (.int (I b)) → lk ls 3 = some (.int (I v)) → lk ls 4 = some (.int (I f)) → lk ls 5 = some (.int (I x)) → GD gE gRL sh h3 → FRM gRL [(0, 3, 1, 1), (1, 4, 0, 29)] h h3 → K 48 ls [] h3 0 0 := by
    intro mz
    induction mz using Nat.strongRecOn with
    | ind mz ih =>
    intro f x h3 ls hm q0 x0 fe e3 l0 l1 l2 l3 l4 l5 hG3 hF3
    have ihX := ih
    have lx := mtX_l a b v x.toNat
    have loopY : ∀ (mz : Nat) (f y : Int) (h4 : aH) (ls : List (Nat × Value)), ((min 9 b + 1 - y).toNat = mz) → (x ≤ min 9 a) → (0 ≤ y ∧ y ≤ min 9 b + 1) → (f = ((mtX a b v x.toNat ++ mtY a b v x.toNat y.toNat).length : Nat)) → (crow h4 = mtR (mtX a b v x.toNat ++ mtY a b v x.toNat y.toNat)) → lk ls 0 = some (.ref 0) → lk ls 1 = some (.int (I a)) → lk ls 2 = some (.int (I b)) → lk ls 3 = some (.int (I v)) → lk ls 4 = some (.int (I f)) → lk ls 5 = some (.int (I x)) → lk ls 6 = some (.int (I y)) → GD gE gRL sh h4 → FRM gRL [(0, 3, 1, 1), (1, 4, 0, 29)] h h4 → K 62 ls [] h4 0 0 := by
      intro mz
      induction mz using Nat.strongRecOn with
      | ind mz ih =>
      intro f y h4 ls hm x1 y0 fe e4 l0 l1 l2 l3 l4 l5 l6 hG4 hF4
      have ly := mtY_l a b v x.toNat y.toNat
      have fl : (mtX a b v x.toNat ++ mtY a b v x.toNat y.toNat).length ≤ 110 := by rw [List.length_append]; omega
      have ys : ∀ c : Bool, mtOk a b v x.toNat y.toNat = c → (mtX a b v x.toNat ++ mtY a b v x.toNat (y + 1).toNat) = (mtX a b v x.toNat ++ mtY a b v x.toNat y.toNat) ++ if c then [(x, y)] else [] := by
        intro c hc
        rw [tn_s y0.1]
        show mtX a b v x.toNat ++ (mtY a b v x.toNat y.toNat ++ if mtOk a b v x.toNat y.toNat then [((x.toNat : Int), (y.toNat : Int))] else []) = _
        rw [hc, tn_c x0.1, tn_c y0.1, List.append_assoc]
      have ok : mtOk a b v x.toNat y.toNat = (rst a x y v && rst b y x v) := by show (rst a (x.toNat : Int) (y.toNat : Int) v && rst b (y.toNat : Int) (x.toNat : Int) v) = _; rw [tn_c x0.1, tn_c y0.1]
      refine x_iload 64 hK rfl rfl l6 ?_
      refine x_bipush 66 hK rfl rfl rfl ?_
      refine x_iload_n 67 hK rfl rfl l2 ?_
      refine x_min 70 hK rfl rfl (Nat.le_of_ble_eq_true rfl) (by omega) (by omega) ?_
      refine x_if_icmp_gt 124 73 hK rfl rfl rfl (by omega) (by omega) (fun c5 => ?_) (fun c5 => ?_)
      · obtain rfl : y = min 9 b + 1 := by omega
        refine x_iinc 127 hK rfl rfl l5 _ rfl ?_
        refine x_goto 48 hK rfl rfl ?_
        exact ihX _ (by omega) f (x + 1) _ _ rfl (q0) (by omega) (by rw [tn_s x0.1]; exact fe) (by rw [tn_s x0.1]; exact e4) (lk1_n l0 (by decide) (Or.inl rfl)) (lk1_n l1 (by decide) (Or.inl rfl)) (lk1_n l2 (by decide) (Or.inl rfl)) (lk1_n l3 (by decide) (Or.inl rfl)) (lk1_n l4 (by decide) (Or.inl rfl)) lk1_s (hG4) (hF4)
      · refine x_iload_n 74 hK rfl rfl l1 ?_
        refine x_iload 76 hK rfl rfl l5 ?_
        refine x_iload 78 hK rfl rfl l6 ?_
        refine x_iload_n 79 hK rfl rfl l3 ?_
        refine x_callS 82 hK hmono rfl (Or.inl rfl) rfl [.int (I a), .int (I x), .int (I y), .int (I v)] [] rfl rfl (Nat.le_of_ble_eq_true rfl) (Nat.le_of_ble_eq_true rfl) (CLd_le (Nat.le_of_ble_eq_true rfl) (ctX10_wantsAnother hSP (by omega) (by omega) (by omega) (by omega))) ?_
        rintro v9 h9 ⟨e9, rfl⟩
        rw [e9]
        clear e9
        have rb60 := b2i_r (!rst a x y v)
        refine x_if_ne 118 85 hK rfl rfl rfl (by omega) (fun c15 => ?_) (fun c15 => ?_)
        · refine x_iinc 121 hK rfl rfl l6 _ rfl ?_
          refine x_goto 62 hK rfl rfl ?_
          have ys0 := ys false (by rw [ok]; exact nand_no (by first | exact Or.inl (by omega) | exact Or.inr (by omega)))
          rw [show (if false = true then [(x, y)] else []) = ([] : List (Int × Int)) from rfl, List.append_nil] at ys0
          exact ih _ (by omega) f (y + 1) _ _ rfl (by omega) (by omega) (by rw [ys0]; exact fe) (by rw [ys0]; exact e4) (lk1_n l0 (by decide) (Or.inl rfl)) (lk1_n l1 (by decide) (Or.inl rfl)) (lk1_n l2 (by decide) (Or.inl rfl)) (lk1_n l3 (by decide) (Or.inl rfl)) (lk1_n l4 (by decide) (Or.inl rfl)) (lk1_n l5 (by decide) (Or.inl rfl)) lk1_s (hG4) (hF4)
        · refine x_iload_n 86 hK rfl rfl l2 ?_
          refine x_iload 88 hK rfl rfl l6 ?_
          refine x_iload 90 hK rfl rfl l5 ?_
          refine x_iload_n 91 hK rfl rfl l3 ?_
          refine x_callS 94 hK hmono rfl (Or.inl rfl) rfl [.int (I b), .int (I y), .int (I x), .int (I v)] [] rfl rfl (Nat.le_of_ble_eq_true rfl) (Nat.le_of_ble_eq_true rfl) (CLd_le (Nat.le_of_ble_eq_true rfl) (ctX10_wantsAnother hSP (by omega) (by omega) (by omega) (by omega))) ?_
          rintro v9 h9 ⟨e9, rfl⟩
          rw [e9]
          clear e9
          have rb61 := b2i_r (!rst b y x v)
          refine x_if_ne 118 97 hK rfl rfl rfl (by omega) (fun c24 => ?_) (fun c24 => ?_)
          · refine x_iinc 121 hK rfl rfl l6 _ rfl ?_
            refine x_goto 62 hK rfl rfl ?_
            have ys0 := ys false (by rw [ok]; exact nand_no (by first | exact Or.inl (by omega) | exact Or.inr (by omega)))
            rw [show (if false = true then [(x, y)] else []) = ([] : List (Int × Int)) from rfl, List.append_nil] at ys0
            exact ih _ (by omega) f (y + 1) _ _ rfl (by omega) (by omega) (by rw [ys0]; exact fe) (by rw [ys0]; exact e4) (lk1_n l0 (by decide) (Or.inl rfl)) (lk1_n l1 (by decide) (Or.inl rfl)) (lk1_n l2 (by decide) (Or.inl rfl)) (lk1_n l3 (by decide) (Or.inl rfl)) (lk1_n l4 (by decide) (Or.inl rfl)) (lk1_n l5 (by decide) (Or.inl rfl)) lk1_s (hG4) (hF4)
          · refine x_iload 99 hK rfl rfl l4 ?_
            refine x_if_ne 115 102 hK rfl rfl rfl (by omega) (fun c29 => ?_) (fun c29 => ?_)
            · refine x_iinc 118 hK rfl rfl l4 _ rfl ?_
              refine x_iinc 121 hK rfl rfl (lk1_n l6 (by decide) (Or.inl rfl)) _ rfl ?_
              refine x_goto 62 hK rfl rfl ?_
              have ys1 := ys true (by rw [ok]; exact nand_ye (by omega) (by omega))
              rw [if_pos rfl] at ys1
              have ne : (mtX a b v x.toNat ++ mtY a b v x.toNat y.toNat) ≠ [] := fun z => by rw [z] at fe; exact absurd fe (by simp only [List.length_nil]; omega)
              exact ih _ (by omega) (f + 1) (y + 1) _ _ rfl (by omega) (by omega) (by rw [ys1, List.length_append, fe]; simp) (by rw [ys1, mtR_a ne]; exact e4) (lk1_n (lk1_n l0 (by decide) (Or.inl rfl)) (by decide) (Or.inl rfl)) (lk1_n (lk1_n l1 (by decide) (Or.inl rfl)) (by decide) (Or.inl rfl)) (lk1_n (lk1_n l2 (by decide) (Or.inl rfl)) (by decide) (Or.inl rfl)) (lk1_n (lk1_n l3 (by decide) (Or.inl rfl)) (by decide) (Or.inl rfl)) (lk1_n lk1_s (by decide) (Or.inl rfl)) (lk1_n (lk1_n l5 (by decide) (Or.inl rfl)) (by decide) (Or.inl rfl)) lk1_s (hG4) (hF4)
            · refine x_aload_n 103 hK rfl rfl l0 ?_
              refine x_getR 106 hK rfl rfl (sp_0 (h := h4) hG4) (rf_0_1 (h := h4) hG4) ?_
              refine x_iload 108 hK rfl rfl l5 ?_
              refine x_i2l 109 hK rfl rfl (by omega) ?_
              refine x_iload 111 hK rfl rfl l6 ?_
              refine x_i2l 112 hK rfl rfl (by omega) ?_
              refine x_callV 115 hK hmono rfl rfl [.ref 3, .long (J x), .long (J y)] [] rfl rfl (Nat.le_of_ble_eq_true rfl) (Nat.le_of_ble_eq_true rfl) rfl (sp_3 (h := h4) hG4) (CLd_le (Nat.le_of_ble_eq_true rfl) (ctX3_tellTwo hSP hG4 (by omega) (by omega))) ?_
              rintro v62 h62 ⟨rfl, hG62, hF62, t62, s62⟩
              refine x_iinc 118 hK rfl rfl l4 _ rfl ?_
              refine x_iinc 121 hK rfl rfl (lk1_n l6 (by decide) (Or.inl rfl)) _ rfl ?_
              refine x_goto 62 hK rfl rfl ?_
              have ys1 := ys true (by rw [ok]; exact nand_ye (by omega) (by omega))
              rw [if_pos rfl] at ys1
              have ne : (mtX a b v x.toNat ++ mtY a b v x.toNat y.toNat) = [] := len0.mp (by omega)
              rw [ne, List.nil_append] at ys1
              exact ih _ (by omega) (f + 1) (y + 1) _ _ rfl (by omega) (by omega) (by rw [ys1]; show f + 1 = 1; omega) (by rw [ys1]; exact s62) (lk1_n (lk1_n l0 (by decide) (Or.inl rfl)) (by decide) (Or.inl rfl)) (lk1_n (lk1_n l1 (by decide) (Or.inl rfl)) (by decide) (Or.inl rfl)) (lk1_n (lk1_n l2 (by decide) (Or.inl rfl)) (by decide) (Or.inl rfl)) (lk1_n (lk1_n l3 (by decide) (Or.inl rfl)) (by decide) (Or.inl rfl)) (lk1_n lk1_s (by decide) (Or.inl rfl)) (lk1_n (lk1_n l5 (by decide) (Or.inl rfl)) (by decide) (Or.inl rfl)) lk1_s (hG62) ((hF4).trans ((hF62).mono rfl))
    refine x_iload 50 hK rfl rfl l5 ?_
    refine x_bipush 52 hK rfl rfl rfl ?_
    refine x_iload_n 53 hK rfl rfl l1 ?_
    refine x_min 56 hK rfl rfl (Nat.le_of_ble_eq_true rfl) (by omega) (by omega) ?_
    refine x_if_icmp_gt 130 59 hK rfl rfl rfl (by omega) (by omega) (fun c5 => ?_) (fun c5 => ?_)
    · refine x_iload 132 hK rfl rfl l4 ?_
      obtain rfl : x = min 9 a + 1 := by omega
      exact x_iret hK rfl ⟨Or.inl ⟨q0, by rw [fe], e3⟩, hG3, hF3⟩
    · refine x_iconst 60 hK rfl rfl ?_
      refine x_istore 62 hK rfl rfl _ rfl ?_
      exact loopY _ f 0 _ _ rfl (by omega) (by omega) (by rw [fe]; simp [mtY]) (by rw [e3]; simp [mtY]) (lk1_n l0 (by decide) (Or.inl rfl)) (lk1_n l1 (by decide) (Or.inl rfl)) (lk1_n l2 (by decide) (Or.inl rfl)) (lk1_n l3 (by decide) (Or.inl rfl)) (lk1_n l4 (by decide) (Or.inl rfl)) (lk1_n l5 (by decide) (Or.inl rfl)) lk1_s (hG3) (hF3)
  refine x_iload_n 1 hK rfl rfl rfl ?_
  refine x_iconst 2 hK rfl rfl ?_
  refine x_if_icmp_lt 33 5 hK rfl rfl rfl (by omega) (by omega) (fun c3 => ?_) (fun c3 => ?_)
  · refine x_iconst 34 hK rfl rfl ?_
    exact x_iret hK rfl ⟨Or.inr ⟨by omega, rfl, rfl⟩, hG, (FRM.rf : FRM gRL [(0, 3, 1, 1), (1, 4, 0, 29)] h h)⟩
  · refine x_iload_n 6 hK rfl rfl rfl ?_
    refine x_bipush 8 hK rfl rfl rfl ?_
    refine x_if_icmp_gt 33 11 hK rfl rfl rfl (by omega) (by omega) (fun c8 => ?_) (fun c8 => ?_)
    · refine x_iconst 34 hK rfl rfl ?_
      exact x_iret hK rfl ⟨Or.inr ⟨by omega, rfl, rfl⟩, hG, (FRM.rf : FRM gRL [(0, 3, 1, 1), (1, 4, 0, 29)] h h)⟩
    · refine x_iload_n 12 hK rfl rfl rfl ?_
      refine x_iconst 13 hK rfl rfl ?_
      refine x_if_icmp_lt 33 16 hK rfl rfl rfl (by omega) (by omega) (fun c13 => ?_) (fun c13 => ?_)
      · refine x_iconst 34 hK rfl rfl ?_
        exact x_iret hK rfl ⟨Or.inr ⟨by omega, rfl, rfl⟩, hG, (FRM.rf : FRM gRL [(0, 3, 1, 1), (1, 4, 0, 29)] h h)⟩
      · refine x_iload_n 17 hK rfl rfl rfl ?_
        refine x_bipush 19 hK rfl rfl rfl ?_
        refine x_if_icmp_gt 33 22 hK rfl rfl rfl (by omega) (by omega) (fun c18 => ?_) (fun c18 => ?_)
        · refine x_iconst 34 hK rfl rfl ?_
          exact x_iret hK rfl ⟨Or.inr ⟨by omega, rfl, rfl⟩, hG, (FRM.rf : FRM gRL [(0, 3, 1, 1), (1, 4, 0, 29)] h h)⟩
        · refine x_iload_n 23 hK rfl rfl rfl ?_
          refine x_iconst 24 hK rfl rfl ?_
          refine x_if_icmp_lt 33 27 hK rfl rfl rfl (by omega) (by omega) (fun c23 => ?_) (fun c23 => ?_)
          · refine x_iconst 34 hK rfl rfl ?_
            exact x_iret hK rfl ⟨Or.inr ⟨by omega, rfl, rfl⟩, hG, (FRM.rf : FRM gRL [(0, 3, 1, 1), (1, 4, 0, 29)] h h)⟩
          · refine x_iload_n 28 hK rfl rfl rfl ?_
            refine x_bipush 30 hK rfl rfl rfl ?_
            refine x_if_icmp_le 35 33 hK rfl rfl rfl (by omega) (by omega) (fun c28 => ?_) (fun c28 => ?_)
            · refine x_aload_n 36 hK rfl rfl rfl ?_
              refine x_getR 39 hK rfl rfl (sp_0 (h := h) hG) (rf_0_1 (h := h) hG) ?_
              refine x_callV 42 hK hmono rfl rfl [.ref 3] [] rfl rfl (Nat.le_of_ble_eq_true rfl) (Nat.le_of_ble_eq_true rfl) rfl (sp_3 (h := h) hG) (CLd_le (Nat.le_of_ble_eq_true rfl) (ctX3_clear hSP hG)) ?_
              rintro v63 h63 ⟨rfl, hG63, hF63, t63, s63⟩
              refine x_iconst 43 hK rfl rfl ?_
              refine x_istore 45 hK rfl rfl [(4, .int (I 0)), (0, .ref 0), (1, .int (I a)), (2, .int (I b)), (3, .int (I v))] rfl ?_
              refine x_iconst 46 hK rfl rfl ?_
              refine x_istore 48 hK rfl rfl [(5, .int (I 0)), (4, .int (I 0)), (0, .ref 0), (1, .int (I a)), (2, .int (I b)), (3, .int (I v))] rfl ?_
              exact loopX _ 0 0 _ _ rfl (by omega) (by omega) (rfl) (s63) rfl rfl rfl rfl rfl rfl (hG63) ((hF63).mono rfl)
            · refine x_iconst 34 hK rfl rfl ?_
              exact x_iret hK rfl ⟨Or.inr ⟨by omega, rfl, rfl⟩, hG, (FRM.rf : FRM gRL [(0, 3, 1, 1), (1, 4, 0, 29)] h h)⟩
end
section
/-! WORDS THAT SURVIVE -/
noncomputable def pwF (x : Int) : Nat → Int
  | 0 => 1
  | n + 1 => pwF x n * x
theorem pwF_s {x i : Int} (h : 0 ≤ i) : pwF x (i + 1).toNat = pwF x i.toNat * x := by rw [tn_s h]; rfl
theorem pw_ten : ∀ n, pwF 10 n = tenN n
  | 0 => rfl
  | n + 1 => by show pwF 10 n * 10 = tenN n * 10; rw [pw_ten n]
/-- what the class adds up: by how many rows turn the word round -/
noncomputable def lkS (k p : Int) : Nat → Int
  | 0 => 0
  | t + 1 => lkS k p t + btB k t * pwF p t * pwF (10 - p) (k - t).toNat
theorem lkS_s {k p t : Int} (h : 0 ≤ t) : lkS k p (t + 1).toNat = lkS k p t.toNat + btB k t.toNat * pwF p t.toNat * pwF (10 - p) (k - t).toNat := by
  rw [tn_s h]
  show lkS k p t.toNat + btB k t.toNat * pwF p t.toNat * pwF (10 - p) (k - (t.toNat : Int)).toNat = _
  rw [tn_c h]
theorem lk_bt : ((List.range 16).all fun k => (List.range 11).all fun p => k % 2 == 0 || decide (lkS k p (k / 2 + 1) = btS k p ((k + 1) / 2) ∧ 0 ≤ btS k p ((k + 1) / 2) ∧ btS k p ((k + 1) / 2) ≤ tenN k)) = true := by decide +kernel
theorem lk_bd {k p : Int} (hk : 1 ≤ k ∧ k ≤ 15) (ho : k % 2 = 1) (hp : 0 ≤ p ∧ p ≤ 10) : lkS k p (k / 2 + 1).toNat = btS k p ((k + 1) / 2).toNat ∧ 0 ≤ btS k p ((k + 1) / 2).toNat ∧ btS k p ((k + 1) / 2).toNat ≤ tenN k.toNat := by
  have z := all_r (all_r lk_bt (i := k.toNat) (by omega)) (i := p.toNat) (by omega)
  rw [Bool.or_eq_true, beq_iff_eq] at z
  rcases z with z | z
  · omega
  · have z := of_decide_eq_true z
    rw [tn_c (by omega), tn_c hp.1] at z
    rw [show (k / 2 + 1).toNat = k.toNat / 2 + 1 by omega, show ((k + 1) / 2).toNat = (k.toNat + 1) / 2 by omega]
    exact z
set_option maxRecDepth 4000 in
theorem ctX10_power {SP : CT} (hSP : MONO SP) {h : aH} {x n : Int} (hn : 0 ≤ n ∧ n ≤ 100) : CLd SP 1 mX10_power [.long (J x), .int (I n)] h 0 0 (fun rv h' => h' = h ∧ rv = some (.long (J (pwF x n.toNat)))) := by
  refine x_met _ rfl (Nat.le_of_ble_eq_true rfl) (fun K hK => ?_)
  have hmono := MONO_CLd hSP 0
  have loop : ∀ (mz : Nat) (e i : Int) (ls : List (Nat × Value)), ((n - i).toNat = mz) → (0 ≤ i ∧ i ≤ n) → (e = pwF x i.toNat) → lk ls 0 = some (.long (J x)) → lk ls 2 = some (.int (I n)) → lk ls 3 = some (.long (J e)) → lk ls 5 = some (.int (I i)) → K 5 ls [] h 0 0 := by
    intro mz
    induction mz using Nat.strongRecOn with
    | ind mz ih =>
    intro e i ls hm i0 ee l0 l2 l3 l5
    refine x_iload 7 hK rfl rfl l5 ?_
    refine x_iload_n 8 hK rfl rfl l2 ?_
    refine x_if_icmp_ge 21 11 hK rfl rfl rfl (by omega) (by omega) (fun c3 => ?_) (fun c3 => ?_)
    · refine x_lload_n 22 hK rfl rfl l3 ?_
      exact x_lret hK rfl ⟨rfl, by rw [ee, show i = n by omega]⟩
    · refine x_lload_n 12 hK rfl rfl l3 ?_
      refine x_lload_n 13 hK rfl rfl l0 ?_
      refine x_lmul 14 hK rfl rfl ?_
      refine x_lstore_n 15 hK rfl rfl _ rfl ?_
      refine x_iinc 18 hK rfl rfl (lk2_n l5 (by decide) (by decide) (Or.inl rfl)) _ rfl ?_
      refine x_goto 5 hK rfl rfl ?_
      exact ih _ (by omega) (e * x) (i + 1) _ rfl (by omega) (by rw [pwF_s i0.1, ← ee]) (lk1_n (lk2_n l0 (by decide) (by decide) (Or.inr (by decide))) (by decide) (Or.inr (by decide))) (lk1_n (lk2_n l2 (by decide) (by decide) (Or.inl rfl)) (by decide) (Or.inl rfl)) (lk1_n lk2_s (by decide) (Or.inr (by decide))) lk1_s
  refine x_lconstE 1 1 hK rfl rfl rfl ?_
  refine x_lstore_n 2 hK rfl rfl [(3, .long (J 1)), (0, .long (J x)), (2, .int (I n))] rfl ?_
  refine x_iconst 3 hK rfl rfl ?_
  refine x_istore 5 hK rfl rfl [(5, .int (I 0)), (3, .long (J 1)), (0, .long (J x)), (2, .int (I n))] rfl ?_
  exact loop _ 1 0 _ rfl (by omega) (rfl) rfl rfl rfl rfl
set_option maxRecDepth 4000 in
theorem ctX10_likelyWord {SP : CT} (hSP : MONO SP) {h : aH} {k p : Int} (hk : 1 ≤ k ∧ k ≤ 15) (hp : 0 ≤ p ∧ p ≤ 10) : CLd SP 2 mX10_likelyWord [.int (I k), .int (I p)] h 0 0 (fun rv h' => h' = h ∧ rv = some (.long (J (lkS k p (k / 2 + 1).toNat)))) := by
  refine x_met _ rfl (Nat.le_of_ble_eq_true rfl) (fun K hK => ?_)
  have hmono := MONO_CLd hSP 1
  have loop : ∀ (mz : Nat) (e w t : Int) (ls : List (Nat × Value)), ((k / 2 + 1 - t).toNat = mz) → (0 ≤ t ∧ t ≤ k / 2 + 1) → (e = lkS k p t.toNat) → (w = btB k t.toNat) → lk ls 0 = some (.int (I k)) → lk ls 1 = some (.int (I p)) → lk ls 2 = some (.long (J e)) → lk ls 4 = some (.long (J w)) → lk ls 6 = some (.int (I t)) → K 8 ls [] h 0 0 := by
    intro mz
    induction mz using Nat.strongRecOn with
    | ind mz ih =>
    intro e w t ls hm t0 ee ew l0 l1 l2 l4 l6
    have bb := fun z : t ≤ k => btB_bd (k := k) (i := t) (by omega) (by omega) t0.1 (by omega) z
    rw [← ew] at bb
    refine x_iload 10 hK rfl rfl l6 ?_
    refine x_iload_n 11 hK rfl rfl l0 ?_
    refine x_iconst 12 hK rfl rfl ?_
    refine x_idivp 13 hK rfl rfl (by omega) (by omega) (by omega) (by omega) ?_
    refine x_if_icmp_gt 64 16 hK rfl rfl rfl (by omega) (by omega) (fun c5 => ?_) (fun c5 => ?_)
    · refine x_lload_n 65 hK rfl rfl l2 ?_
      exact x_lret hK rfl ⟨rfl, by rw [ee, show t = k / 2 + 1 by omega]⟩
    · refine x_lload_n 17 hK rfl rfl l2 ?_
      refine x_lload 19 hK rfl rfl l4 ?_
      refine x_iload_n 20 hK rfl rfl l1 ?_
      refine x_i2l 21 hK rfl rfl (by omega) ?_
      refine x_iload 23 hK rfl rfl l6 ?_
      refine x_callS 26 hK hmono rfl (Or.inl rfl) rfl [.long (J p), .int (I t)] [.long (J w), .long (J e)] rfl rfl (Nat.le_of_ble_eq_true rfl) (Nat.le_of_ble_eq_true rfl) (CLd_le (Nat.le_of_ble_eq_true rfl) (ctX10_power hSP (x := p) (n := t) (by omega))) ?_
      rintro v9 h9 ⟨e9, rfl⟩
      rw [e9]
      clear e9
      refine x_lmul 27 hK rfl rfl ?_
      refine x_bipush 29 hK rfl rfl rfl ?_
      refine x_iload_n 30 hK rfl rfl l1 ?_
      refine x_isub 31 hK rfl rfl ?_
      refine x_i2l 32 hK rfl rfl (by omega) ?_
      refine x_iload_n 33 hK rfl rfl l0 ?_
      refine x_iload 35 hK rfl rfl l6 ?_
      refine x_isub 36 hK rfl rfl ?_
      refine x_callS 39 hK hmono rfl (Or.inl rfl) rfl [.long (J (10 - p)), .int (I (k - t))] [.long (J (w * (pwF p t.toNat))), .long (J e)] rfl rfl (Nat.le_of_ble_eq_true rfl) (Nat.le_of_ble_eq_true rfl) (CLd_le (Nat.le_of_ble_eq_true rfl) (ctX10_power hSP (x := (10 - p)) (n := (k - t)) (by omega))) ?_
      rintro v9 h9 ⟨e9, rfl⟩
      rw [e9]
      clear e9
      refine x_lmul 40 hK rfl rfl ?_
      refine x_ladd 41 hK rfl rfl ?_
      refine x_lstore_n 42 hK rfl rfl _ rfl ?_
      refine x_lload 44 hK rfl rfl (lk2_n l4 (by decide) (by decide) (Or.inr (by decide))) ?_
      have bb2 := bb (by omega)
      refine x_iload_n 45 hK rfl rfl (lk2_n l0 (by decide) (by decide) (Or.inl rfl)) ?_
      refine x_iload 47 hK rfl rfl (lk2_n l6 (by decide) (by decide) (Or.inl rfl)) ?_
      refine x_isub 48 hK rfl rfl ?_
      refine x_i2l 49 hK rfl rfl (by omega) ?_
      refine x_lmul 50 hK rfl rfl ?_
      refine x_iload 52 hK rfl rfl (lk2_n l6 (by decide) (by decide) (Or.inl rfl)) ?_
      refine x_iconst 53 hK rfl rfl ?_
      refine x_iadd 54 hK rfl rfl ?_
      refine x_i2l 55 hK rfl rfl (by omega) ?_
      refine x_ldivp 56 hK rfl rfl (by omega) (by omega) (by omega) (by omega) ?_
      refine x_lstore 58 hK rfl rfl _ rfl ?_
      refine x_iinc 61 hK rfl rfl (lk2_n (lk2_n l6 (by decide) (by decide) (Or.inl rfl)) (by decide) (by decide) (Or.inl rfl)) _ rfl ?_
      refine x_goto 8 hK rfl rfl ?_
      exact ih _ (by omega) (e + ((w * (pwF p t.toNat)) * (pwF (10 - p) (k - t).toNat))) ((w * (k - t)) / (t + 1)) (t + 1) _ rfl (by omega) (by rw [lkS_s t0.1, ← ee, ← ew]) (by rw [btB_s t0.1, ← ew]) (lk1_n (lk2_n (lk2_n l0 (by decide) (by decide) (Or.inl rfl)) (by decide) (by decide) (Or.inl rfl)) (by decide) (Or.inl rfl)) (lk1_n (lk2_n (lk2_n l1 (by decide) (by decide) (Or.inl rfl)) (by decide) (by decide) (Or.inl rfl)) (by decide) (Or.inl rfl)) (lk1_n (lk2_n lk2_s (by decide) (by decide) (Or.inr (by decide))) (by decide) (Or.inr (by decide))) (lk1_n lk2_s (by decide) (Or.inr (by decide))) lk1_s
  refine x_lconstE 1 0 hK rfl rfl rfl ?_
  refine x_lstore_n 2 hK rfl rfl [(2, .long (J 0)), (0, .int (I k)), (1, .int (I p))] rfl ?_
  refine x_lconstE 3 1 hK rfl rfl rfl ?_
  refine x_lstore 5 hK rfl rfl [(4, .long (J 1)), (2, .long (J 0)), (0, .int (I k)), (1, .int (I p))] rfl ?_
  refine x_iconst 6 hK rfl rfl ?_
  refine x_istore 8 hK rfl rfl [(6, .int (I 0)), (4, .long (J 1)), (2, .long (J 0)), (0, .int (I k)), (1, .int (I p))] rfl ?_
  exact loop _ 0 1 0 _ rfl (by omega) (rfl) (rfl) rfl rfl rfl rfl rfl
end
section
/-! WHAT WAS SEEN -/
theorem snF_ext {st la st' la' : Nat → Int} {k : Int} : ∀ {n : Nat}, (∀ i, i < n → st' i = st i ∧ la' i = la i) → snF st' la' k n = snF st la k n
  | 0, _ => rfl
  | n + 1, h => by
    show (if st' n = k then la' n else snF st' la' k n) = if st n = k then la n else snF st la k n
    rw [(h n (by omega)).1, (h n (by omega)).2, snF_ext fun i hi => h i (by omega)]
/-- what seen() answers, by what was seen in that step (or -1), and how much was seen -/
noncomputable def seA (a c k l : Int) : Int := if (0 ≤ k ∧ k ≤ 24) ∧ 0 ≤ l ∧ l ≤ 8 then (if a = -1 then (if c < 12 then c + 1 else -1) else if a = l then c else -2) else -1
/-- one more is seen -/
noncomputable def seB (a c k l : Int) : Prop := ((0 ≤ k ∧ k ≤ 24) ∧ 0 ≤ l ∧ l ≤ 8) ∧ a = -1 ∧ c < 12
set_option maxRecDepth 4000 in
theorem ctX10_seen {SP : CT} (hSP : MONO SP) {sh : List (Nat × Nat)} {h : aH} (hG : GD gE gRL sh h) {k l : Int} (rk : r32 k) (rl : r32 l) : CLd SP 2 mX10_seen [.ref 0, .int (I k), .int (I l)] h 0 0 (fun rv h' => rv = some (.int (I (seA (gi h 134 k.toNat) (gi h 133 0) k l))) ∧ GD gE gRL sh h' ∧ FRM gRL [(0, 47, 0, 0), (0, 48, 0, 24)] h h' ∧ (seB (gi h 134 k.toNat) (gi h 133 0) k l → gi h' 133 0 = (gi h 133 0) + 1 ∧ gi h' 134 k.toNat = l ∧ ∀ j, j ≠ k.toNat → gi h' 134 j = gi h 134 j) ∧ (¬ seB (gi h 134 k.toNat) (gi h 133 0) k l → h' = h)) := by
  refine x_met _ rfl (Nat.le_of_ble_eq_true rfl) (fun K hK => ?_)
  have hmono := MONO_CLd hSP 1
  have gc := gri 0 12 hG (a := 133) (r := 47) (k := 0) rfl rfl
  refine x_iload_n 1 hK rfl rfl rfl ?_
  refine x_if_lt 20 4 hK rfl rfl rfl (by omega) (fun c2 => ?_) (fun c2 => ?_)
  · refine x_iconst 21 hK rfl rfl ?_
    have e9 : seA (gi h 134 k.toNat) (gi h 133 0) k l = -1 := by
      unfold seA
      first | rw [if_neg (by omega)] | rw [if_pos (by omega), if_pos (by omega), if_neg (by omega)]
    exact x_iret hK rfl ⟨by rw [e9], hG, (FRM.rf : FRM gRL [(0, 47, 0, 0), (0, 48, 0, 24)] h h), fun z => absurd z (fun z => by unfold seB at z; omega), fun _ => rfl⟩
  · refine x_iload_n 5 hK rfl rfl rfl ?_
    refine x_bipush 7 hK rfl rfl rfl ?_
    refine x_if_icmp_gt 20 10 hK rfl rfl rfl (by omega) (by omega) (fun c7 => ?_) (fun c7 => ?_)
    · refine x_iconst 21 hK rfl rfl ?_
      have e9 : seA (gi h 134 k.toNat) (gi h 133 0) k l = -1 := by
        unfold seA
        first | rw [if_neg (by omega)] | rw [if_pos (by omega), if_pos (by omega), if_neg (by omega)]
      exact x_iret hK rfl ⟨by rw [e9], hG, (FRM.rf : FRM gRL [(0, 47, 0, 0), (0, 48, 0, 24)] h h), fun z => absurd z (fun z => by unfold seB at z; omega), fun _ => rfl⟩
    · refine x_iload_n 11 hK rfl rfl rfl ?_
      refine x_if_lt 20 14 hK rfl rfl rfl (by omega) (fun c11 => ?_) (fun c11 => ?_)
      · refine x_iconst 21 hK rfl rfl ?_
        have e9 : seA (gi h 134 k.toNat) (gi h 133 0) k l = -1 := by
          unfold seA
          first | rw [if_neg (by omega)] | rw [if_pos (by omega), if_pos (by omega), if_neg (by omega)]
        exact x_iret hK rfl ⟨by rw [e9], hG, (FRM.rf : FRM gRL [(0, 47, 0, 0), (0, 48, 0, 24)] h h), fun z => absurd z (fun z => by unfold seB at z; omega), fun _ => rfl⟩
      · refine x_iload_n 15 hK rfl rfl rfl ?_
        refine x_bipush 17 hK rfl rfl rfl ?_
        refine x_if_icmp_le 22 20 hK rfl rfl rfl (by omega) (by omega) (fun c16 => ?_) (fun c16 => ?_)
        · refine x_aload_n 23 hK rfl rfl rfl ?_
          refine x_getR 26 hK rfl rfl (sp_0 (h := h) hG) (rf_0_14 (h := h) hG) ?_
          refine x_getR 29 hK rfl rfl (sp_133 (h := h) hG) (rf_133_1 (h := h) hG) ?_
          refine x_iload_n 30 hK rfl rfl rfl ?_
          have g110 := grn (-1) (8) hG (a := 134) (r := 48) (k := k.toNat) rfl rfl (by omega)
          refine x_ialoadE 31 hK rfl rfl (sp_134 (h := h) hG) (by omega) (by omega) (by omega) (e' := (gi h 134 k.toNat)) (rfl) ?_
          refine x_iconst 32 hK rfl rfl ?_
          refine x_if_icmp_eq 61 35 hK rfl rfl rfl (by omega) (by omega) (fun c23 => ?_) (fun c23 => ?_)
          · refine x_aload_n 62 hK rfl rfl rfl ?_
            refine x_getR 65 hK rfl rfl (sp_0 (h := h) hG) (rf_0_14 (h := h) hG) ?_
            have g111 := gri (0) (12) hG (a := 133) (r := 47) (k := 0) rfl rfl
            refine x_getE 68 hK rfl (Or.inl rfl) rfl (sp_133 (h := h) hG) (e := (gi h 133 0)) (rfl) ?_
            refine x_bipush 70 hK rfl rfl rfl ?_
            refine x_if_icmp_lt 75 73 hK rfl rfl rfl (by omega) (by omega) (fun c28 => ?_) (fun c28 => ?_)
            · refine x_aload_n 76 hK rfl rfl rfl ?_
              refine x_getR 79 hK rfl rfl (sp_0 (h := h) hG) (rf_0_14 (h := h) hG) ?_
              refine x_getR 82 hK rfl rfl (sp_133 (h := h) hG) (rf_133_1 (h := h) hG) ?_
              refine x_iload_n 83 hK rfl rfl rfl ?_
              refine x_iload_n 84 hK rfl rfl rfl ?_
              refine x_iastore 85 hK rfl rfl (sp_134 (h := h) hG) (by omega) (by omega) (by omega) ?_
              refine x_aload_n 86 hK rfl rfl rfl ?_
              refine x_getR 89 hK rfl rfl (sp_0 (h := h) hG) (rf_0_14 (h := h) hG) ?_
              refine x_dup 90 hK rfl rfl rfl ?_
              refine x_getE 93 hK rfl (Or.inl rfl) rfl (sp_133 (h := h) hG) (e := (gi h 133 0)) (gi_a (by decide) _) ?_
              refine x_iconst 94 hK rfl rfl ?_
              refine x_iadd 95 hK rfl rfl ?_
              refine x_putI 98 hK rfl rfl (sp_133 (h := h) hG) ?_
              refine x_aload_n 99 hK rfl rfl rfl ?_
              refine x_getR 102 hK rfl rfl (sp_0 (h := h) hG) (rf_0_14 (h := h) hG) ?_
              refine x_getE 105 hK rfl (Or.inl rfl) rfl (sp_133 (h := h) hG) (e := ((gi h 133 0) + 1)) (gi_same (by omega)) ?_
              have q : ((0 ≤ k ∧ k ≤ 24) ∧ 0 ≤ l ∧ l ≤ 8) := by omega
              have b9 : seB (gi h 134 k.toNat) (gi h 133 0) k l := ⟨q, by omega, by omega⟩
              have e9 : seA (gi h 134 k.toNat) (gi h 133 0) k l = (gi h 133 0) + 1 := by unfold seA; rw [if_pos q, if_pos b9.2.1, if_pos b9.2.2]
              exact x_iret hK rfl ⟨by rw [e9], GD_w1 (GD_wu (hG) (r := 48) rfl (by omega) rfl (by omega) (by omega)) (r := 47) rfl (by omega) rfl (by omega) (by omega), FRM_w (FRM_wn 0 24 ((FRM.rf : FRM gRL [(0, 47, 0, 0), (0, 48, 0, 24)] h h)) (r := 48) rfl rfl rfl (by omega) (by omega)) (r := 47) rfl rfl, fun _ => ⟨gi_same (by omega), (gi_a (by decide) _).trans (gi_same (by omega)), fun j hj => (gi_a (by decide) _).trans (gi_k hj _)⟩, fun z => absurd b9 z⟩
            · refine x_iconst 74 hK rfl rfl ?_
              have e9 : seA (gi h 134 k.toNat) (gi h 133 0) k l = -1 := by
                unfold seA
                first | rw [if_neg (by omega)] | rw [if_pos (by omega), if_pos (by omega), if_neg (by omega)]
              exact x_iret hK rfl ⟨by rw [e9], hG, (FRM.rf : FRM gRL [(0, 47, 0, 0), (0, 48, 0, 24)] h h), fun z => absurd z (fun z => by unfold seB at z; omega), fun _ => rfl⟩
          · refine x_aload_n 36 hK rfl rfl rfl ?_
            refine x_getR 39 hK rfl rfl (sp_0 (h := h) hG) (rf_0_14 (h := h) hG) ?_
            refine x_getR 42 hK rfl rfl (sp_133 (h := h) hG) (rf_133_1 (h := h) hG) ?_
            refine x_iload_n 43 hK rfl rfl rfl ?_
            refine x_ialoadE 44 hK rfl rfl (sp_134 (h := h) hG) (by omega) (by omega) (by omega) (e' := (gi h 134 k.toNat)) (rfl) ?_
            refine x_iload_n 45 hK rfl rfl rfl ?_
            refine x_if_icmp_ne 58 48 hK rfl rfl rfl (by omega) (by omega) (fun c54 => ?_) (fun c54 => ?_)
            · refine x_bipush 60 hK rfl rfl rfl ?_
              have e9 : seA (gi h 134 k.toNat) (gi h 133 0) k l = -2 := by unfold seA; rw [if_pos (by omega), if_neg (by omega), if_neg (by omega)]
              exact x_iret hK rfl ⟨by rw [e9], hG, (FRM.rf : FRM gRL [(0, 47, 0, 0), (0, 48, 0, 24)] h h), fun z => absurd z (fun z => by unfold seB at z; omega), fun _ => rfl⟩
            · refine x_aload_n 49 hK rfl rfl rfl ?_
              refine x_getR 52 hK rfl rfl (sp_0 (h := h) hG) (rf_0_14 (h := h) hG) ?_
              have g112 := gri (0) (12) hG (a := 133) (r := 47) (k := 0) rfl rfl
              refine x_getE 55 hK rfl (Or.inl rfl) rfl (sp_133 (h := h) hG) (e := (gi h 133 0)) (rfl) ?_
              refine x_goto 60 hK rfl rfl ?_
              have e9 : seA (gi h 134 k.toNat) (gi h 133 0) k l = (gi h 133 0) := by unfold seA; rw [if_pos (by omega), if_neg (by omega), if_pos (by omega)]
              exact x_iret hK rfl ⟨by rw [e9], hG, (FRM.rf : FRM gRL [(0, 47, 0, 0), (0, 48, 0, 24)] h h), fun z => absurd z (fun z => by unfold seB at z; omega), fun _ => rfl⟩
        · refine x_iconst 21 hK rfl rfl ?_
          have e9 : seA (gi h 134 k.toNat) (gi h 133 0) k l = -1 := by
            unfold seA
            first | rw [if_neg (by omega)] | rw [if_pos (by omega), if_pos (by omega), if_neg (by omega)]
          exact x_iret hK rfl ⟨by rw [e9], hG, (FRM.rf : FRM gRL [(0, 47, 0, 0), (0, 48, 0, 24)] h h), fun z => absurd z (fun z => by unfold seB at z; omega), fun _ => rfl⟩
set_option maxRecDepth 4000 in
theorem ctX11_seenF {SP : CT} (hSP : MONO SP) {sh : List (Nat × Nat)} {h : aH} (hG : GD gE gRL sh h) {k l : Int} (rk : r32 k) (rl : r32 l) : CLd SP 4 mX11_seen [.ref 171, .int (I k), .int (I l)] h 0 0 (fun rv h' => rv = some (.int (I (seA (snF (gi h 193) (gi h 194) k (gi h 171 42).toNat) (gi h 171 42) k l))) ∧ GD gE gRL sh h' ∧ FRM gRL [(0, 54, 0, 0), (0, 54, 42, 42), (0, 76, 0, 11), (0, 77, 0, 11)] h h' ∧ (seB (snF (gi h 193) (gi h 194) k (gi h 171 42).toNat) (gi h 171 42) k l → gi h' 171 42 = (gi h 171 42) + 1 ∧ gi h' 193 (gi h 171 42).toNat = k ∧ gi h' 194 (gi h 171 42).toNat = l ∧ (∀ j, j ≠ (gi h 171 42).toNat → gi h' 193 j = gi h 193 j) ∧ ∀ j, j ≠ (gi h 171 42).toNat → gi h' 194 j = gi h 194 j) ∧ (¬ seB (snF (gi h 193) (gi h 194) k (gi h 171 42).toNat) (gi h 171 42) k l → gi h' 171 42 = (gi h 171 42) ∧ gi h' 193 = gi h 193 ∧ gi h' 194 = gi h 194)) := by
  refine x_met _ rfl (Nat.le_of_ble_eq_true rfl) (fun K hK => ?_)
  have hmono := MONO_CLd hSP 3
  have gc := gri 0 12 hG (a := 171) (r := 54) (k := 42) rfl rfl
  have sb := snF_b (st := gi h 193) (la := gi h 194) (k := k) (gi h 171 42).toNat (fun i hi => grn 0 8 hG (a := 194) (r := 77) (k := i) rfl rfl (by omega))
  refine x_aload_n 1 hK rfl rfl rfl ?_
  refine x_iconst 2 hK rfl rfl ?_
  refine x_putI 5 hK rfl rfl (sp_171 (h := h) hG) ?_
  refine x_iload_n 6 hK rfl rfl rfl ?_
  refine x_i2l 7 hK rfl rfl (by omega) ?_
  refine x_lconstE 8 0 hK rfl rfl rfl ?_
  refine x_ldc2_w 11 hK rfl rfl ?_
  have hGp113 : GD gE gRL sh (wI h 171 0 0) := GD_w1 (hG) (r := 54) rfl (by omega) rfl (by omega) (by omega)
  refine x_callS 14 hK hmono rfl (Or.inl rfl) rfl [.long (J k), .long (J 0), .long (J 24)] [] rfl rfl (Nat.le_of_ble_eq_true rfl) (Nat.le_of_ble_eq_true rfl) (CLd_le (Nat.le_of_ble_eq_true rfl) (ctX11_in (by omega) (by omega) (by omega))) ?_
  rintro v9 h9 ⟨e9, ⟨rfl, i1114, i2114⟩ | ⟨rfl, i1114⟩⟩ <;> rw [e9] <;> clear e9
  · refine x_if_eq 29 17 hK rfl rfl rfl (by omega) (fun c => by omega) (fun _ => ?_)
    refine x_iload_n 18 hK rfl rfl rfl ?_
    refine x_i2l 19 hK rfl rfl (by omega) ?_
    refine x_lconstE 20 0 hK rfl rfl rfl ?_
    refine x_ldc2_w 23 hK rfl rfl ?_
    have hGp115 : GD gE gRL sh (wI h 171 0 0) := GD_w1 (hG) (r := 54) rfl (by omega) rfl (by omega) (by omega)
    refine x_callS 26 hK hmono rfl (Or.inl rfl) rfl [.long (J l), .long (J 0), .long (J 8)] [] rfl rfl (Nat.le_of_ble_eq_true rfl) (Nat.le_of_ble_eq_true rfl) (CLd_le (Nat.le_of_ble_eq_true rfl) (ctX11_in (by omega) (by omega) (by omega))) ?_
    rintro v9 h9 ⟨e9, ⟨rfl, i1116, i2116⟩ | ⟨rfl, i1116⟩⟩ <;> rw [e9] <;> clear e9
    · refine x_if_ne 31 29 hK rfl rfl rfl (by omega) (fun _ => ?_) (fun c => by omega)
      refine x_aload_n 32 hK rfl rfl rfl ?_
      refine x_iload_n 33 hK rfl rfl rfl ?_
      have hGp117 : GD gE gRL sh (wI h 171 0 0) := GD_w1 (hG) (r := 54) rfl (by omega) rfl (by omega) (by omega)
      refine x_callV 36 hK hmono rfl rfl [.ref 171, .int (I k)] [] rfl rfl (Nat.le_of_ble_eq_true rfl) (Nat.le_of_ble_eq_true rfl) rfl (sp_171 (h := h) hG) (CLd_le (Nat.le_of_ble_eq_true rfl) (ctX11_seenIn hSP hGp117 (by omega))) ?_
      rintro v9 h9 ⟨e9, rfl⟩
      rw [e9]
      clear e9
      change K _ _ (.int (I (snF (gi h 193) (gi h 194) k (gi h 171 42).toNat)) :: _) _ _ _
      refine x_istore_n 37 hK rfl rfl [(3, .int (I (snF (gi h 193) (gi h 194) k (gi h 171 42).toNat))), (0, .ref 171), (1, .int (I k)), (2, .int (I l))] rfl ?_
      refine x_iload_n 38 hK rfl rfl rfl ?_
      refine x_if_lt 56 41 hK rfl rfl rfl (by omega) (fun c21 => ?_) (fun c21 => ?_)
      · refine x_aload_n 57 hK rfl rfl rfl ?_
        have g118 := gri (0) (12) hG (a := 171) (r := 54) (k := 42) rfl rfl
        refine x_getE 60 hK rfl (Or.inl rfl) rfl (sp_171 (h := h) hG) (e := (gi h 171 42)) (gi_k (by decide) _) ?_
        refine x_bipush 62 hK rfl rfl rfl ?_
        refine x_if_icmp_ne 67 65 hK rfl rfl rfl (by omega) (by omega) (fun c25 => ?_) (fun c25 => ?_)
        · refine x_aload_n 68 hK rfl rfl rfl ?_
          refine x_getR 71 hK rfl rfl (sp_171 (h := h) hG) (rf_171_43 (h := h) hG) ?_
          refine x_aload_n 72 hK rfl rfl rfl ?_
          refine x_getE 75 hK rfl (Or.inl rfl) rfl (sp_171 (h := h) hG) (e := (gi h 171 42)) (gi_k (by decide) _) ?_
          refine x_iload_n 76 hK rfl rfl rfl ?_
          refine x_iastore 77 hK rfl rfl (sp_193 (h := h) hG) (by omega) (by omega) (by omega) ?_
          refine x_aload_n 78 hK rfl rfl rfl ?_
          refine x_getR 81 hK rfl rfl (sp_171 (h := h) hG) (rf_171_44 (h := h) hG) ?_
          refine x_aload_n 82 hK rfl rfl rfl ?_
          refine x_getE 85 hK rfl (Or.inl rfl) rfl (sp_171 (h := h) hG) (e := (gi h 171 42)) ((gi_a (by decide) _).trans (gi_k (by decide) _)) ?_
          refine x_iload_n 86 hK rfl rfl rfl ?_
          refine x_iastore 87 hK rfl rfl (sp_194 (h := h) hG) (by omega) (by omega) (by omega) ?_
          refine x_aload_n 88 hK rfl rfl rfl ?_
          refine x_dup 89 hK rfl rfl rfl ?_
          refine x_getE 92 hK rfl (Or.inl rfl) rfl (sp_171 (h := h) hG) (e := (gi h 171 42)) ((gi_a (by decide) _).trans ((gi_a (by decide) _).trans (gi_k (by decide) _))) ?_
          refine x_iconst 93 hK rfl rfl ?_
          refine x_iadd 94 hK rfl rfl ?_
          refine x_putI 97 hK rfl rfl (sp_171 (h := h) hG) ?_
          refine x_aload_n 98 hK rfl rfl rfl ?_
          refine x_getE 101 hK rfl (Or.inl rfl) rfl (sp_171 (h := h) hG) (e := ((gi h 171 42) + 1)) (gi_same (by omega)) ?_
          have q : ((0 ≤ k ∧ k ≤ 24) ∧ 0 ≤ l ∧ l ≤ 8) := by omega
          have b9 : seB (snF (gi h 193) (gi h 194) k (gi h 171 42).toNat) (gi h 171 42) k l := ⟨q, by omega, by omega⟩
          have e9 : seA (snF (gi h 193) (gi h 194) k (gi h 171 42).toNat) (gi h 171 42) k l = (gi h 171 42) + 1 := by unfold seA; rw [if_pos q, if_pos b9.2.1, if_pos b9.2.2]
          exact x_iret hK rfl ⟨by rw [e9], GD_w1 (GD_wu (GD_wu (GD_w1 (hG) (r := 54) rfl (by omega) rfl (by omega) (by omega)) (r := 76) rfl (by omega) rfl (by omega) (by omega)) (r := 77) rfl (by omega) rfl (by omega) (by omega)) (r := 54) rfl (by omega) rfl (by omega) (by omega), FRM_w (FRM_wn 0 11 (FRM_wn 0 11 (FRM_w ((FRM.rf : FRM gRL [(0, 54, 0, 0), (0, 54, 42, 42), (0, 76, 0, 11), (0, 77, 0, 11)] h h)) (r := 54) rfl rfl) (r := 76) rfl rfl rfl (by omega) (by omega)) (r := 77) rfl rfl rfl (by omega) (by omega)) (r := 54) rfl rfl, fun _ => ⟨gi_same (by omega), (gi_a (by decide) _).trans ((gi_a (by decide) _).trans (gi_same (by omega))), (gi_a (by decide) _).trans (gi_same (by omega)), fun j hj => (gi_a (by decide) _).trans ((gi_a (by decide) _).trans ((gi_k hj _).trans (gi_a (by decide) _))), fun j hj => (gi_a (by decide) _).trans ((gi_k hj _).trans ((gi_a (by decide) _).trans (gi_a (by decide) _)))⟩, fun z => absurd b9 z⟩
        · refine x_iconst 66 hK rfl rfl ?_
          have e9 : seA (snF (gi h 193) (gi h 194) k (gi h 171 42).toNat) (gi h 171 42) k l = -1 := by
            unfold seA
            first | rw [if_neg (by omega)] | rw [if_pos (by omega), if_pos (by omega), if_neg (by omega)]
          exact x_iret hK rfl ⟨by rw [e9], GD_w1 (hG) (r := 54) rfl (by omega) rfl (by omega) (by omega), FRM_w ((FRM.rf : FRM gRL [(0, 54, 0, 0), (0, 54, 42, 42), (0, 76, 0, 11), (0, 77, 0, 11)] h h)) (r := 54) rfl rfl, fun z => absurd z (fun z => by unfold seB at z; omega), fun _ => ⟨gi_k (by decide) _, funext fun j => gi_a (by decide) _, funext fun j => gi_a (by decide) _⟩⟩
      · refine x_iload_n 42 hK rfl rfl rfl ?_
        refine x_iload_n 43 hK rfl rfl rfl ?_
        refine x_if_icmp_ne 53 46 hK rfl rfl rfl (by omega) (by omega) (fun c51 => ?_) (fun c51 => ?_)
        · refine x_bipush 55 hK rfl rfl rfl ?_
          have e9 : seA (snF (gi h 193) (gi h 194) k (gi h 171 42).toNat) (gi h 171 42) k l = -2 := by unfold seA; rw [if_pos (by omega), if_neg (by omega), if_neg (by omega)]
          exact x_iret hK rfl ⟨by rw [e9], GD_w1 (hG) (r := 54) rfl (by omega) rfl (by omega) (by omega), FRM_w ((FRM.rf : FRM gRL [(0, 54, 0, 0), (0, 54, 42, 42), (0, 76, 0, 11), (0, 77, 0, 11)] h h)) (r := 54) rfl rfl, fun z => absurd z (fun z => by unfold seB at z; omega), fun _ => ⟨gi_k (by decide) _, funext fun j => gi_a (by decide) _, funext fun j => gi_a (by decide) _⟩⟩
        · refine x_aload_n 47 hK rfl rfl rfl ?_
          have g119 := gri (0) (12) hG (a := 171) (r := 54) (k := 42) rfl rfl
          refine x_getE 50 hK rfl (Or.inl rfl) rfl (sp_171 (h := h) hG) (e := (gi h 171 42)) (gi_k (by decide) _) ?_
          refine x_goto 55 hK rfl rfl ?_
          have e9 : seA (snF (gi h 193) (gi h 194) k (gi h 171 42).toNat) (gi h 171 42) k l = (gi h 171 42) := by unfold seA; rw [if_pos (by omega), if_neg (by omega), if_pos (by omega)]
          exact x_iret hK rfl ⟨by rw [e9], GD_w1 (hG) (r := 54) rfl (by omega) rfl (by omega) (by omega), FRM_w ((FRM.rf : FRM gRL [(0, 54, 0, 0), (0, 54, 42, 42), (0, 76, 0, 11), (0, 77, 0, 11)] h h)) (r := 54) rfl rfl, fun z => absurd z (fun z => by unfold seB at z; omega), fun _ => ⟨gi_k (by decide) _, funext fun j => gi_a (by decide) _, funext fun j => gi_a (by decide) _⟩⟩
    · refine x_if_ne 31 29 hK rfl rfl rfl (by omega) (fun c => by omega) (fun _ => ?_)
      refine x_iconst 30 hK rfl rfl ?_
      have e9 : seA (snF (gi h 193) (gi h 194) k (gi h 171 42).toNat) (gi h 171 42) k l = -1 := by
        unfold seA
        first | rw [if_neg (by omega)] | rw [if_pos (by omega), if_pos (by omega), if_neg (by omega)]
      exact x_iret hK rfl ⟨by rw [e9], GD_w1 (hG) (r := 54) rfl (by omega) rfl (by omega) (by omega), FRM_w ((FRM.rf : FRM gRL [(0, 54, 0, 0), (0, 54, 42, 42), (0, 76, 0, 11), (0, 77, 0, 11)] h h)) (r := 54) rfl rfl, fun z => absurd z (fun z => by unfold seB at z; omega), fun _ => ⟨gi_k (by decide) _, funext fun j => gi_a (by decide) _, funext fun j => gi_a (by decide) _⟩⟩
  · refine x_if_eq 29 17 hK rfl rfl rfl (by omega) (fun _ => ?_) (fun c => by omega)
    refine x_iconst 30 hK rfl rfl ?_
    have e9 : seA (snF (gi h 193) (gi h 194) k (gi h 171 42).toNat) (gi h 171 42) k l = -1 := by
      unfold seA
      first | rw [if_neg (by omega)] | rw [if_pos (by omega), if_pos (by omega), if_neg (by omega)]
    exact x_iret hK rfl ⟨by rw [e9], GD_w1 (hG) (r := 54) rfl (by omega) rfl (by omega) (by omega), FRM_w ((FRM.rf : FRM gRL [(0, 54, 0, 0), (0, 54, 42, 42), (0, 76, 0, 11), (0, 77, 0, 11)] h h)) (r := 54) rfl rfl, fun z => absurd z (fun z => by unfold seB at z; omega), fun _ => ⟨gi_k (by decide) _, funext fun j => gi_a (by decide) _, funext fun j => gi_a (by decide) _⟩⟩
set_option maxRecDepth 4000 in
theorem ctX10_forget {SP : CT} (hSP : MONO SP) {sh : List (Nat × Nat)} {h : aH} (hG : GD gE gRL sh h) (hX : XI h) : CLd SP 3 mX10_forget [.ref 0] h 0 0 (fun rv h' => rv = some (.int (I (gi h 133 0))) ∧ GD gE gRL sh h' ∧ FRM gRL [(0, 47, 0, 0), (0, 48, 0, 24)] h h' ∧ gi h' 133 0 = 0 ∧ ∀ k, k < 25 → gi h' 134 k = -1) := by
  refine x_met _ rfl (Nat.le_of_ble_eq_true rfl) (fun K hK => ?_)
  have hmono := MONO_CLd hSP 2
  refine x_aload_n 1 hK rfl rfl rfl ?_
  refine x_getR 4 hK rfl rfl (sp_0 (h := h) hG) (rf_0_14 (h := h) hG) ?_
  have g120 := gri (0) (12) hG (a := 133) (r := 47) (k := 0) rfl rfl
  refine x_getE 7 hK rfl (Or.inl rfl) rfl (sp_133 (h := h) hG) (e := (gi h 133 0)) (rfl) ?_
  refine x_istore_n 8 hK rfl rfl [(1, .int (I (gi h 133 0))), (0, .ref 0)] rfl ?_
  refine x_aload_n 9 hK rfl rfl rfl ?_
  refine x_getR 12 hK rfl rfl (sp_0 (h := h) hG) (rf_0_14 (h := h) hG) ?_
  refine x_callV 15 hK hmono rfl rfl [.ref 133] [] rfl rfl (Nat.le_of_ble_eq_true rfl) (Nat.le_of_ble_eq_true rfl) rfl (sp_133 (h := h) hG) (CLd_le (Nat.le_of_ble_eq_true rfl) (kX7_forgetAll_0 hSP [.ref 133] _ hX ⟨gv_r (by decide) rfl, trivial⟩ hG gov_n)) ?_
  rintro v121 h121 ⟨hG121, hF121, o121, m121, q121, y121, -⟩
  obtain rfl := List.mem_singleton.mp m121
  obtain rfl := QS_v q121
  have z0121 : gi h121 133 0 = 0 := ov_at (r := 47) 0 (by decide) (by decide) y121 (by decide)
  have z1121 : ∀ k, k < 25 → gi h121 134 k = -1 := fun k hk => ov_at (r := 48) (-1) (by decide) (by decide) y121 (by revert k; decide)
  refine x_iload_n 16 hK rfl rfl rfl ?_
  exact x_iret hK rfl ⟨rfl, hG121, hF121, z0121, z1121⟩
set_option maxRecDepth 4000 in
theorem ctX11_forget {SP : CT} (hSP : MONO SP) {sh : List (Nat × Nat)} {h : aH} (hG : GD gE gRL sh h) : CLd SP 1 mX11_forget [.ref 171] h 0 0 (fun rv h' => rv = some (.int (I (gi h 171 42))) ∧ GD gE gRL sh h' ∧ FRM gRL [(0, 54, 0, 0), (0, 54, 42, 42)] h h' ∧ gi h' 171 42 = 0) := by
  refine x_met _ rfl (Nat.le_of_ble_eq_true rfl) (fun K hK => ?_)
  have hmono := MONO_CLd hSP 0
  refine x_aload_n 1 hK rfl rfl rfl ?_
  refine x_iconst 2 hK rfl rfl ?_
  refine x_putI 5 hK rfl rfl (sp_171 (h := h) hG) ?_
  refine x_aload_n 6 hK rfl rfl rfl ?_
  have g122 := gri (0) (12) hG (a := 171) (r := 54) (k := 42) rfl rfl
  refine x_getE 9 hK rfl (Or.inl rfl) rfl (sp_171 (h := h) hG) (e := (gi h 171 42)) (gi_k (by decide) _) ?_
  refine x_istore_n 10 hK rfl rfl [(1, .int (I (gi h 171 42))), (0, .ref 171)] rfl ?_
  refine x_aload_n 11 hK rfl rfl rfl ?_
  refine x_iconst 12 hK rfl rfl ?_
  refine x_putI 15 hK rfl rfl (sp_171 (h := h) hG) ?_
  refine x_iload_n 16 hK rfl rfl rfl ?_
  exact x_iret hK rfl ⟨rfl, GD_w1 (GD_w1 (hG) (r := 54) rfl (by omega) rfl (by omega) (by omega)) (r := 54) rfl (by omega) rfl (by omega) (by omega), FRM_w (FRM_w ((FRM.rf : FRM gRL [(0, 54, 0, 0), (0, 54, 42, 42)] h h)) (r := 54) rfl rfl) (r := 54) rfl rfl, gi_same (by omega)⟩
end
section
/-! WHAT WAS ORDERED (the class) -/
set_option maxRecDepth 4000 in
theorem ctX10_put {SP : CT} (hSP : MONO SP) {h : aH} {v a b : Int} (rv : r32 v) (ra : r32 a) (rb : r32 b) : CLd SP 1 mX10_put [.int (I v), .int (I a), .int (I b)] h 0 0 (fun rv h' => h' = h ∧ rv = some (.int (I (max a (min b v))))) := by
  refine x_met _ rfl (Nat.le_of_ble_eq_true rfl) (fun K hK => ?_)
  have hmono := MONO_CLd hSP 0
  refine x_iload_n 1 hK rfl rfl rfl ?_
  refine x_iload_n 2 hK rfl rfl rfl ?_
  refine x_iload_n 3 hK rfl rfl rfl ?_
  refine x_min 6 hK rfl rfl (Nat.le_of_ble_eq_true rfl) (by omega) (by omega) ?_
  refine x_max 9 hK rfl rfl (Nat.le_of_ble_eq_true rfl) (by omega) (by omega) ?_
  exact x_iret hK rfl ⟨rfl, rfl⟩
set_option maxRecDepth 4000 in
theorem ctX10_keepOnSea {SP : CT} (hSP : MONO SP) {h : aH} {v : Int} (rv : r32 v) : CLd SP 2 mX10_keepOnSea [.int (I v)] h 0 0 (fun rv h' => h' = h ∧ rv = some (.int (I (max 0 (min 8 v))))) := by
  refine x_met _ rfl (Nat.le_of_ble_eq_true rfl) (fun K hK => ?_)
  have hmono := MONO_CLd hSP 1
  refine x_iload_n 1 hK rfl rfl rfl ?_
  refine x_iconst 2 hK rfl rfl ?_
  refine x_bipush 4 hK rfl rfl rfl ?_
  refine x_callS 7 hK hmono rfl (Or.inl rfl) rfl [.int (I v), .int (I 0), .int (I 8)] [] rfl rfl (Nat.le_of_ble_eq_true rfl) (Nat.le_of_ble_eq_true rfl) (CLd_le (Nat.le_of_ble_eq_true rfl) (ctX10_put hSP (v := v) (a := 0) (b := 8) (by omega) (by omega) (by omega))) ?_
  rintro v9 h9 ⟨e9, rfl⟩
  rw [e9]
  clear e9
  exact x_iret hK rfl ⟨rfl, rfl⟩
/-- the last step that was seen, by what was seen in each -/
noncomputable def lcF (f : Nat → Int) : Nat → Int
  | 0 => 0
  | n + 1 => if f (n + 1) = -1 then lcF f n else (n + 1 : Nat)
theorem lcF_s {f : Nat → Int} {n : Int} (h : 0 < n) : lcF f n.toNat = if f n.toNat = -1 then lcF f (n - 1).toNat else n := by
  obtain ⟨k, rfl⟩ : ∃ k : Nat, n = k + 1 := ⟨(n - 1).toNat, by omega⟩
  rw [show ((k : Int) + 1).toNat = k + 1 by omega, show ((k : Int) + 1 - 1).toNat = k by omega]
  show (if f (k + 1) = -1 then lcF f k else ((k + 1 : Nat) : Int)) = _
  rfl
theorem lcF_b (f : Nat → Int) : ∀ n : Nat, 0 ≤ lcF f n ∧ lcF f n ≤ n
  | 0 => ⟨Int.le_refl _, Int.le_refl _⟩
  | n + 1 => by
    have := lcF_b f n
    show 0 ≤ (if f (n + 1) = -1 then lcF f n else ((n + 1 : Nat) : Int)) ∧ (if f (n + 1) = -1 then lcF f n else ((n + 1 : Nat) : Int)) ≤ _
    split <;> omega
theorem lcF_eq {f : Nat → Int} {L : Int} (h0 : 0 ≤ L) (hL : f L.toNat ≠ -1) : ∀ n : Nat, L ≤ n → (∀ k : Nat, L < k → k ≤ n → f k = -1) → lcF f n = L
  | 0, h, _ => by show (0 : Int) = L; omega
  | n + 1, h, hk => by
    show (if f (n + 1) = -1 then lcF f n else ((n + 1 : Nat) : Int)) = L
    by_cases c : L = (n + 1 : Nat)
    · rw [if_neg (by intro z; apply hL; rw [c]; exact z), c]
    · rw [if_pos (hk (n + 1) (by omega) (by omega))]
      exact lcF_eq h0 hL n (by omega) fun k a b => hk k a (by omega)
/-- how many rows go on (without a bound) -/
noncomputable def cwF (f : Int → Int) (last : Int) : Nat → Int → Int
  | 0, l => if f last = -1 ∨ f last = l then 1 else 0
  | d + 1, l => if f (last - (d + 1)) = -1 ∨ f (last - (d + 1)) = l then s3 (cwF f last d) l 2 else 0
theorem cwF_s {f : Int → Int} {last k l : Int} (h : k < last) : cwF f last (last - k).toNat l = if f k = -1 ∨ f k = l then s3 (cwF f last (last - (k + 1)).toNat) l 2 else 0 := by
  obtain ⟨n, hn⟩ : ∃ n : Nat, last - (k + 1) = n := ⟨(last - (k + 1)).toNat, by omega⟩
  rw [show (last - k).toNat = n + 1 by omega, show (last - (k + 1)).toNat = n by omega]
  show (if f (last - (n + 1)) = -1 ∨ f (last - (n + 1)) = l then _ else (0 : Int)) = _
  rw [show last - ((n : Int) + 1) = k by omega]
theorem s3_2 (g : Int → Int) (l : Int) : s3 g l 2 = g (max 0 (min 8 (l + -1))) + g (max 0 (min 8 (l + 0))) + g (max 0 (min 8 (l + 1))) := by
  unfold s3
  rw [if_pos (by omega), if_pos (by omega), if_pos (by omega)]
theorem s3_ext {g g' : Int → Int} {l : Int} (h : ∀ q, 0 ≤ q → q ≤ 8 → g q = g' q) : s3 g l 2 = s3 g' l 2 := by
  rw [s3_2, s3_2, h _ (by omega) (by omega), h _ (by omega) (by omega), h _ (by omega) (by omega)]
noncomputable def p3 : Nat → Int
  | 0 => 1
  | d + 1 => 3 * p3 d
theorem p3_b : ((List.range 26).all fun d => decide (1 ≤ p3 d ∧ p3 d ≤ 847288609443)) = true := by decide +kernel
theorem p3_bd {d : Nat} (h : d ≤ 25) : 1 ≤ p3 d ∧ p3 d ≤ 847288609443 := of_decide_eq_true (all_r p3_b (by omega))
theorem cw_b (f : Int → Int) (last : Int) : ∀ (d : Nat) (l : Int), 0 ≤ cwF f last d l ∧ cwF f last d l ≤ p3 d
  | 0, l => by
    show 0 ≤ (if f last = -1 ∨ f last = l then (1 : Int) else 0) ∧ (if f last = -1 ∨ f last = l then (1 : Int) else 0) ≤ 1
    split <;> omega
  | d + 1, l => by
    have a := cw_b f last d (max 0 (min 8 (l + -1)))
    have b := cw_b f last d (max 0 (min 8 (l + 0)))
    have c := cw_b f last d (max 0 (min 8 (l + 1)))
    show 0 ≤ (if f (last - (d + 1)) = -1 ∨ f (last - (d + 1)) = l then s3 (cwF f last d) l 2 else 0) ∧ (if f (last - (d + 1)) = -1 ∨ f (last - (d + 1)) = l then s3 (cwF f last d) l 2 else 0) ≤ 3 * p3 d
    rw [s3_2]
    split <;> omega
theorem cw_bd (f : Int → Int) (last : Int) {d : Nat} (h : d ≤ 25) (l : Int) : 0 ≤ cwF f last d l ∧ cwF f last d l ≤ 847288609443 := by
  have := cw_b f last d l
  have := p3_bd h
  omega
/-- with the bound it is what the reference has -/
theorem cw_mn {f : Int → Int} (hf : ∀ k, -1 ≤ f k) (last : Int) : ∀ (d : Nat) (l : Int), (d : Int) < last ∨ ((d : Int) = last ∧ l = 4) → sMn f last d l = min 1000000 (cwF f last d l)
  | 0, l, h => by
    show (if snFine f last l then (1 : Int) else 0) = min 1000000 (if f last = -1 ∨ f last = l then 1 else 0)
    have e : snFine f last l = decide (f last = -1 ∨ f last = l) := by
      have := hf last
      unfold snFine
      rw [show (decide (0 < last) || decide (l = 4)) = true from by rw [Bool.or_eq_true, decide_eq_true_eq, decide_eq_true_eq]; omega, Bool.and_true, ← Bool.decide_or]
      exact decide_eq_decide.mpr (by omega)
    rw [e]
    by_cases c : f last = -1 ∨ f last = l
    · rw [if_pos c, if_pos (decide_eq_true c)]; rfl
    · rw [if_neg c, if_neg (by simpa using c)]; rfl
  | d + 1, l, h => by
    show (if snFine f (last - (d + 1)) l then min 1000000 (s3 (sMn f last d) l 2) else 0) = min 1000000 (if f (last - (d + 1)) = -1 ∨ f (last - (d + 1)) = l then s3 (cwF f last d) l 2 else 0)
    have e : snFine f (last - (d + 1)) l = decide (f (last - (d + 1)) = -1 ∨ f (last - (d + 1)) = l) := by
      have := hf (last - (d + 1))
      unfold snFine
      rw [show (decide (0 < last - ((d : Int) + 1)) || decide (l = 4)) = true from by rw [Bool.or_eq_true, decide_eq_true_eq, decide_eq_true_eq]; omega, Bool.and_true, ← Bool.decide_or]
      exact decide_eq_decide.mpr (by omega)
    have ih := fun l => cw_mn hf last d l (Or.inl (by omega))
    have a := cw_b f last d (max 0 (min 8 (l + -1)))
    have b := cw_b f last d (max 0 (min 8 (l + 0)))
    have c := cw_b f last d (max 0 (min 8 (l + 1)))
    rw [e, s3_2, s3_2, ih, ih, ih]
    by_cases c : f (last - (d + 1)) = -1 ∨ f (last - (d + 1)) = l
    · rw [if_pos c, if_pos (decide_eq_true c)]; omega
    · rw [if_neg c, if_neg (by simpa using c)]; rfl
noncomputable def cRow (f : Int → Int) (last : Int) : Nat → Int → List Int
  | 0, _ => []
  | d + 1, l => nxV (cwF f last d) l :: cRow f last d (max 0 (min 8 (l + nxV (cwF f last d) l)))
theorem nx_mn {f : Int → Int} (hf : ∀ k, -1 ≤ f k) {last : Int} {d : Nat} (h : (d : Int) < last) (l : Int) : nxV (sMn f last d) l = nxV (cwF f last d) l := by
  have z : ∀ q, (0 < sMn f last d q) ↔ 0 < cwF f last d q := fun q => by
    have := cw_b f last d q
    rw [cw_mn hf last d q (Or.inl h)]; omega
  unfold nxV
  by_cases a : 0 < cwF f last d (max 0 (min 8 (l + -1)))
  · rw [if_pos a, if_pos ((z _).mpr a)]
  · rw [if_neg a, if_neg (fun y => a ((z _).mp y))]
    by_cases b : 0 < cwF f last d (max 0 (min 8 (l + 0)))
    · rw [if_pos b, if_pos ((z _).mpr b)]
    · rw [if_neg b, if_neg (fun y => b ((z _).mp y))]
theorem row_mn {f : Int → Int} (hf : ∀ k, -1 ≤ f k) {last : Int} : ∀ (d : Nat) (l : Int), (d : Int) ≤ last → sRow f last d l = cRow f last d l
  | 0, _, _ => rfl
  | d + 1, l, h => by
    show nxV (sMn f last d) l :: sRow f last d _ = nxV (cwF f last d) l :: cRow f last d _
    rw [nx_mn hf (by omega), row_mn hf d _ (by omega)]
theorem nxV_okc {g : Int → Int} {l : Int} (hg : ∀ q, 0 ≤ g q) (h : 0 < s3 g l 2) : 0 < g (max 0 (min 8 (l + nxV g l))) := by
  have a := hg (max 0 (min 8 (l + -1)))
  have b := hg (max 0 (min 8 (l + 0)))
  have c := hg (max 0 (min 8 (l + 1)))
  rw [s3_2] at h
  unfold nxV
  by_cases h1 : 0 < g (max 0 (min 8 (l + -1)))
  · rw [if_pos h1]; exact h1
  · rw [if_neg h1]
    by_cases h2 : 0 < g (max 0 (min 8 (l + 0)))
    · rw [if_pos h2]; exact h2
    · rw [if_neg h2]; omega
theorem nxV_ext {g g' : Int → Int} {l : Int} (h : ∀ q, 0 ≤ q → q ≤ 8 → g q = g' q) : nxV g l = nxV g' l := by
  unfold nxV
  rw [h _ (by omega) (by omega), h _ (by omega) (by omega)]
/-- the class's table is filled so far -/
noncomputable def CTB (f : Int → Int) (last : Int) (h : aH) (k l : Int) : Prop := ∀ k' l' : Int, 0 ≤ k' → 0 ≤ l' → l' ≤ 8 → k' ≤ last → (k < k' ∨ (k' = k ∧ l' < l)) → gj h (136 + k'.toNat) l'.toNat = cwF f last (last - k').toNat l'

set_option maxRecDepth 4000 in
theorem ctX7_lastStep {SP : CT} (hSP : MONO SP) {sh : List (Nat × Nat)} {h : aH} (hG : GD gE gRL sh h) : CLd SP 1 mX7_lastStep [.ref 133] h 0 0 (fun rv h' => h' = h ∧ rv = some (.int (I (lcF (gi h 134) 24)))) := by
  refine x_met _ rfl (Nat.le_of_ble_eq_true rfl) (fun K hK => ?_)
  have hmono := MONO_CLd hSP 0
  have loop : ∀ (mz : Nat) (k : Int) (ls : List (Nat × Value)), (k.toNat = mz) → (0 ≤ k ∧ k ≤ 24) → (lcF (gi h 134) k.toNat = lcF (gi h 134) 24) → lk ls 0 = some (.ref 133) → lk ls 1 = some (.int (I k)) → K 3 ls [] h 0 0 := by
    intro mz
    induction mz using Nat.strongRecOn with
    | ind mz ih =>
    intro k ls hm k0 e l0 l1
    refine x_iload_n 4 hK rfl rfl l1 ?_
    refine x_if_le 23 7 hK rfl rfl rfl (by omega) (fun c2 => ?_) (fun c2 => ?_)
    · refine x_iload_n 24 hK rfl rfl l1 ?_
      have e9 : lcF (gi h 134) 24 = k := by
        rw [← e]
        by_cases c : k = 0
        · rw [c]; rfl
        · rw [lcF_s (by omega), if_neg (by omega)]
      exact x_iret hK rfl ⟨rfl, by rw [e9]⟩
    · refine x_aload_n 8 hK rfl rfl l0 ?_
      refine x_getR 11 hK rfl rfl (sp_133 (h := h) hG) (rf_133_1 (h := h) hG) ?_
      refine x_iload_n 12 hK rfl rfl l1 ?_
      have g110 := grn (-1) (8) hG (a := 134) (r := 48) (k := k.toNat) rfl rfl (by omega)
      refine x_ialoadE 13 hK rfl rfl (sp_134 (h := h) hG) (by omega) (by omega) (by omega) (e' := (gi h 134 k.toNat)) (rfl) ?_
      refine x_iconst 14 hK rfl rfl ?_
      refine x_if_icmp_ne 23 17 hK rfl rfl rfl (by omega) (by omega) (fun c10 => ?_) (fun c10 => ?_)
      · refine x_iload_n 24 hK rfl rfl l1 ?_
        have e9 : lcF (gi h 134) 24 = k := by
          rw [← e]
          by_cases c : k = 0
          · rw [c]; rfl
          · rw [lcF_s (by omega), if_neg (by omega)]
        exact x_iret hK rfl ⟨rfl, by rw [e9]⟩
      · refine x_iinc 20 hK rfl rfl l1 _ rfl ?_
        refine x_goto 3 hK rfl rfl ?_
        exact ih _ (by omega) (k + (-1)) _ rfl (by omega) (by rw [← e, lcF_s (n := k) (by omega), if_pos (by omega)]; rfl) (lk1_n l0 (by decide) (Or.inl rfl)) lk1_s
  refine x_bipush 2 hK rfl rfl rfl ?_
  refine x_istore_n 3 hK rfl rfl [(1, .int (I 24)), (0, .ref 133)] rfl ?_
  exact loop _ 24 _ rfl (by omega) (rfl) rfl rfl
set_option maxRecDepth 4000 in
theorem ctX7_waysBehind {SP : CT} (hSP : MONO SP) {sh : List (Nat × Nat)} {h : aH} (hG : GD gE gRL sh h) {s l : Int} (hP : PT h) (hs : 0 ≤ s ∧ s ≤ 23) (hl : 0 ≤ l ∧ l ≤ 8) : CLd SP 3 mX7_waysBehind [.ref 133, .int (I s), .int (I l)] h 0 0 (fun rv h' => h' = h ∧ rv = some (.long (J (s3 (fun p : Int => gj h (136 + (s + 1).toNat) p.toNat) l 2)))) := by
  refine x_met _ rfl (Nat.le_of_ble_eq_true rfl) (fun K hK => ?_)
  have hmono := MONO_CLd hSP 2
  have loop : ∀ (mz : Nat) (e v : Int) (ls : List (Nat × Value)), ((2 - v).toNat = mz) → (-1 ≤ v ∧ v ≤ 2) → (e = s3 (fun p : Int => gj h (136 + (s + 1).toNat) p.toNat) l v) → lk ls 0 = some (.ref 133) → lk ls 1 = some (.int (I s)) → lk ls 2 = some (.int (I l)) → lk ls 3 = some (.long (J e)) → lk ls 5 = some (.int (I v)) → K 5 ls [] h 0 0 := by
    intro mz
    induction mz using Nat.strongRecOn with
    | ind mz ih =>
    intro e v ls hm v0 ee l0 l1 l2 l3 l5
    refine x_iload 7 hK rfl rfl l5 ?_
    refine x_iconst 8 hK rfl rfl ?_
    refine x_if_icmp_gt 36 11 hK rfl rfl rfl (by omega) (by omega) (fun c3 => ?_) (fun c3 => ?_)
    · refine x_lload_n 37 hK rfl rfl l3 ?_
      exact x_lret hK rfl ⟨rfl, by rw [ee, show v = 2 by omega]⟩
    · refine x_lload_n 12 hK rfl rfl l3 ?_
      refine x_aload_n 13 hK rfl rfl l0 ?_
      refine x_getR 16 hK rfl rfl (sp_133 (h := h) hG) (rf_133_2 (h := h) hG) ?_
      refine x_iload_n 17 hK rfl rfl l1 ?_
      refine x_iconst 18 hK rfl rfl ?_
      refine x_iadd 19 hK rfl rfl ?_
      refine x_aaload 20 hK rfl rfl (sp_135 (h := h) hG) (by decide) (by omega) (by omega) (by omega) (hP.1 _ (by omega)) ?_
      refine x_iload_n 21 hK rfl rfl l2 ?_
      refine x_iload 23 hK rfl rfl l5 ?_
      refine x_iadd 24 hK rfl rfl ?_
      refine x_callS 27 hK hmono rfl (Or.inr rfl) rfl [.int (I (l + v))] [.ref (136 + (s + 1).toNat), .long (J e)] rfl rfl (Nat.le_of_ble_eq_true rfl) (Nat.le_of_ble_eq_true rfl) (CLd_le (Nat.le_of_ble_eq_true rfl) (ctX10_keepOnSea hSP (v := (l + v)) (by omega))) ?_
      rintro v9 h9 ⟨e9, rfl⟩
      rw [e9]
      clear e9
      refine x_laloadE 28 hK rfl rfl (shx (h := h) hG (r := 50) (pt_r1 _ (by omega)) rfl) (by omega) (by omega) (by omega) (e' := (gj h (136 + (s + 1).toNat) (max 0 (min 8 (l + v))).toNat)) (rfl) ?_
      refine x_ladd 29 hK rfl rfl ?_
      refine x_lstore_n 30 hK rfl rfl _ rfl ?_
      refine x_iinc 33 hK rfl rfl (lk2_n l5 (by decide) (by decide) (Or.inl rfl)) _ rfl ?_
      refine x_goto 5 hK rfl rfl ?_
      exact ih _ (by omega) (e + (gj h (136 + (s + 1).toNat) (max 0 (min 8 (l + v))).toNat)) (v + 1) _ rfl (by omega) (by rw [s3_n v0.1 (by omega), ← ee]) (lk1_n (lk2_n l0 (by decide) (by decide) (Or.inl rfl)) (by decide) (Or.inl rfl)) (lk1_n (lk2_n l1 (by decide) (by decide) (Or.inl rfl)) (by decide) (Or.inl rfl)) (lk1_n (lk2_n l2 (by decide) (by decide) (Or.inl rfl)) (by decide) (Or.inl rfl)) (lk1_n lk2_s (by decide) (Or.inr (by decide))) lk1_s
  refine x_lconstE 1 0 hK rfl rfl rfl ?_
  refine x_lstore_n 2 hK rfl rfl [(3, .long (J 0)), (0, .ref 133), (1, .int (I s)), (2, .int (I l))] rfl ?_
  refine x_iconst 3 hK rfl rfl ?_
  refine x_istore 5 hK rfl rfl [(5, .int (I (-1))), (3, .long (J 0)), (0, .ref 133), (1, .int (I s)), (2, .int (I l))] rfl ?_
  exact loop _ 0 (-1) _ rfl (by omega) ((by unfold s3; rw [if_neg (by omega), if_neg (by omega), if_neg (by omega)]; rfl)) rfl rfl rfl rfl rfl
set_option maxRecDepth 4000 in
theorem ctX7_countWays {SP : CT} (hSP : MONO SP) {sh : List (Nat × Nat)} {h : aH} (hG : GD gE gRL sh h) {last : Int} (hP : PT h) (hl : 0 ≤ last ∧ last ≤ 24) : CLd SP 4 mX7_countWays [.ref 133, .int (I last)] h 0 0 (fun rv h' => rv = none ∧ GD gE gRL sh h' ∧ FRM gRL [(1, 50, 0, 8)] h h' ∧ CTB (fun k : Int => gi h 134 k.toNat) last h' (-1) 0) := by
  refine x_met _ rfl (Nat.le_of_ble_eq_true rfl) (fun K hK => ?_)
  have hmono := MONO_CLd hSP 3
  have loopK : ∀ (mz : Nat) (k : Int) (h3 : aH) (ls : List (Nat × Value)), ((k + 1).toNat = mz) → (-1 ≤ k ∧ k ≤ last) → (CTB (fun k : Int => gi h 134 k.toNat) last h3 k 0) → lk ls 0 = some (.ref 133) → lk ls 1 = some (.int (I last)) → lk ls 2 = some (.int (I k)) → GD gE gRL sh h3 → FRM gRL [(1, 50, 0, 8)] h h3 → K 2 ls [] h3 0 0 := by
    intro mz
    induction mz using Nat.strongRecOn with
    | ind mz ih =>
    intro k h3 ls hm k0 t3 l0 l1 l2 hG3 hF3
    have ihK := ih
    have loopL : ∀ (mz : Nat) (l : Int) (h4 : aH) (ls : List (Nat × Value)), ((9 - l).toNat = mz) → (0 ≤ l ∧ l ≤ 9) → (0 ≤ k) → (CTB (fun k : Int => gi h 134 k.toNat) last h4 k l) → lk ls 0 = some (.ref 133) → lk ls 1 = some (.int (I last)) → lk ls 2 = some (.int (I k)) → lk ls 3 = some (.int (I l)) → GD gE gRL sh h4 → FRM gRL [(1, 50, 0, 8)] h h4 → K 8 ls [] h4 0 0 := by
      intro mz
      induction mz using Nat.strongRecOn with
      | ind mz ih =>
      intro l h4 ls hm l0 k1 t4 l0 l1 l2 l3 hG4 hF4
      have fk : gi h4 134 k.toNat = gi h 134 k.toNat := FRM_gi hF4 (r := 48) rfl rfl
      have cb := fun z : k < last => cw_bd (fun k : Int => gi h 134 k.toNat) last (d := (last - k).toNat) (by omega) l
      have tn : ∀ e : Int, r64 e → e = cwF (fun k : Int => gi h 134 k.toNat) last (last - k).toNat l → CTB (fun k : Int => gi h 134 k.toNat) last (sJ h4 (136 + k.toNat) l.toNat (J e)) k (l + 1) := by
        intro e re ee k' l' y1 y2 y3 y4 y5
        by_cases c : k' = k ∧ l' = l
        · obtain ⟨rfl, rfl⟩ := c
          exact (gj_same re).trans ee
        · have z := t4 k' l' y1 y2 y3 y4 (by omega)
          rw [← z]
          by_cases c2 : k' = k
          · exact gj_k (by omega) _
          · exact gj_a (by omega) _
      refine x_iload_n 9 hK rfl rfl l3 ?_
      refine x_bipush 11 hK rfl rfl rfl ?_
      refine x_if_icmp_gt 79 14 hK rfl rfl rfl (by omega) (by omega) (fun c3 => ?_) (fun c3 => ?_)
      · refine x_iinc 82 hK rfl rfl l2 _ rfl ?_
        refine x_goto 2 hK rfl rfl ?_
        exact ihK _ (by omega) (k + (-1)) _ _ rfl (by omega) ((fun k' l' y1 y2 y3 y4 y5 => t4 k' l' y1 y2 y3 y4 (by omega))) (lk1_n l0 (by decide) (Or.inl rfl)) (lk1_n l1 (by decide) (Or.inl rfl)) lk1_s (hG4) (hF4)
      · refine x_aload_n 15 hK rfl rfl l0 ?_
        refine x_getR 18 hK rfl rfl (sp_133 (h := h4) hG4) (rf_133_1 (h := h4) hG4) ?_
        refine x_iload_n 19 hK rfl rfl l2 ?_
        have g111 := grn (-1) (8) hG (a := 134) (r := 48) (k := k.toNat) rfl rfl (by omega)
        refine x_ialoadE 20 hK rfl rfl (sp_134 (h := h4) hG4) (by omega) (by omega) (by omega) (e' := (gi h 134 k.toNat)) (fk) ?_
        refine x_iconst 21 hK rfl rfl ?_
        refine x_if_icmp_eq 34 24 hK rfl rfl rfl (by omega) (by omega) (fun c12 => ?_) (fun c12 => ?_)
        · refine x_iconst 35 hK rfl rfl ?_
          refine x_goto 39 hK rfl rfl ?_
          refine x_istore 41 hK rfl rfl _ rfl ?_
          refine x_aload_n 42 hK rfl rfl (lk1_n l0 (by decide) (Or.inl rfl)) ?_
          refine x_getR 45 hK rfl rfl (sp_133 (h := h4) hG4) (rf_133_2 (h := h4) hG4) ?_
          refine x_iload_n 46 hK rfl rfl (lk1_n l2 (by decide) (Or.inl rfl)) ?_
          refine x_aaload 47 hK rfl rfl (sp_135 (h := h4) hG4) (by decide) (by omega) (by omega) (by omega) ((PT_F hF4 (by decide) hP).1 _ (by omega)) ?_
          refine x_iload_n 48 hK rfl rfl (lk1_n l3 (by decide) (Or.inl rfl)) ?_
          refine x_iload 50 hK rfl rfl lk1_s ?_
          refine x_if_ne 57 53 hK rfl rfl rfl (by omega) (fun _ => ?_) (fun c => by omega)
          refine x_iload_n 58 hK rfl rfl (lk1_n l2 (by decide) (Or.inl rfl)) ?_
          refine x_iload_n 59 hK rfl rfl (lk1_n l1 (by decide) (Or.inl rfl)) ?_
          refine x_if_icmp_ne 66 62 hK rfl rfl rfl (by omega) (by omega) (fun c25 => ?_) (fun c25 => ?_)
          · refine x_aload_n 67 hK rfl rfl (lk1_n l0 (by decide) (Or.inl rfl)) ?_
            refine x_iload_n 68 hK rfl rfl (lk1_n l2 (by decide) (Or.inl rfl)) ?_
            refine x_iload_n 69 hK rfl rfl (lk1_n l3 (by decide) (Or.inl rfl)) ?_
            refine x_callV 72 hK hmono rfl rfl [.ref 133, .int (I k), .int (I l)] [.int (I l), .ref (136 + k.toNat)] rfl rfl (Nat.le_of_ble_eq_true rfl) (Nat.le_of_ble_eq_true rfl) rfl (sp_133 (h := h4) hG4) (CLd_le (Nat.le_of_ble_eq_true rfl) (ctX7_waysBehind hSP hG4 (s := k) (l := l) (PT_F hF4 (by decide) hP) (by omega) (by omega))) ?_
            rintro v9 h9 ⟨e9, rfl⟩
            rw [e9]
            clear e9
            rw [show s3 (fun p : Int => gj h4 (136 + (k + 1).toNat) p.toNat) l 2 = s3 (cwF (fun k : Int => gi h 134 k.toNat) last (last - (k + 1)).toNat) l 2 from s3_ext fun q q0 q8 => t4 (k + 1) q (by omega) q0 q8 (by omega) (Or.inl (by omega))]
            refine x_lastore 73 hK rfl rfl (shx (h := h4) hG4 (r := 50) (pt_r1 _ (by omega)) rfl) (by omega) (by omega) (by omega) ?_
            refine x_iinc 76 hK rfl rfl (lk1_n l3 (by decide) (Or.inl rfl)) _ rfl ?_
            refine x_goto 8 hK rfl rfl ?_
            have ce : (s3 (cwF (fun k : Int => gi h 134 k.toNat) last (last - (k + 1)).toNat) l 2) = cwF (fun k : Int => gi h 134 k.toNat) last (last - k).toNat l := by
              rw [cwF_s (by omega)]
              exact (if_pos (show gi h 134 k.toNat = -1 ∨ gi h 134 k.toNat = l by omega)).symm
            have cr : r64 (s3 (cwF (fun k : Int => gi h 134 k.toNat) last (last - (k + 1)).toNat) l 2) := by rw [ce]; have := cb (by omega); omega
            exact ih _ (by omega) (l + 1) _ _ rfl (by omega) (by omega) (tn _ cr ce) (lk1_n (lk1_n l0 (by decide) (Or.inl rfl)) (by decide) (Or.inl rfl)) (lk1_n (lk1_n l1 (by decide) (Or.inl rfl)) (by decide) (Or.inl rfl)) (lk1_n (lk1_n l2 (by decide) (Or.inl rfl)) (by decide) (Or.inl rfl)) lk1_s (GD_J (hG4)) (FRM_Jn 0 8 (hF4) (r := 50) (pt_r1 _ (by omega)) rfl rfl (by omega) (by omega))
          · refine x_lconstE 63 1 hK rfl rfl rfl ?_
            refine x_goto 72 hK rfl rfl ?_
            refine x_lastore 73 hK rfl rfl (shx (h := h4) hG4 (r := 50) (pt_r1 _ (by omega)) rfl) (by omega) (by omega) (by omega) ?_
            refine x_iinc 76 hK rfl rfl (lk1_n l3 (by decide) (Or.inl rfl)) _ rfl ?_
            refine x_goto 8 hK rfl rfl ?_
            have ce : (1 : Int) = cwF (fun k : Int => gi h 134 k.toNat) last (last - k).toNat l := by
              have c : k = last := by omega
              rw [c, show (last - last).toNat = 0 by omega]
              show (1 : Int) = if gi h 134 last.toNat = -1 ∨ gi h 134 last.toNat = l then 1 else 0
              rw [if_pos (by rw [← c]; omega)]
            exact ih _ (by omega) (l + 1) _ _ rfl (by omega) (by omega) (tn _ (by omega) ce) (lk1_n (lk1_n l0 (by decide) (Or.inl rfl)) (by decide) (Or.inl rfl)) (lk1_n (lk1_n l1 (by decide) (Or.inl rfl)) (by decide) (Or.inl rfl)) (lk1_n (lk1_n l2 (by decide) (Or.inl rfl)) (by decide) (Or.inl rfl)) lk1_s (GD_J (hG4)) (FRM_Jn 0 8 (hF4) (r := 50) (pt_r1 _ (by omega)) rfl rfl (by omega) (by omega))
        · refine x_aload_n 25 hK rfl rfl l0 ?_
          refine x_getR 28 hK rfl rfl (sp_133 (h := h4) hG4) (rf_133_1 (h := h4) hG4) ?_
          refine x_iload_n 29 hK rfl rfl l2 ?_
          refine x_ialoadE 30 hK rfl rfl (sp_134 (h := h4) hG4) (by omega) (by omega) (by omega) (e' := (gi h 134 k.toNat)) (fk) ?_
          refine x_iload_n 31 hK rfl rfl l3 ?_
          refine x_if_icmp_ne 38 34 hK rfl rfl rfl (by omega) (by omega) (fun c45 => ?_) (fun c45 => ?_)
          · refine x_iconst 39 hK rfl rfl ?_
            refine x_istore 41 hK rfl rfl _ rfl ?_
            refine x_aload_n 42 hK rfl rfl (lk1_n l0 (by decide) (Or.inl rfl)) ?_
            refine x_getR 45 hK rfl rfl (sp_133 (h := h4) hG4) (rf_133_2 (h := h4) hG4) ?_
            refine x_iload_n 46 hK rfl rfl (lk1_n l2 (by decide) (Or.inl rfl)) ?_
            refine x_aaload 47 hK rfl rfl (sp_135 (h := h4) hG4) (by decide) (by omega) (by omega) (by omega) ((PT_F hF4 (by decide) hP).1 _ (by omega)) ?_
            refine x_iload_n 48 hK rfl rfl (lk1_n l3 (by decide) (Or.inl rfl)) ?_
            refine x_iload 50 hK rfl rfl lk1_s ?_
            refine x_if_ne 57 53 hK rfl rfl rfl (by omega) (fun c => by omega) (fun _ => ?_)
            refine x_lconstE 54 0 hK rfl rfl rfl ?_
            refine x_goto 72 hK rfl rfl ?_
            refine x_lastore 73 hK rfl rfl (shx (h := h4) hG4 (r := 50) (pt_r1 _ (by omega)) rfl) (by omega) (by omega) (by omega) ?_
            refine x_iinc 76 hK rfl rfl (lk1_n l3 (by decide) (Or.inl rfl)) _ rfl ?_
            refine x_goto 8 hK rfl rfl ?_
            have ce : (0 : Int) = cwF (fun k : Int => gi h 134 k.toNat) last (last - k).toNat l := by
              by_cases c : k = last
              · rw [c, show (last - last).toNat = 0 by omega]
                show (0 : Int) = if gi h 134 last.toNat = -1 ∨ gi h 134 last.toNat = l then 1 else 0
                rw [if_neg (by rw [← c]; omega)]
              · rw [cwF_s (by omega)]
                exact (if_neg (show ¬ (gi h 134 k.toNat = -1 ∨ gi h 134 k.toNat = l) by omega)).symm
            exact ih _ (by omega) (l + 1) _ _ rfl (by omega) (by omega) (tn _ (by omega) ce) (lk1_n (lk1_n l0 (by decide) (Or.inl rfl)) (by decide) (Or.inl rfl)) (lk1_n (lk1_n l1 (by decide) (Or.inl rfl)) (by decide) (Or.inl rfl)) (lk1_n (lk1_n l2 (by decide) (Or.inl rfl)) (by decide) (Or.inl rfl)) lk1_s (GD_J (hG4)) (FRM_Jn 0 8 (hF4) (r := 50) (pt_r1 _ (by omega)) rfl rfl (by omega) (by omega))
          · refine x_iconst 35 hK rfl rfl ?_
            refine x_goto 39 hK rfl rfl ?_
            refine x_istore 41 hK rfl rfl _ rfl ?_
            refine x_aload_n 42 hK rfl rfl (lk1_n l0 (by decide) (Or.inl rfl)) ?_
            refine x_getR 45 hK rfl rfl (sp_133 (h := h4) hG4) (rf_133_2 (h := h4) hG4) ?_
            refine x_iload_n 46 hK rfl rfl (lk1_n l2 (by decide) (Or.inl rfl)) ?_
            refine x_aaload 47 hK rfl rfl (sp_135 (h := h4) hG4) (by decide) (by omega) (by omega) (by omega) ((PT_F hF4 (by decide) hP).1 _ (by omega)) ?_
            refine x_iload_n 48 hK rfl rfl (lk1_n l3 (by decide) (Or.inl rfl)) ?_
            refine x_iload 50 hK rfl rfl lk1_s ?_
            refine x_if_ne 57 53 hK rfl rfl rfl (by omega) (fun _ => ?_) (fun c => by omega)
            refine x_iload_n 58 hK rfl rfl (lk1_n l2 (by decide) (Or.inl rfl)) ?_
            refine x_iload_n 59 hK rfl rfl (lk1_n l1 (by decide) (Or.inl rfl)) ?_
            refine x_if_icmp_ne 66 62 hK rfl rfl rfl (by omega) (by omega) (fun c73 => ?_) (fun c73 => ?_)
            · refine x_aload_n 67 hK rfl rfl (lk1_n l0 (by decide) (Or.inl rfl)) ?_
              refine x_iload_n 68 hK rfl rfl (lk1_n l2 (by decide) (Or.inl rfl)) ?_
              refine x_iload_n 69 hK rfl rfl (lk1_n l3 (by decide) (Or.inl rfl)) ?_
              refine x_callV 72 hK hmono rfl rfl [.ref 133, .int (I k), .int (I l)] [.int (I l), .ref (136 + k.toNat)] rfl rfl (Nat.le_of_ble_eq_true rfl) (Nat.le_of_ble_eq_true rfl) rfl (sp_133 (h := h4) hG4) (CLd_le (Nat.le_of_ble_eq_true rfl) (ctX7_waysBehind hSP hG4 (s := k) (l := l) (PT_F hF4 (by decide) hP) (by omega) (by omega))) ?_
              rintro v9 h9 ⟨e9, rfl⟩
              rw [e9]
              clear e9
              rw [show s3 (fun p : Int => gj h4 (136 + (k + 1).toNat) p.toNat) l 2 = s3 (cwF (fun k : Int => gi h 134 k.toNat) last (last - (k + 1)).toNat) l 2 from s3_ext fun q q0 q8 => t4 (k + 1) q (by omega) q0 q8 (by omega) (Or.inl (by omega))]
              refine x_lastore 73 hK rfl rfl (shx (h := h4) hG4 (r := 50) (pt_r1 _ (by omega)) rfl) (by omega) (by omega) (by omega) ?_
              refine x_iinc 76 hK rfl rfl (lk1_n l3 (by decide) (Or.inl rfl)) _ rfl ?_
              refine x_goto 8 hK rfl rfl ?_
              have ce : (s3 (cwF (fun k : Int => gi h 134 k.toNat) last (last - (k + 1)).toNat) l 2) = cwF (fun k : Int => gi h 134 k.toNat) last (last - k).toNat l := by
                rw [cwF_s (by omega)]
                exact (if_pos (show gi h 134 k.toNat = -1 ∨ gi h 134 k.toNat = l by omega)).symm
              have cr : r64 (s3 (cwF (fun k : Int => gi h 134 k.toNat) last (last - (k + 1)).toNat) l 2) := by rw [ce]; have := cb (by omega); omega
              exact ih _ (by omega) (l + 1) _ _ rfl (by omega) (by omega) (tn _ cr ce) (lk1_n (lk1_n l0 (by decide) (Or.inl rfl)) (by decide) (Or.inl rfl)) (lk1_n (lk1_n l1 (by decide) (Or.inl rfl)) (by decide) (Or.inl rfl)) (lk1_n (lk1_n l2 (by decide) (Or.inl rfl)) (by decide) (Or.inl rfl)) lk1_s (GD_J (hG4)) (FRM_Jn 0 8 (hF4) (r := 50) (pt_r1 _ (by omega)) rfl rfl (by omega) (by omega))
            · refine x_lconstE 63 1 hK rfl rfl rfl ?_
              refine x_goto 72 hK rfl rfl ?_
              refine x_lastore 73 hK rfl rfl (shx (h := h4) hG4 (r := 50) (pt_r1 _ (by omega)) rfl) (by omega) (by omega) (by omega) ?_
              refine x_iinc 76 hK rfl rfl (lk1_n l3 (by decide) (Or.inl rfl)) _ rfl ?_
              refine x_goto 8 hK rfl rfl ?_
              have ce : (1 : Int) = cwF (fun k : Int => gi h 134 k.toNat) last (last - k).toNat l := by
                have c : k = last := by omega
                rw [c, show (last - last).toNat = 0 by omega]
                show (1 : Int) = if gi h 134 last.toNat = -1 ∨ gi h 134 last.toNat = l then 1 else 0
                rw [if_pos (by rw [← c]; omega)]
              exact ih _ (by omega) (l + 1) _ _ rfl (by omega) (by omega) (tn _ (by omega) ce) (lk1_n (lk1_n l0 (by decide) (Or.inl rfl)) (by decide) (Or.inl rfl)) (lk1_n (lk1_n l1 (by decide) (Or.inl rfl)) (by decide) (Or.inl rfl)) (lk1_n (lk1_n l2 (by decide) (Or.inl rfl)) (by decide) (Or.inl rfl)) lk1_s (GD_J (hG4)) (FRM_Jn 0 8 (hF4) (r := 50) (pt_r1 _ (by omega)) rfl rfl (by omega) (by omega))
    refine x_iload_n 3 hK rfl rfl l2 ?_
    refine x_if_lt 85 6 hK rfl rfl rfl (by omega) (fun c2 => ?_) (fun c2 => ?_)
    · obtain rfl : k = -1 := by omega
      exact x_vret hK rfl ⟨rfl, hG3, hF3, t3⟩
    · refine x_iconst 7 hK rfl rfl ?_
      refine x_istore_n 8 hK rfl rfl _ rfl ?_
      exact loopL _ 0 _ _ rfl (by omega) (by omega) (t3) (lk1_n l0 (by decide) (Or.inl rfl)) (lk1_n l1 (by decide) (Or.inl rfl)) (lk1_n l2 (by decide) (Or.inl rfl)) lk1_s (hG3) (hF3)
  refine x_iload_n 1 hK rfl rfl rfl ?_
  refine x_istore_n 2 hK rfl rfl [(2, .int (I last)), (0, .ref 133), (1, .int (I last))] rfl ?_
  exact loopK _ last _ _ rfl (by omega) ((fun k' l' y1 y2 y3 y4 y5 => absurd y5 (by omega))) rfl rfl rfl (hG) ((FRM.rf : FRM gRL [(1, 50, 0, 8)] h h))
set_option maxRecDepth 4000 in
theorem ctX7_leastOrder {SP : CT} (hSP : MONO SP) {sh : List (Nat × Nat)} {h : aH} (hG : GD gE gRL sh h) {s l : Int} (hP : PT h) (hs : 0 ≤ s ∧ s ≤ 24) (hl : 0 ≤ l ∧ l ≤ 8) (hg : ∀ q, 0 ≤ q → q ≤ 8 → 0 ≤ (fun p : Int => gj h (136 + s.toNat) p.toNat) q) : CLd SP 3 mX7_leastOrder [.ref 133, .int (I s), .int (I l)] h 0 0 (fun rv h' => h' = h ∧ rv = some (.int (I (nxV (fun p : Int => gj h (136 + s.toNat) p.toNat) l)))) := by
  refine x_met _ rfl (Nat.le_of_ble_eq_true rfl) (fun K hK => ?_)
  have hmono := MONO_CLd hSP 2
  have nd : nxV (fun p : Int => gj h (136 + s.toNat) p.toNat) l = if 0 < (fun p : Int => gj h (136 + s.toNat) p.toNat) (max 0 (min 8 (l + -1))) then -1 else if 0 < (fun p : Int => gj h (136 + s.toNat) p.toNat) (max 0 (min 8 (l + 0))) then 0 else 1 := rfl
  have ga : 0 ≤ gj h (136 + s.toNat) (max 0 (min 8 (l + -1))).toNat := hg _ (by omega) (by omega)
  have gb : 0 ≤ gj h (136 + s.toNat) (max 0 (min 8 (l + 0))).toNat := hg _ (by omega) (by omega)
  have ra := gj_r h (136 + s.toNat) (max 0 (min 8 (l + -1))).toNat
  have rb := gj_r h (136 + s.toNat) (max 0 (min 8 (l + 0))).toNat
  refine x_iconst 1 hK rfl rfl ?_
  refine x_istore_n 2 hK rfl rfl [(3, .int (I (-1))), (0, .ref 133), (1, .int (I s)), (2, .int (I l))] rfl ?_
  refine x_iload_n 3 hK rfl rfl rfl ?_
  refine x_iconst 4 hK rfl rfl ?_
  refine x_if_icmp_ge 31 7 hK rfl rfl rfl (by omega) (by omega) (fun c => by omega) (fun _ => ?_)
  refine x_aload_n 8 hK rfl rfl rfl ?_
  refine x_getR 11 hK rfl rfl (sp_133 (h := h) hG) (rf_133_2 (h := h) hG) ?_
  refine x_iload_n 12 hK rfl rfl rfl ?_
  refine x_aaload 13 hK rfl rfl (sp_135 (h := h) hG) (by decide) (by omega) (by omega) (by omega) (hP.1 _ (by omega)) ?_
  refine x_iload_n 14 hK rfl rfl rfl ?_
  refine x_iload_n 15 hK rfl rfl rfl ?_
  refine x_iadd 16 hK rfl rfl ?_
  refine x_callS 19 hK hmono rfl (Or.inr rfl) rfl [.int (I (l + (-1)))] [.ref (136 + s.toNat)] rfl rfl (Nat.le_of_ble_eq_true rfl) (Nat.le_of_ble_eq_true rfl) (CLd_le (Nat.le_of_ble_eq_true rfl) (ctX10_keepOnSea hSP (v := (l + (-1))) (by omega))) ?_
  rintro v9 h9 ⟨e9, rfl⟩
  rw [e9]
  clear e9
  refine x_laloadE 20 hK rfl rfl (shx (h := h) hG (r := 50) (pt_r1 _ (by omega)) rfl) (by omega) (by omega) (by omega) (e' := (gj h (136 + s.toNat) (max 0 (min 8 (l + (-1)))).toNat)) (rfl) ?_
  refine x_lconstE 21 0 hK rfl rfl rfl ?_
  refine x_lcmp_ne 31 25 hK rfl rfl rfl rfl (by omega) (by omega) (fun c16 => ?_) (fun c16 => ?_)
  · refine x_iload_n 32 hK rfl rfl rfl ?_
    have e9 : nxV (fun p : Int => gj h (136 + s.toNat) p.toNat) l = (-1) := by rw [nd]; exact if_pos (show 0 < gj h (136 + s.toNat) (max 0 (min 8 (l + -1))).toNat by omega)
    exact x_iret hK rfl ⟨rfl, by rw [e9]⟩
  · refine x_iinc 28 hK rfl rfl rfl [(3, .int (I 0)), (0, .ref 133), (1, .int (I s)), (2, .int (I l))] rfl ?_
    refine x_goto 2 hK rfl rfl ?_
    refine x_iload_n 3 hK rfl rfl rfl ?_
    refine x_iconst 4 hK rfl rfl ?_
    refine x_if_icmp_ge 31 7 hK rfl rfl rfl (by omega) (by omega) (fun c => by omega) (fun _ => ?_)
    refine x_aload_n 8 hK rfl rfl rfl ?_
    refine x_getR 11 hK rfl rfl (sp_133 (h := h) hG) (rf_133_2 (h := h) hG) ?_
    refine x_iload_n 12 hK rfl rfl rfl ?_
    refine x_aaload 13 hK rfl rfl (sp_135 (h := h) hG) (by decide) (by omega) (by omega) (by omega) (hP.1 _ (by omega)) ?_
    refine x_iload_n 14 hK rfl rfl rfl ?_
    refine x_iload_n 15 hK rfl rfl rfl ?_
    refine x_iadd 16 hK rfl rfl ?_
    refine x_callS 19 hK hmono rfl (Or.inr rfl) rfl [.int (I (l + 0))] [.ref (136 + s.toNat)] rfl rfl (Nat.le_of_ble_eq_true rfl) (Nat.le_of_ble_eq_true rfl) (CLd_le (Nat.le_of_ble_eq_true rfl) (ctX10_keepOnSea hSP (v := (l + 0)) (by omega))) ?_
    rintro v9 h9 ⟨e9, rfl⟩
    rw [e9]
    clear e9
    refine x_laloadE 20 hK rfl rfl (shx (h := h) hG (r := 50) (pt_r1 _ (by omega)) rfl) (by omega) (by omega) (by omega) (e' := (gj h (136 + s.toNat) (max 0 (min 8 (l + 0))).toNat)) (rfl) ?_
    refine x_lconstE 21 0 hK rfl rfl rfl ?_
    refine x_lcmp_ne 31 25 hK rfl rfl rfl rfl (by omega) (by omega) (fun c34 => ?_) (fun c34 => ?_)
    · refine x_iload_n 32 hK rfl rfl rfl ?_
      have e9 : nxV (fun p : Int => gj h (136 + s.toNat) p.toNat) l = 0 := by rw [nd]; exact (if_neg (show ¬ 0 < gj h (136 + s.toNat) (max 0 (min 8 (l + -1))).toNat by omega)).trans (if_pos (show 0 < gj h (136 + s.toNat) (max 0 (min 8 (l + 0))).toNat by omega))
      exact x_iret hK rfl ⟨rfl, by rw [e9]⟩
    · refine x_iinc 28 hK rfl rfl rfl [(3, .int (I 1)), (0, .ref 133), (1, .int (I s)), (2, .int (I l))] rfl ?_
      refine x_goto 2 hK rfl rfl ?_
      refine x_iload_n 3 hK rfl rfl rfl ?_
      refine x_iconst 4 hK rfl rfl ?_
      refine x_if_icmp_ge 31 7 hK rfl rfl rfl (by omega) (by omega) (fun _ => ?_) (fun c => by omega)
      refine x_iload_n 32 hK rfl rfl rfl ?_
      have e9 : nxV (fun p : Int => gj h (136 + s.toNat) p.toNat) l = 1 := by rw [nd]; exact (if_neg (show ¬ 0 < gj h (136 + s.toNat) (max 0 (min 8 (l + -1))).toNat by omega)).trans (if_neg (show ¬ 0 < gj h (136 + s.toNat) (max 0 (min 8 (l + 0))).toNat by omega))
      exact x_iret hK rfl ⟨rfl, by rw [e9]⟩
set_option maxRecDepth 4000 in
theorem ctX10_ordered {SP : CT} (hSP : MONO SP) {sh : List (Nat × Nat)} {h : aH} (hG : GD gE gRL sh h) (hP : PT h) : CLd SP 6 mX10_ordered [.ref 0] h 0 0 (fun rv h' => ((gi h 133 0 = 0 ∧ rv = some (.int (I (-1))) ∧ crow h' = crow h) ∨ (gi h 133 0 ≠ 0 ∧ rv = some (.int (I (min 1000000 (cwF (fun k : Int => gi h 134 k.toNat) (lcF (gi h 134) 24) (lcF (gi h 134) 24).toNat 4)))) ∧ crow h' = if 0 < cwF (fun k : Int => gi h 134 k.toNat) (lcF (gi h 134) 24) (lcF (gi h 134) 24).toNat 4 then cRow (fun k : Int => gi h 134 k.toNat) (lcF (gi h 134) 24) (lcF (gi h 134) 24).toNat 4 else [])) ∧ GD gE gRL sh h' ∧ FRM gRL [(0, 3, 1, 1), (1, 4, 0, 29), (1, 50, 0, 8)] h h') := by
  refine x_met _ rfl (Nat.le_of_ble_eq_true rfl) (fun K hK => ?_)
  have hmono := MONO_CLd hSP 5
  have lb := lcF_b (gi h 134) 24
  have mb := fun (d : Nat) (hd : d ≤ 25) => cw_bd (fun k : Int => gi h 134 k.toNat) (lcF (gi h 134) 24) hd
  have mq := cw_b (fun k : Int => gi h 134 k.toNat) (lcF (gi h 134) 24)
  have loop : ∀ (mz : Nat) (l k : Int) (h4 : aH) (ls : List (Nat × Value)), (((lcF (gi h 134) 24) + 1 - k).toNat = mz) → (gi h 133 0 ≠ 0) → (1 ≤ k ∧ k ≤ (lcF (gi h 134) 24) + 1) → (0 ≤ l ∧ l ≤ 8) → (CTB (fun k : Int => gi h 134 k.toNat) (lcF (gi h 134) 24) h4 (-1) 0) → (gi h4 3 1 = k - 1) → (0 < cwF (fun k : Int => gi h 134 k.toNat) (lcF (gi h 134) 24) (lcF (gi h 134) 24).toNat 4 → 0 < cwF (fun k : Int => gi h 134 k.toNat) (lcF (gi h 134) 24) ((lcF (gi h 134) 24) - (k - 1)).toNat l) → (¬ 0 < cwF (fun k : Int => gi h 134 k.toNat) (lcF (gi h 134) 24) (lcF (gi h 134) 24).toNat 4 → k = 1) → (0 < cwF (fun k : Int => gi h 134 k.toNat) (lcF (gi h 134) 24) (lcF (gi h 134) 24).toNat 4 → crow h4 ++ cRow (fun k : Int => gi h 134 k.toNat) (lcF (gi h 134) 24) ((lcF (gi h 134) 24) - (k - 1)).toNat l = cRow (fun k : Int => gi h 134 k.toNat) (lcF (gi h 134) 24) (lcF (gi h 134) 24).toNat 4) → lk ls 0 = some (.ref 0) → lk ls 1 = some (.int (I (lcF (gi h 134) 24))) → lk ls 2 = some (.long (J (cwF (fun k : Int => gi h 134 k.toNat) (lcF (gi h 134) 24) (lcF (gi h 134) 24).toNat 4))) → lk ls 4 = some (.int (I l)) → lk ls 5 = some (.int (I k)) → GD gE gRL sh h4 → FRM gRL [(0, 3, 1, 1), (1, 4, 0, 29), (1, 50, 0, 8)] h h4 → K 53 ls [] h4 0 0 := by
    intro mz
    induction mz using Nat.strongRecOn with
    | ind mz ih =>
    intro l k h4 ls hm s1 k0 l0 tb r4 w4 k9 e4 l0 l1 l2 l4 l5 hG4 hF4
    have fb := mb (lcF (gi h 134) 24).toNat (by omega) 4
    refine x_lload_n 54 hK rfl rfl l2 ?_
    refine x_lconstE 55 0 hK rfl rfl rfl ?_
    refine x_lcmp_le 104 59 hK rfl rfl rfl rfl (by omega) (by omega) (fun c3 => ?_) (fun c3 => ?_)
    · refine x_lload_n 105 hK rfl rfl l2 ?_
      refine x_ldc2_w 108 hK rfl rfl ?_
      refine x_lcmp_le 118 112 hK rfl rfl rfl rfl (by omega) (by omega) (fun _ => ?_) (fun c => by omega)
      refine x_lload_n 119 hK rfl rfl l2 ?_
      refine x_l2i 120 hK rfl rfl ?_
      have rw4 : crow h4 = if 0 < cwF (fun k : Int => gi h 134 k.toNat) (lcF (gi h 134) 24) (lcF (gi h 134) 24).toNat 4 then cRow (fun k : Int => gi h 134 k.toNat) (lcF (gi h 134) 24) (lcF (gi h 134) 24).toNat 4 else [] := by
        by_cases c : 0 < cwF (fun k : Int => gi h 134 k.toNat) (lcF (gi h 134) 24) (lcF (gi h 134) 24).toNat 4
        · rw [if_pos c]
          have z := e4 c
          rw [show ((lcF (gi h 134) 24) - (k - 1)).toNat = 0 by omega] at z
          rw [← z]; show crow h4 = crow h4 ++ []; rw [List.append_nil]
        · rw [if_neg c]
          exact crow_0 (by rw [r4, k9 c]; rfl)
      exact x_iret hK rfl ⟨Or.inr ⟨s1, by rw [show min 1000000 (cwF (fun k : Int => gi h 134 k.toNat) (lcF (gi h 134) 24) (lcF (gi h 134) 24).toNat 4) = (cwF (fun k : Int => gi h 134 k.toNat) (lcF (gi h 134) 24) (lcF (gi h 134) 24).toNat 4) from by omega], rw4⟩, hG4, hF4⟩
    · refine x_iload 61 hK rfl rfl l5 ?_
      refine x_iload_n 62 hK rfl rfl l1 ?_
      refine x_if_icmp_gt 104 65 hK rfl rfl rfl (by omega) (by omega) (fun c12 => ?_) (fun c12 => ?_)
      · refine x_lload_n 105 hK rfl rfl l2 ?_
        refine x_ldc2_w 108 hK rfl rfl ?_
        refine x_lcmp_le 118 112 hK rfl rfl rfl rfl (by omega) (by omega) (fun c15 => ?_) (fun c15 => ?_)
        · refine x_lload_n 119 hK rfl rfl l2 ?_
          refine x_l2i 120 hK rfl rfl ?_
          have rw4 : crow h4 = if 0 < cwF (fun k : Int => gi h 134 k.toNat) (lcF (gi h 134) 24) (lcF (gi h 134) 24).toNat 4 then cRow (fun k : Int => gi h 134 k.toNat) (lcF (gi h 134) 24) (lcF (gi h 134) 24).toNat 4 else [] := by
            by_cases c : 0 < cwF (fun k : Int => gi h 134 k.toNat) (lcF (gi h 134) 24) (lcF (gi h 134) 24).toNat 4
            · rw [if_pos c]
              have z := e4 c
              rw [show ((lcF (gi h 134) 24) - (k - 1)).toNat = 0 by omega] at z
              rw [← z]; show crow h4 = crow h4 ++ []; rw [List.append_nil]
            · rw [if_neg c]
              exact crow_0 (by rw [r4, k9 c]; rfl)
          exact x_iret hK rfl ⟨Or.inr ⟨s1, by rw [show min 1000000 (cwF (fun k : Int => gi h 134 k.toNat) (lcF (gi h 134) 24) (lcF (gi h 134) 24).toNat 4) = (cwF (fun k : Int => gi h 134 k.toNat) (lcF (gi h 134) 24) (lcF (gi h 134) 24).toNat 4) from by omega], rw4⟩, hG4, hF4⟩
        · refine x_ldc_w 115 hK rfl rfl ?_
          refine x_goto 120 hK rfl rfl ?_
          have rw4 : crow h4 = if 0 < cwF (fun k : Int => gi h 134 k.toNat) (lcF (gi h 134) 24) (lcF (gi h 134) 24).toNat 4 then cRow (fun k : Int => gi h 134 k.toNat) (lcF (gi h 134) 24) (lcF (gi h 134) 24).toNat 4 else [] := by
            by_cases c : 0 < cwF (fun k : Int => gi h 134 k.toNat) (lcF (gi h 134) 24) (lcF (gi h 134) 24).toNat 4
            · rw [if_pos c]
              have z := e4 c
              rw [show ((lcF (gi h 134) 24) - (k - 1)).toNat = 0 by omega] at z
              rw [← z]; show crow h4 = crow h4 ++ []; rw [List.append_nil]
            · rw [if_neg c]
              exact crow_0 (by rw [r4, k9 c]; rfl)
          exact x_iret hK rfl ⟨Or.inr ⟨s1, by rw [show min 1000000 (cwF (fun k : Int => gi h 134 k.toNat) (lcF (gi h 134) 24) (lcF (gi h 134) 24).toNat 4) = 1000000 from by omega], rw4⟩, hG4, hF4⟩
      · refine x_aload_n 66 hK rfl rfl l0 ?_
        refine x_getR 69 hK rfl rfl (sp_0 (h := h4) hG4) (rf_0_14 (h := h4) hG4) ?_
        refine x_iload 71 hK rfl rfl l5 ?_
        refine x_iload 73 hK rfl rfl l4 ?_
        have ge : ∀ q : Int, 0 ≤ q → q ≤ 8 → gj h4 (136 + k.toNat) q.toNat = (cwF (fun k : Int => gi h 134 k.toNat) (lcF (gi h 134) 24) ((lcF (gi h 134) 24) - k).toNat) q := fun q q0 q8 => tb k q (by omega) q0 q8 (by omega) (Or.inl (by omega))
        have wk := w4 (by omega)
        rw [cwF_s (k := k - 1) (by omega), show k - 1 + 1 = k by omega] at wk
        have w3 : 0 < s3 (cwF (fun k : Int => gi h 134 k.toNat) (lcF (gi h 134) 24) ((lcF (gi h 134) 24) - k).toNat) l 2 := by
          split at wk
          · exact wk
          · omega
        have nv := nxV_okc (fun q => (mq _ q).1) w3
        have nb := nxV_b (cwF (fun k : Int => gi h 134 k.toNat) (lcF (gi h 134) 24) ((lcF (gi h 134) 24) - k).toNat) l
        refine x_callV 76 hK hmono rfl rfl [.ref 133, .int (I k), .int (I l)] [] rfl rfl (Nat.le_of_ble_eq_true rfl) (Nat.le_of_ble_eq_true rfl) rfl (sp_133 (h := h4) hG4) (CLd_le (Nat.le_of_ble_eq_true rfl) (ctX7_leastOrder hSP hG4 (s := k) (l := l) (PT_F hF4 (by decide) hP) (by omega) (by omega) (fun q q0 q8 => by show 0 ≤ gj h4 (136 + k.toNat) q.toNat; rw [ge q q0 q8]; exact (mq _ q).1))) ?_
        rintro v9 h9 ⟨e9, rfl⟩
        rw [e9]
        clear e9
        rw [show nxV (fun p : Int => gj h4 (136 + k.toNat) p.toNat) l = nxV (cwF (fun k : Int => gi h 134 k.toNat) (lcF (gi h 134) 24) ((lcF (gi h 134) 24) - k).toNat) l from nxV_ext ge]
        refine x_istore 78 hK rfl rfl _ rfl ?_
        refine x_aload_n 79 hK rfl rfl (lk1_n l0 (by decide) (Or.inl rfl)) ?_
        refine x_getR 82 hK rfl rfl (sp_0 (h := h4) hG4) (rf_0_1 (h := h4) hG4) ?_
        refine x_iload 84 hK rfl rfl lk1_s ?_
        refine x_i2l 85 hK rfl rfl (by omega) ?_
        have z113 : gi h4 3 1 = (k - 1) := r4
        have z113r : crow h4 = (crow h4) := rfl
        refine x_callV 88 hK hmono rfl rfl [.ref 3, .long (J (nxV (cwF (fun k : Int => gi h 134 k.toNat) (lcF (gi h 134) 24) ((lcF (gi h 134) 24) - k).toNat) l))] [] rfl rfl (Nat.le_of_ble_eq_true rfl) (Nat.le_of_ble_eq_true rfl) rfl (sp_3 (h := h4) hG4) (CLd_le (Nat.le_of_ble_eq_true rfl) (ctX3_add hSP hG4 (by omega) (by omega))) ?_
        rintro v112 h112 ⟨rfl, hG112, hF112, t112, s112⟩
        rw [z113] at t112
        rw [z113r] at s112
        refine x_iload 90 hK rfl rfl (lk1_n l4 (by decide) (Or.inl rfl)) ?_
        refine x_iload 92 hK rfl rfl lk1_s ?_
        refine x_iadd 93 hK rfl rfl ?_
        refine x_callS 96 hK hmono rfl (Or.inl rfl) rfl [.int (I (l + (nxV (cwF (fun k : Int => gi h 134 k.toNat) (lcF (gi h 134) 24) ((lcF (gi h 134) 24) - k).toNat) l)))] [] rfl rfl (Nat.le_of_ble_eq_true rfl) (Nat.le_of_ble_eq_true rfl) (CLd_le (Nat.le_of_ble_eq_true rfl) (ctX10_keepOnSea hSP (v := (l + (nxV (cwF (fun k : Int => gi h 134 k.toNat) (lcF (gi h 134) 24) ((lcF (gi h 134) 24) - k).toNat) l))) (by omega))) ?_
        rintro v9 h9 ⟨e9, rfl⟩
        rw [e9]
        clear e9
        refine x_istore 98 hK rfl rfl _ rfl ?_
        refine x_iinc 101 hK rfl rfl (lk1_n (lk1_n l5 (by decide) (Or.inl rfl)) (by decide) (Or.inl rfl)) _ rfl ?_
        refine x_goto 53 hK rfl rfl ?_
        exact ih _ (by omega) (max 0 (min 8 (l + (nxV (cwF (fun k : Int => gi h 134 k.toNat) (lcF (gi h 134) 24) ((lcF (gi h 134) 24) - k).toNat) l)))) (k + 1) _ _ rfl (s1) (by omega) (by omega) ((fun k' l' y1 y2 y3 y4 y5 => (FRM_gj hF112 (pt_r1 _ (by omega)) rfl).trans (tb k' l' y1 y2 y3 y4 y5))) ((t112).trans (by omega)) ((fun _ => by rw [show (lcF (gi h 134) 24) - (k + 1 - 1) = (lcF (gi h 134) 24) - k by omega]; exact nv)) ((fun z => absurd (show _ from by omega) z)) ((fun z => by rw [s112, ← e4 z, show ((lcF (gi h 134) 24) - (k - 1)).toNat = ((lcF (gi h 134) 24) - k).toNat + 1 by omega, show (lcF (gi h 134) 24) - (k + 1 - 1) = (lcF (gi h 134) 24) - k by omega, List.append_assoc]; rfl)) (lk1_n (lk1_n (lk1_n l0 (by decide) (Or.inl rfl)) (by decide) (Or.inl rfl)) (by decide) (Or.inl rfl)) (lk1_n (lk1_n (lk1_n l1 (by decide) (Or.inl rfl)) (by decide) (Or.inl rfl)) (by decide) (Or.inl rfl)) (lk1_n (lk1_n (lk1_n l2 (by decide) (Or.inr (by decide))) (by decide) (Or.inr (by decide))) (by decide) (Or.inr (by decide))) (lk1_n lk1_s (by decide) (Or.inl rfl)) lk1_s (hG112) ((hF4).trans ((hF112).mono rfl))
  refine x_aload_n 1 hK rfl rfl rfl ?_
  refine x_getR 4 hK rfl rfl (sp_0 (h := h) hG) (rf_0_14 (h := h) hG) ?_
  have g114 := gri (0) (12) hG (a := 133) (r := 47) (k := 0) rfl rfl
  refine x_getE 7 hK rfl (Or.inl rfl) rfl (sp_133 (h := h) hG) (e := (gi h 133 0)) (rfl) ?_
  refine x_if_ne 12 10 hK rfl rfl rfl (by omega) (fun c4 => ?_) (fun c4 => ?_)
  · refine x_aload_n 13 hK rfl rfl rfl ?_
    refine x_getR 16 hK rfl rfl (sp_0 (h := h) hG) (rf_0_14 (h := h) hG) ?_
    refine x_callV 19 hK hmono rfl rfl [.ref 133] [] rfl rfl (Nat.le_of_ble_eq_true rfl) (Nat.le_of_ble_eq_true rfl) rfl (sp_133 (h := h) hG) (CLd_le (Nat.le_of_ble_eq_true rfl) (ctX7_lastStep hSP hG)) ?_
    rintro v9 h9 ⟨e9, rfl⟩
    rw [e9]
    clear e9
    have lb115 := lcF_b (gi h 134) 24
    refine x_istore_n 20 hK rfl rfl [(1, .int (I (lcF (gi h 134) 24))), (0, .ref 0)] rfl ?_
    refine x_aload_n 21 hK rfl rfl rfl ?_
    refine x_getR 24 hK rfl rfl (sp_0 (h := h) hG) (rf_0_14 (h := h) hG) ?_
    refine x_iload_n 25 hK rfl rfl rfl ?_
    refine x_callV 28 hK hmono rfl rfl [.ref 133, .int (I (lcF (gi h 134) 24))] [] rfl rfl (Nat.le_of_ble_eq_true rfl) (Nat.le_of_ble_eq_true rfl) rfl (sp_133 (h := h) hG) (CLd_le (Nat.le_of_ble_eq_true rfl) (ctX7_countWays hSP hG (last := (lcF (gi h 134) 24)) hP (by omega))) ?_
    rintro v2 h2 ⟨rfl, hG2, hF2, tb2⟩
    refine x_aload_n 29 hK rfl rfl rfl ?_
    refine x_getR 32 hK rfl rfl (sp_0 (h := h2) hG2) (rf_0_1 (h := h2) hG2) ?_
    refine x_callV 35 hK hmono rfl rfl [.ref 3] [] rfl rfl (Nat.le_of_ble_eq_true rfl) (Nat.le_of_ble_eq_true rfl) rfl (sp_3 (h := h2) hG2) (CLd_le (Nat.le_of_ble_eq_true rfl) (ctX3_clear hSP hG2)) ?_
    rintro v116 h116 ⟨rfl, hG116, hF116, t116, s116⟩
    refine x_aload_n 36 hK rfl rfl rfl ?_
    refine x_getR 39 hK rfl rfl (sp_0 (h := h116) hG116) (rf_0_14 (h := h116) hG116) ?_
    refine x_getR 42 hK rfl rfl (sp_133 (h := h116) hG116) (rf_133_2 (h := h116) hG116) ?_
    refine x_iconst 43 hK rfl rfl ?_
    refine x_aaload 44 hK rfl rfl (sp_135 (h := h116) hG116) (by decide) (by omega) (by omega) (by omega) ((PT_F hF116 (by decide) (PT_F hF2 (by decide) hP)).1 _ (by omega)) ?_
    refine x_iconst 45 hK rfl rfl ?_
    have g117 := gj_r h2 136 4
    refine x_laloadE 46 hK rfl rfl (shx (h := h116) hG116 (r := 50) rfl rfl) (by omega) (by omega) (by omega) (e' := (gj h2 136 4)) (FRM_gj hF116 (r := 50) rfl rfl) ?_
    have m4 : (gj h2 136 4) = cwF (fun k : Int => gi h 134 k.toNat) (lcF (gi h 134) 24) (lcF (gi h 134) 24).toNat 4 := by
      have z := tb2 0 4 (by omega) (by omega) (by omega) (by omega) (Or.inl (by omega))
      rw [show (lcF (gi h 134) 24) - 0 = (lcF (gi h 134) 24) by omega] at z
      exact z
    rw [m4]
    refine x_lstore_n 47 hK rfl rfl [(2, .long (J (cwF (fun k : Int => gi h 134 k.toNat) (lcF (gi h 134) 24) (lcF (gi h 134) 24).toNat 4))), (1, .int (I (lcF (gi h 134) 24))), (0, .ref 0)] rfl ?_
    refine x_iconst 48 hK rfl rfl ?_
    refine x_istore 50 hK rfl rfl [(4, .int (I 4)), (2, .long (J (cwF (fun k : Int => gi h 134 k.toNat) (lcF (gi h 134) 24) (lcF (gi h 134) 24).toNat 4))), (1, .int (I (lcF (gi h 134) 24))), (0, .ref 0)] rfl ?_
    refine x_iconst 51 hK rfl rfl ?_
    refine x_istore 53 hK rfl rfl [(5, .int (I 1)), (4, .int (I 4)), (2, .long (J (cwF (fun k : Int => gi h 134 k.toNat) (lcF (gi h 134) 24) (lcF (gi h 134) 24).toNat 4))), (1, .int (I (lcF (gi h 134) 24))), (0, .ref 0)] rfl ?_
    exact loop _ 4 1 _ _ rfl (by omega) (by omega) (by omega) ((fun k' l' y1 y2 y3 y4 y5 => (FRM_gj hF116 (pt_r1 _ (by omega)) rfl).trans (tb2 k' l' y1 y2 y3 y4 y5))) (t116) ((fun z => by rw [show (lcF (gi h 134) 24) - (1 - 1) = (lcF (gi h 134) 24) by omega]; exact z)) ((fun _ => rfl)) ((fun _ => by rw [s116, show (lcF (gi h 134) 24) - (1 - 1) = (lcF (gi h 134) 24) by omega]; rfl)) rfl rfl rfl rfl rfl (hG116) (((hF2).mono rfl).trans ((hF116).mono rfl))
  · refine x_iconst 11 hK rfl rfl ?_
    exact x_iret hK rfl ⟨Or.inl ⟨by omega, rfl, rfl⟩, hG, (FRM.rf : FRM gRL [(0, 3, 1, 1), (1, 4, 0, 29), (1, 50, 0, 8)] h h)⟩
end
section
/-! THE TEXT: sign(), end() (both), the class opens it -/
/-- the byte k of v, the highest first -/
noncomputable def byF (v k : Int) : Int := bAnd (bShr v (24 - 8 * k)) 255
theorem I_ti (x : Int32) : I x.toInt = x := t_I x
theorem by_bv (x : BitVec 32) (s : Nat) (hs : s ≤ 24) : (x >>> s) &&& 255#32 = (x.sshiftRight s) &&& 255#32 := by
  apply BitVec.eq_of_getLsbD_eq
  intro i hi
  by_cases h8 : i < 8
  · have e : (x >>> s).getLsbD i = (x.sshiftRight s).getLsbD i := by
      rw [BitVec.getLsbD_ushiftRight, BitVec.getLsbD_sshiftRight]
      simp [show ¬ (32 ≤ i) by omega, show s + i < 32 by omega]
    rw [BitVec.getLsbD_and, BitVec.getLsbD_and, e]
  · have e : (255#32).getLsbD i = false := by
      have : ∀ i, i < 32 → 8 ≤ i → (255#32).getLsbD i = false := by decide
      exact this i hi (by omega)
    rw [BitVec.getLsbD_and, BitVec.getLsbD_and, e, Bool.and_false, Bool.and_false]
theorem by_us (v : Int) (s : Nat) (hs : s = 24 ∨ s = 16 ∨ s = 8 ∨ s = 0) : bAnd (bUsh v s) 255 = bAnd (bShr v s) 255 := by
  have key : ((I v).toUInt32 >>> ((I s).toUInt32 &&& Int32.toUInt32 31)).toInt32 &&& I 255 = (I v >>> (I s &&& 31)) &&& I 255 := by
    apply Int32.toBitVec.inj
    rcases hs with rfl | rfl | rfl | rfl
    · exact by_bv (I v).toBitVec 24 (by omega)
    · exact by_bv (I v).toBitVec 16 (by omega)
    · exact by_bv (I v).toBitVec 8 (by omega)
    · exact by_bv (I v).toBitVec 0 (by omega)
  unfold bAnd bUsh bShr
  rw [t_I, t_I, key]
theorem by_r (v k : Int) : 0 ≤ byF v k ∧ byF v k ≤ 255 := by
  have h : ∀ x : BitVec 32, (x &&& 255#32).toNat ≤ 255 := fun x => by
    rw [BitVec.toNat_and]
    exact Nat.and_le_right
  have e : byF v k = ((I (bShr v (24 - 8 * k)) &&& I 255).toBitVec.toInt) := rfl
  have e2 : (I (bShr v (24 - 8 * k)) &&& I 255).toBitVec = (I (bShr v (24 - 8 * k))).toBitVec &&& 255#32 := rfl
  rw [e, e2]
  have h2 := h (I (bShr v (24 - 8 * k))).toBitVec
  rw [BitVec.toInt_eq_toNat_of_lt (by omega)]
  omega
noncomputable def sgR (n : Int) : Int := if 76 < n then -1 else n + 4
/-- the signs behind sign() -/
noncomputable def sgT (t : Nat → Int) (n v : Int) (j : Nat) : Int := if n ≤ 76 ∧ n ≤ j ∧ (j : Int) < n + 4 then byF v (j - n) else t j
theorem sgT_4 {t : Nat → Int} {n v : Int} (h0 : 0 ≤ n) (h : n ≤ 76) (j : Nat) : (if j = (n + 3).toNat then byF v 3 else if j = (n + 2).toNat then byF v 2 else if j = (n + 1).toNat then byF v 1 else if j = n.toNat then byF v 0 else t j) = sgT t n v j := by
  unfold sgT
  by_cases c : n ≤ 76 ∧ n ≤ j ∧ (j : Int) < n + 4
  · rw [if_pos c]
    rcases (show (j : Int) = n + 3 ∨ (j : Int) = n + 2 ∨ (j : Int) = n + 1 ∨ (j : Int) = n by omega) with e | e | e | e
    · rw [if_pos (by omega), e, show n + 3 - n = 3 by omega]
    · rw [if_neg (by omega), if_pos (by omega), e, show n + 2 - n = 2 by omega]
    · rw [if_neg (by omega), if_neg (by omega), if_pos (by omega), e, show n + 1 - n = 1 by omega]
    · rw [if_neg (by omega), if_neg (by omega), if_neg (by omega), if_pos (by omega), e, show n - n = 0 by omega]
  · rw [if_neg c, if_neg (by omega), if_neg (by omega), if_neg (by omega), if_neg (by omega)]
theorem sgT_no {t : Nat → Int} {n v : Int} (h : 76 < n) : sgT t n v = t := funext fun j => if_neg (by omega)
theorem wI_if {h : aH} {a k : Nat} {e : Int} (he : r32 e) (j : Nat) : gi (wI h a k e) a j = if j = k then e else gi h a j := by
  by_cases c : j = k
  · rw [if_pos c, c]; exact gi_same he
  · rw [if_neg c]; exact gi_k c _
set_option maxRecDepth 4000 in
theorem ctX9_append {SP : CT} (hSP : MONO SP) {sh : List (Nat × Nat)} {h : aH} (hG : GD gE gRL sh h) {s : Int} (hs : 0 ≤ s ∧ s ≤ 65535) (hn : gi h 1 1 < 80) : CLd SP 1 mX9_append [.ref 1, .int (I s)] h 0 0 (fun rv h' => rv = none ∧ GD gE gRL sh h' ∧ FRM gRL [(0, 1, 1, 1), (0, 2, 0, 79)] h h' ∧ gi h' 1 1 = gi h 1 1 + 1 ∧ ∀ j, gi h' 2 j = if j = (gi h 1 1).toNat then s else gi h 2 j) := by
  refine x_met _ rfl (Nat.le_of_ble_eq_true rfl) (fun K hK => ?_)
  have hmono := MONO_CLd hSP 0
  refine x_aload_n 1 hK rfl rfl rfl ?_
  have g64 := gri (0) (80) hG (a := 1) (r := 1) (k := 1) rfl rfl
  refine x_getE 4 hK rfl (Or.inl rfl) rfl (sp_1 (h := h) hG) (e := (gi h 1 1)) (rfl) ?_
  refine x_bipush 6 hK rfl rfl rfl ?_
  refine x_if_icmp_ge 29 9 hK rfl rfl rfl (by omega) (by omega) (fun c4 => ?_) (fun c4 => ?_)
  · exact absurd hn (by omega)
  · refine x_aload_n 10 hK rfl rfl rfl ?_
    refine x_getR 13 hK rfl rfl (sp_1 (h := h) hG) (rf_1_0 (h := h) hG) ?_
    refine x_aload_n 14 hK rfl rfl rfl ?_
    refine x_getE 17 hK rfl (Or.inl rfl) rfl (sp_1 (h := h) hG) (e := (gi h 1 1)) (rfl) ?_
    refine x_iload_n 18 hK rfl rfl rfl ?_
    refine x_castore 19 hK rfl rfl (sp_2 (h := h) hG) (by omega) (by omega) (by omega) (chr_ok (by omega)) ?_
    refine x_aload_n 20 hK rfl rfl rfl ?_
    refine x_dup 21 hK rfl rfl rfl ?_
    refine x_getE 24 hK rfl (Or.inl rfl) rfl (sp_1 (h := h) hG) (e := (gi h 1 1)) (gi_a (by decide) _) ?_
    refine x_iconst 25 hK rfl rfl ?_
    refine x_iadd 26 hK rfl rfl ?_
    refine x_putI 29 hK rfl rfl (sp_1 (h := h) hG) ?_
    exact x_vret hK rfl ⟨rfl, GD_w1 (GD_wu (hG) (r := 2) rfl (by omega) rfl (by omega) (by omega)) (r := 1) rfl (by omega) rfl (by omega) (by omega), FRM_w (FRM_wn 0 79 ((FRM.rf : FRM gRL [(0, 1, 1, 1), (0, 2, 0, 79)] h h)) (r := 2) rfl rfl rfl (by omega) (by omega)) (r := 1) rfl rfl, gi_same (by omega), fun j => (gi_a (by decide) _).trans (wI_if (by omega) j)⟩
set_option maxRecDepth 4000 in
theorem ctX10_sign {SP : CT} (hSP : MONO SP) {sh : List (Nat × Nat)} {h : aH} (hG : GD gE gRL sh h) {v : Int} (rv : r32 v) : CLd SP 2 mX10_sign [.ref 0, .int (I v)] h 0 0 (fun rv h' => rv = some (.int (I (sgR (gi h 1 1)))) ∧ GD gE gRL sh h' ∧ FRM gRL [(0, 1, 1, 1), (0, 2, 0, 79)] h h' ∧ gi h' 1 1 = (if 76 < gi h 1 1 then gi h 1 1 else gi h 1 1 + 4) ∧ ∀ j, gi h' 2 j = sgT (gi h 2) (gi h 1 1) v j) := by
  refine x_met _ rfl (Nat.le_of_ble_eq_true rfl) (fun K hK => ?_)
  have hmono := MONO_CLd hSP 1
  have gs := gri 0 80 hG (a := 1) (r := 1) (k := 1) rfl rfl
  have b0 := by_r v 0
  have b1 := by_r v 1
  have b2 := by_r v 2
  have b3 := by_r v 3
  have u0 : bAnd (bUsh v 24) 255 = byF v 0 := by_us v 24 (by omega)
  have u1 : bAnd (bUsh v 16) 255 = byF v 1 := by_us v 16 (by omega)
  have u2 : bAnd (bUsh v 8) 255 = byF v 2 := by_us v 8 (by omega)
  have u3 : bAnd (bUsh v 0) 255 = byF v 3 := by_us v 0 (by omega)
  refine x_aload_n 1 hK rfl rfl rfl ?_
  refine x_getR 4 hK rfl rfl (sp_0 (h := h) hG) (rf_0_0 (h := h) hG) ?_
  have g65 := gri (0) (80) hG (a := 1) (r := 1) (k := 1) rfl rfl
  refine x_getE 7 hK rfl (Or.inl rfl) rfl (sp_1 (h := h) hG) (e := (gi h 1 1)) (rfl) ?_
  refine x_iconst 8 hK rfl rfl ?_
  refine x_iadd 9 hK rfl rfl ?_
  refine x_bipush 11 hK rfl rfl rfl ?_
  refine x_if_icmp_le 16 14 hK rfl rfl rfl (by omega) (by omega) (fun c7 => ?_) (fun c7 => ?_)
  · refine x_bipush 18 hK rfl rfl rfl ?_
    refine x_istore_n 19 hK rfl rfl [(2, .int (I 24)), (0, .ref 0), (1, .int (I v))] rfl ?_
    refine x_iload_n 20 hK rfl rfl rfl ?_
    refine x_if_lt 44 23 hK rfl rfl rfl (by omega) (fun c => by omega) (fun _ => ?_)
    refine x_aload_n 24 hK rfl rfl rfl ?_
    refine x_getR 27 hK rfl rfl (sp_0 (h := h) hG) (rf_0_0 (h := h) hG) ?_
    refine x_iload_n 28 hK rfl rfl rfl ?_
    refine x_iload_n 29 hK rfl rfl rfl ?_
    have g66 := bUsh_r v 24
    refine x_iushrF 30 hK rfl rfl ?_
    refine x_sipush 33 hK rfl rfl rfl ?_
    have g67 := bAnd_r (bUsh v 24) 255
    refine x_iandF 34 hK rfl rfl ?_
    rw [u0]
    refine x_i2c 35 hK rfl rfl (chr_ok (by omega)) ?_
    have z69 : gi h 1 1 = (gi h 1 1) := rfl
    refine x_callV 38 hK hmono rfl rfl [.ref 1, .int (I (byF v 0))] [] rfl rfl (Nat.le_of_ble_eq_true rfl) (Nat.le_of_ble_eq_true rfl) rfl (sp_1 (h := h) hG) (CLd_le (Nat.le_of_ble_eq_true rfl) (ctX9_append hSP hG (by omega) (by omega))) ?_
    rintro v68 h68 ⟨rfl, hG68, hF68, t68, s68⟩
    rw [z69] at t68 s68
    refine x_iinc 41 hK rfl rfl rfl [(2, .int (I 16)), (0, .ref 0), (1, .int (I v))] rfl ?_
    refine x_goto 19 hK rfl rfl ?_
    refine x_iload_n 20 hK rfl rfl rfl ?_
    refine x_if_lt 44 23 hK rfl rfl rfl (by omega) (fun c => by omega) (fun _ => ?_)
    refine x_aload_n 24 hK rfl rfl rfl ?_
    refine x_getR 27 hK rfl rfl (sp_0 (h := h68) hG68) (rf_0_0 (h := h68) hG68) ?_
    refine x_iload_n 28 hK rfl rfl rfl ?_
    refine x_iload_n 29 hK rfl rfl rfl ?_
    have g70 := bUsh_r v 16
    refine x_iushrF 30 hK rfl rfl ?_
    refine x_sipush 33 hK rfl rfl rfl ?_
    have g71 := bAnd_r (bUsh v 16) 255
    refine x_iandF 34 hK rfl rfl ?_
    rw [u1]
    refine x_i2c 35 hK rfl rfl (chr_ok (by omega)) ?_
    have z73 : gi h68 1 1 = ((gi h 1 1) + 1) := t68
    refine x_callV 38 hK hmono rfl rfl [.ref 1, .int (I (byF v 1))] [] rfl rfl (Nat.le_of_ble_eq_true rfl) (Nat.le_of_ble_eq_true rfl) rfl (sp_1 (h := h68) hG68) (CLd_le (Nat.le_of_ble_eq_true rfl) (ctX9_append hSP hG68 (by omega) (by omega))) ?_
    rintro v72 h72 ⟨rfl, hG72, hF72, t72, s72⟩
    rw [z73] at t72 s72
    refine x_iinc 41 hK rfl rfl rfl [(2, .int (I 8)), (0, .ref 0), (1, .int (I v))] rfl ?_
    refine x_goto 19 hK rfl rfl ?_
    refine x_iload_n 20 hK rfl rfl rfl ?_
    refine x_if_lt 44 23 hK rfl rfl rfl (by omega) (fun c => by omega) (fun _ => ?_)
    refine x_aload_n 24 hK rfl rfl rfl ?_
    refine x_getR 27 hK rfl rfl (sp_0 (h := h72) hG72) (rf_0_0 (h := h72) hG72) ?_
    refine x_iload_n 28 hK rfl rfl rfl ?_
    refine x_iload_n 29 hK rfl rfl rfl ?_
    have g74 := bUsh_r v 8
    refine x_iushrF 30 hK rfl rfl ?_
    refine x_sipush 33 hK rfl rfl rfl ?_
    have g75 := bAnd_r (bUsh v 8) 255
    refine x_iandF 34 hK rfl rfl ?_
    rw [u2]
    refine x_i2c 35 hK rfl rfl (chr_ok (by omega)) ?_
    have z77 : gi h72 1 1 = (((gi h 1 1) + 1) + 1) := t72
    refine x_callV 38 hK hmono rfl rfl [.ref 1, .int (I (byF v 2))] [] rfl rfl (Nat.le_of_ble_eq_true rfl) (Nat.le_of_ble_eq_true rfl) rfl (sp_1 (h := h72) hG72) (CLd_le (Nat.le_of_ble_eq_true rfl) (ctX9_append hSP hG72 (by omega) (by omega))) ?_
    rintro v76 h76 ⟨rfl, hG76, hF76, t76, s76⟩
    rw [z77] at t76 s76
    refine x_iinc 41 hK rfl rfl rfl [(2, .int (I 0)), (0, .ref 0), (1, .int (I v))] rfl ?_
    refine x_goto 19 hK rfl rfl ?_
    refine x_iload_n 20 hK rfl rfl rfl ?_
    refine x_if_lt 44 23 hK rfl rfl rfl (by omega) (fun c => by omega) (fun _ => ?_)
    refine x_aload_n 24 hK rfl rfl rfl ?_
    refine x_getR 27 hK rfl rfl (sp_0 (h := h76) hG76) (rf_0_0 (h := h76) hG76) ?_
    refine x_iload_n 28 hK rfl rfl rfl ?_
    refine x_iload_n 29 hK rfl rfl rfl ?_
    have g78 := bUsh_r v 0
    refine x_iushrF 30 hK rfl rfl ?_
    refine x_sipush 33 hK rfl rfl rfl ?_
    have g79 := bAnd_r (bUsh v 0) 255
    refine x_iandF 34 hK rfl rfl ?_
    rw [u3]
    refine x_i2c 35 hK rfl rfl (chr_ok (by omega)) ?_
    have z81 : gi h76 1 1 = ((((gi h 1 1) + 1) + 1) + 1) := t76
    refine x_callV 38 hK hmono rfl rfl [.ref 1, .int (I (byF v 3))] [] rfl rfl (Nat.le_of_ble_eq_true rfl) (Nat.le_of_ble_eq_true rfl) rfl (sp_1 (h := h76) hG76) (CLd_le (Nat.le_of_ble_eq_true rfl) (ctX9_append hSP hG76 (by omega) (by omega))) ?_
    rintro v80 h80 ⟨rfl, hG80, hF80, t80, s80⟩
    rw [z81] at t80 s80
    refine x_iinc 41 hK rfl rfl rfl [(2, .int (I (-8))), (0, .ref 0), (1, .int (I v))] rfl ?_
    refine x_goto 19 hK rfl rfl ?_
    refine x_iload_n 20 hK rfl rfl rfl ?_
    refine x_if_lt 44 23 hK rfl rfl rfl (by omega) (fun _ => ?_) (fun c => by omega)
    refine x_aload_n 45 hK rfl rfl rfl ?_
    refine x_getR 48 hK rfl rfl (sp_0 (h := h80) hG80) (rf_0_0 (h := h80) hG80) ?_
    refine x_getE 51 hK rfl (Or.inl rfl) rfl (sp_1 (h := h80) hG80) (e := (((((gi h 1 1) + 1) + 1) + 1) + 1)) (t80) ?_
    have e9 : sgR (gi h 1 1) = gi h 1 1 + 4 := if_neg (by omega)
    have t9 : gi h80 1 1 = gi h 1 1 + 4 := (t80).trans (by omega)
    have c9 : ∀ j, gi h80 2 j = sgT (gi h 2) (gi h 1 1) v j := fun j => by
      rw [s80, s76, s72, s68]
      rw [← sgT_4 (by omega) (by omega)]
      rw [show gi h 1 1 + 1 + 1 + 1 = gi h 1 1 + 3 by omega, show gi h 1 1 + 1 + 1 = gi h 1 1 + 2 by omega]
    exact x_iret hK rfl ⟨by rw [e9, show (((((gi h 1 1) + 1) + 1) + 1) + 1) = gi h 1 1 + 4 by omega], hG80, (((hF68).trans ((hF72).mono rfl)).trans ((hF76).mono rfl)).trans ((hF80).mono rfl), t9.trans (if_neg (by omega)).symm, c9⟩
  · refine x_iconst 15 hK rfl rfl ?_
    exact x_iret hK rfl ⟨by rw [show sgR (gi h 1 1) = -1 from if_pos (by omega)], hG, (FRM.rf : FRM gRL [(0, 1, 1, 1), (0, 2, 0, 79)] h h), (if_pos (by omega)).symm, fun j => by rw [sgT_no (by omega)]⟩
set_option maxRecDepth 4000 in
theorem ctX10_end {SP : CT} (hSP : MONO SP) {sh : List (Nat × Nat)} {h : aH} (hG : GD gE gRL sh h) {n : Int} (rn : r32 n) : CLd SP 2 mX10_end [.ref 0, .int (I n)] h 0 0 (fun rv h' => rv = some (.int (I (if 0 ≤ n ∧ n ≤ gi h 1 1 then 1 else 0))) ∧ GD gE gRL sh h' ∧ FRM gRL [(0, 1, 1, 1)] h h' ∧ gi h' 1 1 = (if 0 ≤ n ∧ n ≤ gi h 1 1 then n else gi h 1 1)) := by
  refine x_met _ rfl (Nat.le_of_ble_eq_true rfl) (fun K hK => ?_)
  have hmono := MONO_CLd hSP 1
  have gs := gri 0 80 hG (a := 1) (r := 1) (k := 1) rfl rfl
  refine x_iload_n 1 hK rfl rfl rfl ?_
  refine x_if_lt 15 4 hK rfl rfl rfl (by omega) (fun c2 => ?_) (fun c2 => ?_)
  · refine x_iconst 16 hK rfl rfl ?_
    exact x_zret hK rfl (by omega) ⟨by rw [if_neg (by omega)], hG, (FRM.rf : FRM gRL [(0, 1, 1, 1)] h h), by rw [if_neg (by omega)]⟩
  · refine x_iload_n 5 hK rfl rfl rfl ?_
    refine x_aload_n 6 hK rfl rfl rfl ?_
    refine x_getR 9 hK rfl rfl (sp_0 (h := h) hG) (rf_0_0 (h := h) hG) ?_
    have g82 := gri (0) (80) hG (a := 1) (r := 1) (k := 1) rfl rfl
    refine x_getE 12 hK rfl (Or.inl rfl) rfl (sp_1 (h := h) hG) (e := (gi h 1 1)) (rfl) ?_
    refine x_if_icmp_le 17 15 hK rfl rfl rfl (by omega) (by omega) (fun c9 => ?_) (fun c9 => ?_)
    · refine x_aload_n 18 hK rfl rfl rfl ?_
      refine x_getR 21 hK rfl rfl (sp_0 (h := h) hG) (rf_0_0 (h := h) hG) ?_
      refine x_iload_n 22 hK rfl rfl rfl ?_
      refine x_putI 25 hK rfl rfl (sp_1 (h := h) hG) ?_
      refine x_iconst 26 hK rfl rfl ?_
      exact x_zret hK rfl (by omega) ⟨by rw [if_pos (by omega)], GD_w1 (hG) (r := 1) rfl (by omega) rfl (by omega) (by omega), FRM_w ((FRM.rf : FRM gRL [(0, 1, 1, 1)] h h)) (r := 1) rfl rfl, by rw [if_pos (by omega)]; exact gi_same (by omega)⟩
    · refine x_iconst 16 hK rfl rfl ?_
      exact x_zret hK rfl (by omega) ⟨by rw [if_neg (by omega)], hG, (FRM.rf : FRM gRL [(0, 1, 1, 1)] h h), by rw [if_neg (by omega)]⟩
set_option maxRecDepth 4000 in
theorem ctX11_sign {SP : CT} (hSP : MONO SP) {sh : List (Nat × Nat)} {h : aH} (hG : GD gE gRL sh h) {v : Int} (rv : r32 v) : CLd SP 2 mX11_sign [.ref 171, .int (I v)] h 0 0 (fun rv h' => rv = some (.int (I (sgR (gi h 171 17)))) ∧ GD gE gRL sh h' ∧ FRM gRL [(0, 54, 0, 0), (0, 54, 17, 17), (0, 63, 0, 79)] h h' ∧ gi h' 171 17 = (if 76 < gi h 171 17 then gi h 171 17 else gi h 171 17 + 4) ∧ ∀ j, gi h' 180 j = sgT (gi h 180) (gi h 171 17) v j) := by
  refine x_met _ rfl (Nat.le_of_ble_eq_true rfl) (fun K hK => ?_)
  have hmono := MONO_CLd hSP 1
  have gs := gri 0 80 hG (a := 171) (r := 54) (k := 17) rfl rfl
  have b0 := by_r v 0
  have b1 := by_r v 1
  have b2 := by_r v 2
  have b3 := by_r v 3
  refine x_aload_n 1 hK rfl rfl rfl ?_
  refine x_iconst 2 hK rfl rfl ?_
  refine x_putI 5 hK rfl rfl (sp_171 (h := h) hG) ?_
  refine x_aload_n 6 hK rfl rfl rfl ?_
  have g83 := gri (0) (80) hG (a := 171) (r := 54) (k := 17) rfl rfl
  refine x_getE 9 hK rfl (Or.inl rfl) rfl (sp_171 (h := h) hG) (e := (gi h 171 17)) (gi_k (by decide) _) ?_
  refine x_bipush 11 hK rfl rfl rfl ?_
  refine x_if_icmp_le 16 14 hK rfl rfl rfl (by omega) (by omega) (fun c7 => ?_) (fun c7 => ?_)
  · refine x_iconst 17 hK rfl rfl ?_
    refine x_istore_n 18 hK rfl rfl [(2, .int (I 0)), (0, .ref 171), (1, .int (I v))] rfl ?_
    refine x_iload_n 19 hK rfl rfl rfl ?_
    refine x_iconst 20 hK rfl rfl ?_
    refine x_if_icmp_ge 53 23 hK rfl rfl rfl (by omega) (by omega) (fun c => by omega) (fun _ => ?_)
    refine x_aload_n 24 hK rfl rfl rfl ?_
    refine x_getR 27 hK rfl rfl (sp_171 (h := h) hG) (rf_171_16 (h := h) hG) ?_
    refine x_aload_n 28 hK rfl rfl rfl ?_
    refine x_getE 31 hK rfl (Or.inl rfl) rfl (sp_171 (h := h) hG) (e := (gi h 171 17)) (gi_k (by decide) _) ?_
    refine x_iload_n 32 hK rfl rfl rfl ?_
    refine x_iadd 33 hK rfl rfl ?_
    refine x_iload_n 34 hK rfl rfl rfl ?_
    refine x_bipush 36 hK rfl rfl rfl ?_
    refine x_bipush 38 hK rfl rfl rfl ?_
    refine x_iload_n 39 hK rfl rfl rfl ?_
    refine x_imul 40 hK rfl rfl ?_
    refine x_isub 41 hK rfl rfl ?_
    have g84 := bShr_r v 24
    refine x_ishrF 42 hK rfl rfl ?_
    refine x_sipush 45 hK rfl rfl rfl ?_
    have g85 := bAnd_r (bShr v 24) 255
    refine x_iandF 46 hK rfl rfl ?_
    rw [show bAnd (bShr v (24 - 8 * 0)) 255 = byF v 0 from rfl]
    refine x_iastore 47 hK rfl rfl (sp_180 (h := h) hG) (by omega) (by omega) (by omega) ?_
    refine x_iinc 50 hK rfl rfl rfl [(2, .int (I 1)), (0, .ref 171), (1, .int (I v))] rfl ?_
    refine x_goto 18 hK rfl rfl ?_
    refine x_iload_n 19 hK rfl rfl rfl ?_
    refine x_iconst 20 hK rfl rfl ?_
    refine x_if_icmp_ge 53 23 hK rfl rfl rfl (by omega) (by omega) (fun c => by omega) (fun _ => ?_)
    refine x_aload_n 24 hK rfl rfl rfl ?_
    refine x_getR 27 hK rfl rfl (sp_171 (h := h) hG) (rf_171_16 (h := h) hG) ?_
    refine x_aload_n 28 hK rfl rfl rfl ?_
    refine x_getE 31 hK rfl (Or.inl rfl) rfl (sp_171 (h := h) hG) (e := (gi h 171 17)) ((gi_a (by decide) _).trans (gi_k (by decide) _)) ?_
    refine x_iload_n 32 hK rfl rfl rfl ?_
    refine x_iadd 33 hK rfl rfl ?_
    refine x_iload_n 34 hK rfl rfl rfl ?_
    refine x_bipush 36 hK rfl rfl rfl ?_
    refine x_bipush 38 hK rfl rfl rfl ?_
    refine x_iload_n 39 hK rfl rfl rfl ?_
    refine x_imul 40 hK rfl rfl ?_
    refine x_isub 41 hK rfl rfl ?_
    have g86 := bShr_r v 16
    refine x_ishrF 42 hK rfl rfl ?_
    refine x_sipush 45 hK rfl rfl rfl ?_
    have g87 := bAnd_r (bShr v 16) 255
    refine x_iandF 46 hK rfl rfl ?_
    rw [show bAnd (bShr v (24 - 8 * 1)) 255 = byF v 1 from rfl]
    refine x_iastore 47 hK rfl rfl (sp_180 (h := h) hG) (by omega) (by omega) (by omega) ?_
    refine x_iinc 50 hK rfl rfl rfl [(2, .int (I 2)), (0, .ref 171), (1, .int (I v))] rfl ?_
    refine x_goto 18 hK rfl rfl ?_
    refine x_iload_n 19 hK rfl rfl rfl ?_
    refine x_iconst 20 hK rfl rfl ?_
    refine x_if_icmp_ge 53 23 hK rfl rfl rfl (by omega) (by omega) (fun c => by omega) (fun _ => ?_)
    refine x_aload_n 24 hK rfl rfl rfl ?_
    refine x_getR 27 hK rfl rfl (sp_171 (h := h) hG) (rf_171_16 (h := h) hG) ?_
    refine x_aload_n 28 hK rfl rfl rfl ?_
    refine x_getE 31 hK rfl (Or.inl rfl) rfl (sp_171 (h := h) hG) (e := (gi h 171 17)) ((gi_a (by decide) _).trans ((gi_a (by decide) _).trans (gi_k (by decide) _))) ?_
    refine x_iload_n 32 hK rfl rfl rfl ?_
    refine x_iadd 33 hK rfl rfl ?_
    refine x_iload_n 34 hK rfl rfl rfl ?_
    refine x_bipush 36 hK rfl rfl rfl ?_
    refine x_bipush 38 hK rfl rfl rfl ?_
    refine x_iload_n 39 hK rfl rfl rfl ?_
    refine x_imul 40 hK rfl rfl ?_
    refine x_isub 41 hK rfl rfl ?_
    have g88 := bShr_r v 8
    refine x_ishrF 42 hK rfl rfl ?_
    refine x_sipush 45 hK rfl rfl rfl ?_
    have g89 := bAnd_r (bShr v 8) 255
    refine x_iandF 46 hK rfl rfl ?_
    rw [show bAnd (bShr v (24 - 8 * 2)) 255 = byF v 2 from rfl]
    refine x_iastore 47 hK rfl rfl (sp_180 (h := h) hG) (by omega) (by omega) (by omega) ?_
    refine x_iinc 50 hK rfl rfl rfl [(2, .int (I 3)), (0, .ref 171), (1, .int (I v))] rfl ?_
    refine x_goto 18 hK rfl rfl ?_
    refine x_iload_n 19 hK rfl rfl rfl ?_
    refine x_iconst 20 hK rfl rfl ?_
    refine x_if_icmp_ge 53 23 hK rfl rfl rfl (by omega) (by omega) (fun c => by omega) (fun _ => ?_)
    refine x_aload_n 24 hK rfl rfl rfl ?_
    refine x_getR 27 hK rfl rfl (sp_171 (h := h) hG) (rf_171_16 (h := h) hG) ?_
    refine x_aload_n 28 hK rfl rfl rfl ?_
    refine x_getE 31 hK rfl (Or.inl rfl) rfl (sp_171 (h := h) hG) (e := (gi h 171 17)) ((gi_a (by decide) _).trans ((gi_a (by decide) _).trans ((gi_a (by decide) _).trans (gi_k (by decide) _)))) ?_
    refine x_iload_n 32 hK rfl rfl rfl ?_
    refine x_iadd 33 hK rfl rfl ?_
    refine x_iload_n 34 hK rfl rfl rfl ?_
    refine x_bipush 36 hK rfl rfl rfl ?_
    refine x_bipush 38 hK rfl rfl rfl ?_
    refine x_iload_n 39 hK rfl rfl rfl ?_
    refine x_imul 40 hK rfl rfl ?_
    refine x_isub 41 hK rfl rfl ?_
    have g90 := bShr_r v 0
    refine x_ishrF 42 hK rfl rfl ?_
    refine x_sipush 45 hK rfl rfl rfl ?_
    have g91 := bAnd_r (bShr v 0) 255
    refine x_iandF 46 hK rfl rfl ?_
    rw [show bAnd (bShr v (24 - 8 * 3)) 255 = byF v 3 from rfl]
    refine x_iastore 47 hK rfl rfl (sp_180 (h := h) hG) (by omega) (by omega) (by omega) ?_
    refine x_iinc 50 hK rfl rfl rfl [(2, .int (I 4)), (0, .ref 171), (1, .int (I v))] rfl ?_
    refine x_goto 18 hK rfl rfl ?_
    refine x_iload_n 19 hK rfl rfl rfl ?_
    refine x_iconst 20 hK rfl rfl ?_
    refine x_if_icmp_ge 53 23 hK rfl rfl rfl (by omega) (by omega) (fun _ => ?_) (fun c => by omega)
    refine x_aload_n 54 hK rfl rfl rfl ?_
    refine x_dup 55 hK rfl rfl rfl ?_
    refine x_getE 58 hK rfl (Or.inl rfl) rfl (sp_171 (h := h) hG) (e := (gi h 171 17)) ((gi_a (by decide) _).trans ((gi_a (by decide) _).trans ((gi_a (by decide) _).trans ((gi_a (by decide) _).trans (gi_k (by decide) _))))) ?_
    refine x_iconst 59 hK rfl rfl ?_
    refine x_iadd 60 hK rfl rfl ?_
    refine x_putI 63 hK rfl rfl (sp_171 (h := h) hG) ?_
    refine x_aload_n 64 hK rfl rfl rfl ?_
    refine x_getE 67 hK rfl (Or.inl rfl) rfl (sp_171 (h := h) hG) (e := ((gi h 171 17) + 4)) (gi_same (by omega)) ?_
    have e9 : sgR (gi h 171 17) = gi h 171 17 + 4 := if_neg (by omega)
    exact x_iret hK rfl ⟨by rw [e9], GD_w1 (GD_wu (GD_wu (GD_wu (GD_wu (GD_w1 (hG) (r := 54) rfl (by omega) rfl (by omega) (by omega)) (r := 63) rfl (by omega) rfl (by omega) (by omega)) (r := 63) rfl (by omega) rfl (by omega) (by omega)) (r := 63) rfl (by omega) rfl (by omega) (by omega)) (r := 63) rfl (by omega) rfl (by omega) (by omega)) (r := 54) rfl (by omega) rfl (by omega) (by omega), FRM_w (FRM_wn 0 79 (FRM_wn 0 79 (FRM_wn 0 79 (FRM_wn 0 79 (FRM_w ((FRM.rf : FRM gRL [(0, 54, 0, 0), (0, 54, 17, 17), (0, 63, 0, 79)] h h)) (r := 54) rfl rfl) (r := 63) rfl rfl rfl (by omega) (by omega)) (r := 63) rfl rfl rfl (by omega) (by omega)) (r := 63) rfl rfl rfl (by omega) (by omega)) (r := 63) rfl rfl rfl (by omega) (by omega)) (r := 54) rfl rfl, (gi_same (by omega)).trans (if_neg (by omega)).symm, fun j => by
        rw [← sgT_4 (by omega) (by omega), gi_a (by decide), wI_if (by omega), wI_if (by omega), wI_if (by omega), wI_if (by omega), gi_a (by decide), show gi h 171 17 + 0 = gi h 171 17 by omega]⟩
  · refine x_iconst 15 hK rfl rfl ?_
    exact x_iret hK rfl ⟨by rw [show sgR (gi h 171 17) = -1 from if_pos (by omega)], GD_w1 (hG) (r := 54) rfl (by omega) rfl (by omega) (by omega), FRM_w ((FRM.rf : FRM gRL [(0, 54, 0, 0), (0, 54, 17, 17), (0, 63, 0, 79)] h h)) (r := 54) rfl rfl, (gi_k (by decide) _).trans (if_pos (by omega)).symm, fun j => by rw [sgT_no (by omega)]; exact gi_a (by decide) _⟩
set_option maxRecDepth 4000 in
theorem ctX11_end {SP : CT} (hSP : MONO SP) {sh : List (Nat × Nat)} {h : aH} (hG : GD gE gRL sh h) {n : Int} (rn : r32 n) : CLd SP 2 mX11_end [.ref 171, .int (I n)] h 0 0 (fun rv h' => rv = some (.int (I (if 0 ≤ n ∧ n ≤ gi h 171 17 then 1 else 0))) ∧ GD gE gRL sh h' ∧ FRM gRL [(0, 54, 0, 0), (0, 54, 17, 17)] h h' ∧ gi h' 171 17 = (if 0 ≤ n ∧ n ≤ gi h 171 17 then n else gi h 171 17)) := by
  refine x_met _ rfl (Nat.le_of_ble_eq_true rfl) (fun K hK => ?_)
  have hmono := MONO_CLd hSP 1
  have gs := gri 0 80 hG (a := 171) (r := 54) (k := 17) rfl rfl
  refine x_aload_n 1 hK rfl rfl rfl ?_
  refine x_iconst 2 hK rfl rfl ?_
  refine x_putI 5 hK rfl rfl (sp_171 (h := h) hG) ?_
  refine x_iload_n 6 hK rfl rfl rfl ?_
  refine x_i2l 7 hK rfl rfl (by omega) ?_
  refine x_lconstE 8 0 hK rfl rfl rfl ?_
  refine x_aload_n 9 hK rfl rfl rfl ?_
  have g92 := gri (0) (80) hG (a := 171) (r := 54) (k := 17) rfl rfl
  refine x_getE 12 hK rfl (Or.inl rfl) rfl (sp_171 (h := h) hG) (e := (gi h 171 17)) (gi_k (by decide) _) ?_
  refine x_i2l 13 hK rfl rfl (by omega) ?_
  have hGp93 : GD gE gRL sh (wI h 171 0 0) := GD_w1 (hG) (r := 54) rfl (by omega) rfl (by omega) (by omega)
  refine x_callS 16 hK hmono rfl (Or.inl rfl) rfl [.long (J n), .long (J 0), .long (J (gi h 171 17))] [] rfl rfl (Nat.le_of_ble_eq_true rfl) (Nat.le_of_ble_eq_true rfl) (CLd_le (Nat.le_of_ble_eq_true rfl) (ctX11_in (by omega) (by omega) (by omega))) ?_
  rintro v9 h9 ⟨e9, ⟨rfl, i194, i294⟩ | ⟨rfl, i194⟩⟩ <;> rw [e9] <;> clear e9
  · refine x_if_ne 21 19 hK rfl rfl rfl (by omega) (fun _ => ?_) (fun c => by omega)
    refine x_aload_n 22 hK rfl rfl rfl ?_
    refine x_iload_n 23 hK rfl rfl rfl ?_
    refine x_putI 26 hK rfl rfl (sp_171 (h := h) hG) ?_
    refine x_iconst 27 hK rfl rfl ?_
    exact x_zret hK rfl (by omega) ⟨by rw [if_pos (by omega)], GD_w1 (GD_w1 (hG) (r := 54) rfl (by omega) rfl (by omega) (by omega)) (r := 54) rfl (by omega) rfl (by omega) (by omega), FRM_w (FRM_w ((FRM.rf : FRM gRL [(0, 54, 0, 0), (0, 54, 17, 17)] h h)) (r := 54) rfl rfl) (r := 54) rfl rfl, by rw [if_pos (by omega)]; exact gi_same (by omega)⟩
  · refine x_if_ne 21 19 hK rfl rfl rfl (by omega) (fun c => by omega) (fun _ => ?_)
    refine x_iconst 20 hK rfl rfl ?_
    exact x_zret hK rfl (by omega) ⟨by rw [if_neg (by omega)], GD_w1 (hG) (r := 54) rfl (by omega) rfl (by omega) (by omega), FRM_w ((FRM.rf : FRM gRL [(0, 54, 0, 0), (0, 54, 17, 17)] h h)) (r := 54) rfl rfl, by rw [if_neg (by omega)]; exact gi_k (by decide) _⟩
set_option maxRecDepth 4000 in
theorem ctX9_open {SP : CT} (hSP : MONO SP) {sh : List (Nat × Nat)} {h : aH} (hG : GD gE gRL sh h) {n : Int} (hn : 0 ≤ n ∧ n ≤ 76) : CLd SP 1 mX9_open [.ref 1, .int (I n)] h 0 0 (fun rv h' => rv = none ∧ GD gE gRL sh h' ∧ FRM gRL [(0, 1, 2, 2), (0, 1, 3, 3), (0, 1, 4, 4), (0, 1, 5, 5)] h h' ∧ gi h' 1 2 = 0 ∧ gi h' 1 3 = min (gi h 1 1) n ∧ gi h' 1 4 = (if n < gi h 1 1 then 1 else 0) ∧ gi h' 1 5 = 0) := by
  refine x_met _ rfl (Nat.le_of_ble_eq_true rfl) (fun K hK => ?_)
  have hmono := MONO_CLd hSP 0
  have gs := gri 0 80 hG (a := 1) (r := 1) (k := 1) rfl rfl
  refine x_aload_n 1 hK rfl rfl rfl ?_
  refine x_iconst 2 hK rfl rfl ?_
  refine x_putI 5 hK rfl rfl (sp_1 (h := h) hG) ?_
  refine x_aload_n 6 hK rfl rfl rfl ?_
  refine x_aload_n 7 hK rfl rfl rfl ?_
  have g95 := gri (0) (80) hG (a := 1) (r := 1) (k := 1) rfl rfl
  refine x_getE 10 hK rfl (Or.inl rfl) rfl (sp_1 (h := h) hG) (e := (gi h 1 1)) (gi_k (by decide) _) ?_
  refine x_iload_n 11 hK rfl rfl rfl ?_
  refine x_min 14 hK rfl rfl (Nat.le_of_ble_eq_true rfl) (by omega) (by omega) ?_
  refine x_putI 17 hK rfl rfl (sp_1 (h := h) hG) ?_
  refine x_aload_n 18 hK rfl rfl rfl ?_
  refine x_aload_n 19 hK rfl rfl rfl ?_
  refine x_getE 22 hK rfl (Or.inl rfl) rfl (sp_1 (h := h) hG) (e := (gi h 1 1)) ((gi_k (by decide) _).trans (gi_k (by decide) _)) ?_
  refine x_iload_n 23 hK rfl rfl rfl ?_
  refine x_if_icmp_le 30 26 hK rfl rfl rfl (by omega) (by omega) (fun c14 => ?_) (fun c14 => ?_)
  · refine x_iconst 31 hK rfl rfl ?_
    refine x_putZ 34 hK rfl rfl (sp_1 (h := h) hG) (by omega) ?_
    refine x_aload_n 35 hK rfl rfl rfl ?_
    refine x_iconst 36 hK rfl rfl ?_
    refine x_putZ 39 hK rfl rfl (sp_1 (h := h) hG) (by omega) ?_
    exact x_vret hK rfl ⟨rfl, GD_w1 (GD_w1 (GD_w1 (GD_w0 (hG) (r := 1) rfl rfl) (r := 1) rfl (by omega) rfl (by omega) (by omega)) (r := 1) rfl (by omega) rfl (by omega) (by omega)) (r := 1) rfl (by omega) rfl (by omega) (by omega), FRM_w (FRM_w (FRM_w (FRM_w ((FRM.rf : FRM gRL [(0, 1, 2, 2), (0, 1, 3, 3), (0, 1, 4, 4), (0, 1, 5, 5)] h h)) (r := 1) rfl rfl) (r := 1) rfl rfl) (r := 1) rfl rfl) (r := 1) rfl rfl, (gi_k (by decide) _).trans ((gi_k (by decide) _).trans ((gi_k (by decide) _).trans (gi_same (by omega)))), (gi_k (by decide) _).trans ((gi_k (by decide) _).trans (gi_same (by omega))), ((gi_k (by decide) _).trans (gi_same (by omega))).trans (by first | rw [if_pos (by omega)] | rw [if_neg (by omega)]), gi_same (by omega)⟩
  · refine x_iconst 27 hK rfl rfl ?_
    refine x_goto 31 hK rfl rfl ?_
    refine x_putZ 34 hK rfl rfl (sp_1 (h := h) hG) (by omega) ?_
    refine x_aload_n 35 hK rfl rfl rfl ?_
    refine x_iconst 36 hK rfl rfl ?_
    refine x_putZ 39 hK rfl rfl (sp_1 (h := h) hG) (by omega) ?_
    exact x_vret hK rfl ⟨rfl, GD_w1 (GD_w1 (GD_w1 (GD_w0 (hG) (r := 1) rfl rfl) (r := 1) rfl (by omega) rfl (by omega) (by omega)) (r := 1) rfl (by omega) rfl (by omega) (by omega)) (r := 1) rfl (by omega) rfl (by omega) (by omega), FRM_w (FRM_w (FRM_w (FRM_w ((FRM.rf : FRM gRL [(0, 1, 2, 2), (0, 1, 3, 3), (0, 1, 4, 4), (0, 1, 5, 5)] h h)) (r := 1) rfl rfl) (r := 1) rfl rfl) (r := 1) rfl rfl) (r := 1) rfl rfl, (gi_k (by decide) _).trans ((gi_k (by decide) _).trans ((gi_k (by decide) _).trans (gi_same (by omega)))), (gi_k (by decide) _).trans ((gi_k (by decide) _).trans (gi_same (by omega))), ((gi_k (by decide) _).trans (gi_same (by omega))).trans (by first | rw [if_pos (by omega)] | rw [if_neg (by omega)]), gi_same (by omega)⟩
end
section
/-! HOW THE CLASS READS TEXTS; THE SHIP -/
theorem fx_F {M : MD} {h h' : aH} (hF : FRM gRL M h h') (h1 : mHas M 0 1 3 = false) (h2 : (M.all fun q => !(Nat.beq q.1 0 && Nat.beq q.2.1 2)) = true) : fx h' = fx h := by
  rw [fx_tx, fx_tx, FRM_gi hF (a := 1) (r := 1) rfl h1, show gi h' 2 = gi h 2 from funext fun k => FRM_gi hF (a := 2) (r := 2) rfl (mHas_non h2 k)]
theorem fx_wI {h : aH} {a k : Nat} {e : Int} (h1 : 2 ≠ a) (h2 : 1 ≠ a ∨ 3 ≠ k) : fx (wI h a k e) = fx h := by
  rw [fx_tx, fx_tx, show gi (wI h a k e) 2 = gi h 2 from funext fun j => gi_a h1 j]
  rcases h2 with h2 | h2
  · rw [gi_a h2]
  · rw [gi_k h2]
theorem tkv_lb (f : Int → Int) : ∀ (n : Nat) (p v : Int), p ≤ (tkv f n p v).2 ∧ (tkv f n p v).2 ≤ p + n
  | 0, p, v => ⟨Int.le_refl _, by show p ≤ _; omega⟩
  | n + 1, p, v => by
    have := tkv_lb f n (p + 1) (v * 10 + f p - 48)
    unfold tkv
    split
    · omega
    · show p ≤ p ∧ p ≤ _; omega
theorem tkv_sp {f : Int → Int} {stop : Int} (hf : ∀ a, stop ≤ a → f a = -1) : ∀ (n : Nat) (p v : Int), p ≤ stop → (tkv f n p v).2 ≤ stop
  | 0, p, v, h => h
  | n + 1, p, v, h => by
    unfold tkv
    split
    · rename_i c
      have : p < stop := by
        by_cases z : stop ≤ p
        · have := hf p z; omega
        · omega
      exact tkv_sp hf n (p + 1) _ (by omega)
    · exact h
theorem fx_end (h : aH) : ∀ a, gi h 1 3 ≤ a → fx h a = -1 := fun a ha => if_neg (by omega)
/-- where the class's reader comes to a stop; -1: nothing is wrong -/
noncomputable def cfl (n most : Int) (r : Bool × Int) : Int := if r.1 = true ∧ r.2 = min n most then (if most < n then min n most else -1) else r.2
theorem cfl_flt {n most : Int} {r : Bool × Int} (hm : 0 ≤ most) (hn : 0 ≤ n) (h0 : 0 ≤ r.2) (h1 : r.2 ≤ min n most) : (cfl n most r = -1 ↔ fltF n most r = 0) ∧ (cfl n most r ≠ -1 → -1 - cfl n most r = fltF n most r) := by
  unfold cfl fltF
  by_cases c : r.1 = true ∧ r.2 = min n most
  · rw [if_pos c]
    by_cases d : most < n
    · rw [if_pos d, if_pos ⟨d, Or.inl c⟩]; omega
    · rw [if_neg d, if_neg (fun z => d z.1), if_pos c]; omega
  · rw [if_neg c]
    by_cases d : most < n ∧ ((r.1 = true ∧ r.2 = min n most) ∨ most ≤ r.2)
    · rw [if_pos d]
      rcases d with ⟨d1, d2 | d2⟩
      · exact absurd d2 c
      · omega
    · rw [if_neg d, if_neg c]; omega
theorem fltF_lt {n most : Int} {r : Bool × Int} (hm : 0 ≤ most) (hn : 0 ≤ n) (h0 : 0 ≤ r.2) (h1 : r.2 ≤ min n most) (h : cfl n most r ≠ -1) : fltF n most r < 0 := by
  have := fltF_le (n := n) (r := r) hm h0
  have := cfl_flt hm hn h0 h1
  omega
/-- a number within bounds -/
noncomputable def nmI (f : Int → Int) (n : Nat) (lo hi p : Int) : Int × Int := if (nmF f n p).1 < 0 then nmF f n p else if lo ≤ (nmF f n p).1 ∧ (nmF f n p).1 ≤ hi then nmF f n p else (-1, (nmF f n p).2 - 1)
/-- POSTS of a ship w long, behind one at a, of which n at most have room -/
noncomputable def shP (f : Int → Int) (w : Int) : Nat → Int → Int → (Bool × Int) × List (Int × Int)
  | 0, _, p => ((true, p), [])
  | n + 1, a, p => if f p = 44 then (if (nmI f 2 (a + 1) (w - 1) (p + 1)).1 < 0 then ((false, (nmI f 2 (a + 1) (w - 1) (p + 1)).2), []) else
      if f (nmI f 2 (a + 1) (w - 1) (p + 1)).2 = 42 then ((shP f w n (nmI f 2 (a + 1) (w - 1) (p + 1)).1 ((nmI f 2 (a + 1) (w - 1) (p + 1)).2 + 1)).1, ((nmI f 2 (a + 1) (w - 1) (p + 1)).1, 1) :: (shP f w n (nmI f 2 (a + 1) (w - 1) (p + 1)).1 ((nmI f 2 (a + 1) (w - 1) (p + 1)).2 + 1)).2)
      else ((shP f w n (nmI f 2 (a + 1) (w - 1) (p + 1)).1 (nmI f 2 (a + 1) (w - 1) (p + 1)).2).1, ((nmI f 2 (a + 1) (w - 1) (p + 1)).1, 0) :: (shP f w n (nmI f 2 (a + 1) (w - 1) (p + 1)).1 (nmI f 2 (a + 1) (w - 1) (p + 1)).2).2)) else ((true, p), [])
/-- LONG, can it stand and up to where, the POSTS -/
noncomputable def shF (f : Int → Int) : Int × (Bool × Int) × List (Int × Int) := ((nmI f 2 2 40 0).1, if 0 < (nmI f 2 2 40 0).1 then shP f (nmI f 2 2 40 0).1 10 (-1) (nmI f 2 2 40 0).2 else ((false, (nmI f 2 2 40 0).2), []))
theorem nmF_p {f : Int → Int} {n : Nat} {p : Int} : p ≤ (nmF f n p).2 := (tkv_lb f n p 0).1
theorem nmF_n {f : Int → Int} {n : Nat} {p : Int} (h : 0 ≤ (nmF f n p).1) : p < (nmF f n p).2 := by
  have := nmF_p (f := f) (n := n) (p := p)
  unfold nmF at h ⊢
  by_cases c : (tkv f n p 0).2 = p
  · rw [if_pos c] at h; exact absurd (show (0 : Int) ≤ -1 from h) (by decide)
  · have := (tkv_lb f n p 0).1
    show p < (tkv f n p 0).2
    omega
theorem nmI_b {f : Int → Int} {n : Nat} {lo hi p stop : Int} (hf : ∀ a, stop ≤ a → f a = -1) (hp : p ≤ stop) : p ≤ (nmI f n lo hi p).2 ∧ (nmI f n lo hi p).2 ≤ stop ∧ (0 ≤ (nmI f n lo hi p).1 → p < (nmI f n lo hi p).2 ∧ lo ≤ (nmI f n lo hi p).1 ∧ (nmI f n lo hi p).1 ≤ hi) := by
  have a := nmF_p (f := f) (n := n) (p := p)
  have b : (nmF f n p).2 ≤ stop := tkv_sp hf n p 0 hp
  unfold nmI
  by_cases c : (nmF f n p).1 < 0
  · rw [if_pos c]
    exact ⟨a, b, fun z => by omega⟩
  · have d := nmF_n (f := f) (n := n) (p := p) (by omega)
    rw [if_neg c]
    by_cases e : lo ≤ (nmF f n p).1 ∧ (nmF f n p).1 ≤ hi
    · rw [if_pos e]; exact ⟨a, b, fun _ => ⟨d, e.1, e.2⟩⟩
    · rw [if_neg e]
      refine ⟨?_, ?_, fun z => ?_⟩
      · show p ≤ (nmF f n p).2 - 1; omega
      · show (nmF f n p).2 - 1 ≤ stop; omega
      · exact absurd (show (0 : Int) ≤ -1 from z) (by decide)
theorem shP_b {f : Int → Int} {w stop : Int} (hf : ∀ a, stop ≤ a → f a = -1) : ∀ (n : Nat) (a p : Int), 0 ≤ p → p ≤ stop → (p ≤ (shP f w n a p).1.2 ∧ (shP f w n a p).1.2 ≤ stop) ∧ (shP f w n a p).2.length ≤ n ∧ ∀ q ∈ (shP f w n a p).2, (a < q.1 ∧ q.1 ≤ w - 1) ∧ (q.2 = 0 ∨ q.2 = 1)
  | 0, a, p, _, h => ⟨⟨Int.le_refl _, h⟩, Nat.le_refl _, fun q hq => absurd hq List.not_mem_nil⟩
  | n + 1, a, p, h0, h => by
    unfold shP
    by_cases c : f p = 44
    · have hp : p < stop := by
        by_cases z : stop ≤ p
        · have := hf p z; omega
        · omega
      have m := nmI_b (n := 2) (lo := a + 1) (hi := w - 1) hf (show p + 1 ≤ stop by omega)
      rw [if_pos c]
      generalize nmI f 2 (a + 1) (w - 1) (p + 1) = e at m ⊢
      by_cases d : e.1 < 0
      · rw [if_pos d]
        exact ⟨⟨by show p ≤ e.2; omega, m.2.1⟩, Nat.zero_le _, fun q hq => absurd hq List.not_mem_nil⟩
      · have m2 := m.2.2 (by omega)
        rw [if_neg d]
        by_cases g : f e.2 = 42
        · have hp2 : e.2 < stop := by
            by_cases z : stop ≤ e.2
            · have := hf e.2 z; omega
            · omega
          have ih := shP_b (w := w) hf n e.1 (e.2 + 1) (by omega) (by omega)
          rw [if_pos g]
          refine ⟨⟨by show p ≤ (shP f w n e.1 (e.2 + 1)).1.2; omega, ih.1.2⟩, by simp only [List.length_cons]; omega, fun q hq => ?_⟩
          rcases List.mem_cons.mp hq with rfl | hq
          · exact ⟨⟨by show a < e.1; omega, by show e.1 ≤ w - 1; omega⟩, Or.inr rfl⟩
          · have := ih.2.2 q hq; omega
        · have ih := shP_b (w := w) hf n e.1 e.2 (by omega) m.2.1
          rw [if_neg g]
          refine ⟨⟨by show p ≤ (shP f w n e.1 e.2).1.2; omega, ih.1.2⟩, by simp only [List.length_cons]; omega, fun q hq => ?_⟩
          rcases List.mem_cons.mp hq with rfl | hq
          · exact ⟨⟨by show a < e.1; omega, by show e.1 ≤ w - 1; omega⟩, Or.inl rfl⟩
          · have := ih.2.2 q hq; omega
    · rw [if_neg c]
      exact ⟨⟨Int.le_refl _, h⟩, Nat.zero_le _, fun q hq => absurd hq List.not_mem_nil⟩
theorem shF_b {f : Int → Int} {stop : Int} (hf : ∀ a, stop ≤ a → f a = -1) (h0 : 0 ≤ stop) : (0 ≤ (shF f).2.1.2 ∧ (shF f).2.1.2 ≤ stop) ∧ (shF f).2.2.length ≤ 10 ∧ ((shF f).2.1.1 = true → 2 ≤ (shF f).1 ∧ (shF f).1 ≤ 40) ∧ ∀ q ∈ (shF f).2.2, (0 ≤ q.1 ∧ q.1 ≤ (shF f).1 - 1) ∧ (q.2 = 0 ∨ q.2 = 1) := by
  have m := nmI_b (n := 2) (lo := 2) (hi := 40) hf (show (0 : Int) ≤ stop from h0)
  unfold shF
  generalize nmI f 2 2 40 0 = e at m ⊢
  by_cases c : 0 < e.1
  · have m2 := m.2.2 (by omega)
    have b := shP_b (w := e.1) hf 10 (-1) e.2 m.1 m.2.1
    simp only [if_pos c]
    exact ⟨⟨by omega, b.1.2⟩, b.2.1, fun _ => ⟨m2.2.1, m2.2.2⟩, fun q hq => by have := b.2.2 q hq; omega⟩
  · simp only [if_neg c]
    exact ⟨⟨m.1, m.2.1⟩, Nat.zero_le _, fun z => absurd z (by decide), fun q hq => absurd hq List.not_mem_nil⟩
/-- the POSTS of a ship at s -/
noncomputable def pstL (h : aH) (s n : Nat) : List (Int × Int) := (List.range n).map fun j => (gi h (s + 1) j, gi h (s + 2) j)
noncomputable def lsum (l : List (Int × Int)) : Int := (l.map Prod.snd).sum
theorem lsum_snoc (l : List (Int × Int)) (q : Int × Int) : lsum (l ++ [q]) = lsum l + q.2 := by unfold lsum; simp
theorem lsum_b {l : List (Int × Int)} (h : ∀ q ∈ l, q.2 = 0 ∨ q.2 = 1) : 0 ≤ lsum l ∧ lsum l ≤ l.length := by
  induction l with
  | nil => exact ⟨Int.le_refl _, Int.le_refl _⟩
  | cons q t ih =>
    have a := ih fun z hz => h z (List.mem_cons_of_mem _ hz)
    have b := h q List.mem_cons_self
    unfold lsum at a ⊢
    simp only [List.map_cons, List.sum_cons, List.length_cons]
    omega
theorem pstL_l (h : aH) (s n : Nat) : (pstL h s n).length = n := by unfold pstL; rw [List.length_map, List.length_range]
theorem pstL_s {h h' : aH} {s n : Nat} {c l : Int} (h1 : gi h' (s + 1) n = c) (h2 : gi h' (s + 2) n = l) (h3 : ∀ j, j < n → gi h' (s + 1) j = gi h (s + 1) j ∧ gi h' (s + 2) j = gi h (s + 2) j) : pstL h' s (n + 1) = pstL h s n ++ [(c, l)] := by
  unfold pstL
  rw [List.range_succ, List.map_append, List.map_cons, List.map_nil, h1, h2]
  congr 1
  exact List.map_congr_left fun j hj => by rw [(h3 j (List.mem_range.mp hj)).1, (h3 j (List.mem_range.mp hj)).2]
theorem pstL_eq {h h' : aH} {s n : Nat} (h3 : ∀ j, j < n → gi h' (s + 1) j = gi h (s + 1) j ∧ gi h' (s + 2) j = gi h (s + 2) j) : pstL h' s n = pstL h s n := by
  unfold pstL
  exact List.map_congr_left fun j hj => by rw [(h3 j (List.mem_range.mp hj)).1, (h3 j (List.mem_range.mp hj)).2]
set_option maxRecDepth 8000 in
theorem rl1 : ∀ a, a < 202 → gRL[a]? = some 1 → a = 1 := by decide
theorem one1 {M : MD} {h h' : aH} (hF : FRM gRL M h h') (hm : (M.all fun q => Nat.beq q.2.1 1) = true) {a : Nat} (ha : a ≠ 1) (k : Nat) : gi h' a k = gi h a k := by
  show (aI h' a k).toInt = (aI h a k).toInt
  rw [hF.1 a k fun r hr => by
    have la : a < 202 := (List.getElem?_eq_some_iff.mp hr).1
    by_cases c : r = 1
    · subst c; exact absurd (rl1 a la hr) ha
    · cases hc : mHas M 0 r k with
      | false => rfl
      | true =>
        obtain ⟨q, hq, h2⟩ := List.any_eq_true.mp hc
        have z := List.all_eq_true.mp hm q hq
        simp only [Bool.and_eq_true, Nat.beq_eq] at h2 z
        exact absurd (h2.1.1.2.symm.trans z) c]
theorem ss_r {s : Nat} (hs : s = 5 ∨ s = 8) : gRL[s]? = some 5 ∧ gRL[s + 1]? = some 6 ∧ gRL[s + 2]? = some 7 := by rcases hs with rfl | rfl <;> decide
theorem ss_p {s : Nat} {h : aH} (hP : PT h) (hs : s = 5 ∨ s = 8) : aR h s 3 = some (s + 1) ∧ aR h s 4 = some (s + 2) := by
  obtain ⟨-, -, -, -, h5, h8, -⟩ := hP
  rcases hs with rfl | rfl
  · exact h5
  · exact h8
theorem tkv_nn {f : Int → Int} : ∀ (n : Nat) (p v : Int), 0 ≤ v → 0 ≤ (tkv f n p v).1
  | 0, _, v, h => h
  | n + 1, p, v, h => by
    unfold tkv
    split
    · exact tkv_nn n _ _ (by omega)
    · exact h
set_option maxRecDepth 4000 in
theorem ctX9_take {SP : CT} (hSP : MONO SP) {sh : List (Nat × Nat)} {h : aH} (hG : GD gE gRL sh h) {s : Int} (hs : 0 ≤ s ∧ s ≤ 65535) (hr : r32 s) : CLd SP 2 mX9_take [.ref 1, .int (I s)] h 0 0 (fun rv h' => GD gE gRL sh h' ∧ FRM gRL [(0, 1, 2, 2)] h h' ∧ ((rv = some (.int (I 1)) ∧ fx h (gi h 1 2) = s ∧ gi h' 1 2 = gi h 1 2 + 1) ∨ (rv = some (.int (I 0)) ∧ fx h (gi h 1 2) ≠ s ∧ gi h' 1 2 = gi h 1 2))) := by
  refine x_met _ rfl (Nat.le_of_ble_eq_true rfl) (fun K hK => ?_)
  have hmono := MONO_CLd hSP 1
  have fr := fx_r hG (gi h 1 2)
  refine x_aload_n 1 hK rfl rfl rfl ?_
  have g258 := gi_r h 1 2
  have at259 : gi h 1 2 = (gi h 1 2) := rfl
  have fe259 : fx h = (fx h) := rfl
  refine x_callV 4 hK hmono rfl rfl [.ref 1] [] rfl rfl (Nat.le_of_ble_eq_true rfl) (Nat.le_of_ble_eq_true rfl) rfl (sp_1 (h := h) hG) (CLd_le (Nat.le_of_ble_eq_true rfl) (ctX9_next hSP hG)) ?_
  rw [fe259, at259]
  rintro v9 h9 ⟨e9, rfl⟩
  rw [e9]
  clear e9
  have fr259 := fx_r hG (gi h 1 2)
  refine x_iload_n 5 hK rfl rfl rfl ?_
  refine x_if_icmp_eq 10 8 hK rfl rfl rfl (by omega) (by omega) (fun c4 => ?_) (fun c4 => ?_)
  · refine x_aload_n 11 hK rfl rfl rfl ?_
    refine x_dup 12 hK rfl rfl rfl ?_
    refine x_getE 15 hK rfl (Or.inl rfl) rfl (sp_1 (h := h) hG) (e := (gi h 1 2)) (rfl) ?_
    refine x_iconst 16 hK rfl rfl ?_
    refine x_iadd 17 hK rfl rfl ?_
    refine x_putI 20 hK rfl rfl (sp_1 (h := h) hG) ?_
    refine x_iconst 21 hK rfl rfl ?_
    have at9 : -1 ≤ fx h (gi h 1 2) := fr.1
    have lt9 : gi h 1 2 < 80 := by
        by_cases z : gi h 1 2 < 80
        · exact z
        · have : fx h (gi h 1 2) = -1 := if_neg (by omega)
          omega
    exact x_zret hK rfl (by omega) ⟨GD_w0 (hG) (r := 1) rfl rfl, FRM_w ((FRM.rf : FRM gRL [(0, 1, 2, 2)] h h)) (r := 1) rfl rfl, Or.inl ⟨rfl, by omega, gi_same (by omega)⟩⟩
  · refine x_iconst 9 hK rfl rfl ?_
    exact x_zret hK rfl (by omega) ⟨hG, FRM.rf, Or.inr ⟨rfl, by omega, rfl⟩⟩
set_option maxRecDepth 4000 in
theorem ctX9_faultAtEnd {SP : CT} (hSP : MONO SP) {sh : List (Nat × Nat)} {h : aH} (hG : GD gE gRL sh h) : CLd SP 1 mX9_faultAtEnd [.ref 1] h 0 0 (fun rv h' => h' = h ∧ rv = some (.int (I (if gi h 1 4 = 1 then gi h 1 3 else -1)))) := by
  refine x_met _ rfl (Nat.le_of_ble_eq_true rfl) (fun K hK => ?_)
  have hmono := MONO_CLd hSP 0
  have gm := gri 0 1 hG (a := 1) (r := 1) (k := 4) rfl rfl
  refine x_aload_n 1 hK rfl rfl rfl ?_
  have g260 := gri (0) (1) hG (a := 1) (r := 1) (k := 4) rfl rfl
  refine x_getE 4 hK rfl (Or.inr rfl) rfl (sp_1 (h := h) hG) (e := (gi h 1 4)) (rfl) ?_
  refine x_if_eq 14 7 hK rfl rfl rfl (by omega) (fun c3 => ?_) (fun c3 => ?_)
  · refine x_iconst 15 hK rfl rfl ?_
    exact x_iret hK rfl ⟨rfl, by first | rw [if_pos (by omega)] | rw [if_neg (by omega)]⟩
  · refine x_aload_n 8 hK rfl rfl rfl ?_
    have g261 := gri (0) (76) hG (a := 1) (r := 1) (k := 3) rfl rfl
    refine x_getE 11 hK rfl (Or.inl rfl) rfl (sp_1 (h := h) hG) (e := (gi h 1 3)) (rfl) ?_
    refine x_goto 15 hK rfl rfl ?_
    exact x_iret hK rfl ⟨rfl, by first | rw [if_pos (by omega)] | rw [if_neg (by omega)]⟩
set_option maxRecDepth 4000 in
theorem ctX6_addPost {SP : CT} (hSP : MONO SP) {sh : List (Nat × Nat)} {h : aH} (hG : GD gE gRL sh h) {s : Nat} {c l : Int} (hP : PT h) (hs : s = 5 ∨ s = 8) (hc : r32 c) (hl : l = 0 ∨ l = 1) (hn : gi h s 1 < 10) (h2 : 0 ≤ gi h s 2 ∧ gi h s 2 ≤ 100) : CLd SP 1 mX6_addPost [.ref s, .int (I c), .int (I l)] h 0 0 (fun rv h' => rv = none ∧ GD gE gRL sh h' ∧ FRM gRL [(0, 5, 1, 2), (0, 6, 0, 9), (0, 7, 0, 9)] h h' ∧ gi h' s 1 = gi h s 1 + 1 ∧ gi h' s 2 = gi h s 2 + l ∧ gi h' s 0 = gi h s 0 ∧ pstL h' s (gi h s 1 + 1).toNat = pstL h s (gi h s 1).toNat ++ [(c, l)] ∧ ∀ a k : Nat, a ≠ 1 → a ≠ s → a ≠ s + 1 → a ≠ s + 2 → gi h' a k = gi h a k) := by
  refine x_met _ rfl (Nat.le_of_ble_eq_true rfl) (fun K hK => ?_)
  have hmono := MONO_CLd hSP 0
  have gp := gri 0 10 hG (a := s) (r := 5) (k := 1) (ss_r hs).1 rfl
  refine x_aload_n 1 hK rfl rfl rfl ?_
  have g262 := gri (0) (10) hG (a := s) (r := 5) (k := 1) (ss_r hs).1 rfl
  refine x_getE 4 hK rfl (Or.inl rfl) rfl (shx (h := h) hG (r := 5) (ss_r hs).1 rfl) (e := (gi h s 1)) (rfl) ?_
  refine x_bipush 6 hK rfl rfl rfl ?_
  refine x_if_icmp_ge 49 9 hK rfl rfl rfl (by omega) (by omega) (fun c4 => ?_) (fun c4 => ?_)
  · exact absurd hn (by omega)
  · refine x_aload_n 10 hK rfl rfl rfl ?_
    refine x_getR 13 hK rfl rfl (shx (h := h) hG (r := 5) (ss_r hs).1 rfl) (ss_p hP hs).1 ?_
    refine x_aload_n 14 hK rfl rfl rfl ?_
    refine x_getE 17 hK rfl (Or.inl rfl) rfl (shx (h := h) hG (r := 5) (ss_r hs).1 rfl) (e := (gi h s 1)) (rfl) ?_
    refine x_iload_n 18 hK rfl rfl rfl ?_
    refine x_iastore 19 hK rfl rfl (shx (h := h) hG (r := 6) (ss_r hs).2.1 rfl) (by omega) (by omega) (by omega) ?_
    refine x_aload_n 20 hK rfl rfl rfl ?_
    refine x_getR 23 hK rfl rfl (shx (h := h) hG (r := 5) (ss_r hs).1 rfl) (ss_p hP hs).2 ?_
    refine x_aload_n 24 hK rfl rfl rfl ?_
    refine x_getE 27 hK rfl (Or.inl rfl) rfl (shx (h := h) hG (r := 5) (ss_r hs).1 rfl) (e := (gi h s 1)) (gi_a (by omega) _) ?_
    refine x_iload_n 28 hK rfl rfl rfl ?_
    refine x_iastore 29 hK rfl rfl (shx (h := h) hG (r := 7) (ss_r hs).2.2 rfl) (by omega) (by omega) (by omega) ?_
    refine x_aload_n 30 hK rfl rfl rfl ?_
    refine x_dup 31 hK rfl rfl rfl ?_
    refine x_getE 34 hK rfl (Or.inl rfl) rfl (shx (h := h) hG (r := 5) (ss_r hs).1 rfl) (e := (gi h s 1)) ((gi_a (by omega) _).trans (gi_a (by omega) _)) ?_
    refine x_iconst 35 hK rfl rfl ?_
    refine x_iadd 36 hK rfl rfl ?_
    refine x_putI 39 hK rfl rfl (shx (h := h) hG (r := 5) (ss_r hs).1 rfl) ?_
    refine x_aload_n 40 hK rfl rfl rfl ?_
    refine x_dup 41 hK rfl rfl rfl ?_
    have g263 := gi_r h s 2
    refine x_getE 44 hK rfl (Or.inl rfl) rfl (shx (h := h) hG (r := 5) (ss_r hs).1 rfl) (e := (gi h s 2)) ((gi_k (by decide) _).trans ((gi_a (by omega) _).trans (gi_a (by omega) _))) ?_
    refine x_iload_n 45 hK rfl rfl rfl ?_
    refine x_iadd 46 hK rfl rfl ?_
    refine x_putI 49 hK rfl rfl (shx (h := h) hG (r := 5) (ss_r hs).1 rfl) ?_
    exact x_vret hK rfl ⟨rfl, GD_w0 (GD_w1 (GD_wu (GD_wn (hG) (r := 6) (ss_r hs).2.1 rfl) (r := 7) (ss_r hs).2.2 (by omega) rfl (by omega) (by omega)) (r := 5) (ss_r hs).1 (by omega) rfl (by omega) (by omega)) (r := 5) (ss_r hs).1 rfl, FRM_w (FRM_w (FRM_wn 0 9 (FRM_wn 0 9 ((FRM.rf : FRM gRL [(0, 5, 1, 2), (0, 6, 0, 9), (0, 7, 0, 9)] h h)) (r := 6) (ss_r hs).2.1 rfl rfl (by omega) (by omega)) (r := 7) (ss_r hs).2.2 rfl rfl (by omega) (by omega)) (r := 5) (ss_r hs).1 rfl) (r := 5) (ss_r hs).1 rfl, (gi_k (by decide) _).trans (gi_same (by omega)), gi_same (by omega), (gi_k (by decide) _).trans ((gi_k (by decide) _).trans ((gi_a (by omega) _).trans (gi_a (by omega) _))), (by
        rw [show (gi h s 1 + 1).toNat = (gi h s 1).toNat + 1 by omega]
        exact pstL_s ((gi_a (by omega) _).trans ((gi_a (by omega) _).trans ((gi_a (by omega) _).trans (gi_same (by omega))))) ((gi_a (by omega) _).trans ((gi_a (by omega) _).trans (gi_same (by omega)))) fun j hj => ⟨(gi_a (by omega) _).trans ((gi_a (by omega) _).trans ((gi_a (by omega) _).trans (gi_k (by omega) _))), (gi_a (by omega) _).trans ((gi_a (by omega) _).trans ((gi_k (by omega) _).trans (gi_a (by omega) _)))⟩), (fun a k n1 n2 n3 n4 => (gi_a (by omega) _).trans ((gi_a (by omega) _).trans ((gi_a (by omega) _).trans (gi_a (by omega) _))))⟩
theorem nm_1 {e : Int} (h : e = -1 ∨ (0 ≤ e ∧ ((1 : Int) = 1 → e ≤ 9) ∧ ((1 : Int) = 2 → e ≤ 99) ∧ e ≤ 999)) : -1 ≤ e ∧ e ≤ 9 := by omega
theorem nm_2 {e : Int} (h : e = -1 ∨ (0 ≤ e ∧ ((2 : Int) = 1 → e ≤ 9) ∧ ((2 : Int) = 2 → e ≤ 99) ∧ e ≤ 999)) : -1 ≤ e ∧ e ≤ 99 := by omega
theorem nm_3 {e : Int} (h : e = -1 ∨ (0 ≤ e ∧ ((3 : Int) = 1 → e ≤ 9) ∧ ((3 : Int) = 2 → e ≤ 99) ∧ e ≤ 999)) : -1 ≤ e ∧ e ≤ 999 := by omega
theorem nk_ {e p q : Int} {R : Prop} (a : e = -1 ∨ (0 ≤ e ∧ R)) (b : 0 ≤ e → p < q) (c : e = -1 → q = p) : (e = -1 ∧ q = p) ∨ (0 ≤ e ∧ p < q) := a.elim (fun z => Or.inl ⟨z, c z⟩) (fun z => Or.inr ⟨z.1, b z.1⟩)
set_option maxRecDepth 4000 in
theorem ctX6_readFrom {SP : CT} (hSP : MONO SP) {sh : List (Nat × Nat)} {h : aH} (hG : GD gE gRL sh h) {s : Nat} {n : Int} (hP : PT h) (hs : s = 5 ∨ s = 8) (h12 : gi h 1 2 = 0) (h13 : gi h 1 3 = min n 43) (h14 : gi h 1 4 = if 43 < n then 1 else 0) (hn : 0 ≤ n ∧ n ≤ 80) : CLd SP 4 mX6_readFrom [.ref s, .ref 1] h 0 0 (fun rv h' => rv = some (.int (I (cfl n 43 (shF (fx h)).2.1))) ∧ GD gE gRL sh h' ∧ FRM gRL [(0, 1, 2, 2), (0, 1, 5, 5), (0, 5, 0, 2), (0, 6, 0, 9), (0, 7, 0, 9)] h h' ∧ (cfl n 43 (shF (fx h)).2.1 = -1 → gi h' s 0 = (shF (fx h)).1 ∧ gi h' s 1 = ((shF (fx h)).2.2.length : Nat) ∧ gi h' s 2 = lsum (shF (fx h)).2.2 ∧ pstL h' s (shF (fx h)).2.2.length = (shF (fx h)).2.2) ∧ ∀ a k : Nat, a ≠ 1 → a ≠ s → a ≠ s + 1 → a ≠ s + 2 → gi h' a k = gi h a k) := by
  refine x_met _ rfl (Nat.le_of_ble_eq_true rfl) (fun K hK => ?_)
  have hmono := MONO_CLd hSP 3
  have fe0 : ∀ a, min n 43 ≤ a → fx h a = -1 := fun a ha => fx_end h a (by rw [h13]; exact ha)
  have loop : ∀ (mz : Nat) (a i p w : Int) (h4 : aH) (ls : List (Nat × Value)), ((11 - i).toNat = mz) → (0 ≤ i ∧ i ≤ 10) → (0 ≤ p ∧ p ≤ min n 43) → (2 ≤ w ∧ w ≤ 40) → (nmI (fx h) 2 2 40 0 = (w, (nmI (fx h) 2 2 40 0).2)) → (-1 ≤ a ∧ a < w) → (gi h4 1 2 = p) → (gi h4 s 0 = w) → (gi h4 s 1 = i) → (gi h4 s 2 = lsum (pstL h4 s i.toNat)) → (0 ≤ lsum (pstL h4 s i.toNat) ∧ lsum (pstL h4 s i.toNat) ≤ i) → (shP (fx h) w 10 (-1) (nmI (fx h) 2 2 40 0).2 = ((shP (fx h) w (10 - i).toNat a p).1, pstL h4 s i.toNat ++ (shP (fx h) w (10 - i).toNat a p).2)) → (∀ a k : Nat, a ≠ 1 → a ≠ s → a ≠ s + 1 → a ≠ s + 2 → gi h4 a k = gi h a k) → lk ls 0 = some (.ref s) → lk ls 1 = some (.ref 1) → lk ls 2 = some (.int (I a)) → lk ls 3 = some (.int (I i)) → GD gE gRL sh h4 → FRM gRL [(0, 1, 2, 2), (0, 1, 5, 5), (0, 5, 0, 2), (0, 6, 0, 9), (0, 7, 0, 9)] h h4 → K 60 ls [] h4 0 0 := by
    intro mz
    induction mz using Nat.strongRecOn with
    | ind mz ih =>
    intro a i p w h4 ls hm i0 p0 w0 wd a0 d2 d3 d4 d5 d6 eq oa l0 l1 l2 l3 hG4 hF4
    have s3 : gi h4 1 3 = min n 43 := (FRM_gi hF4 (r := 1) rfl rfl).trans h13
    have s4 : gi h4 1 4 = (if 43 < n then (1 : Int) else 0) := (FRM_gi hF4 (r := 1) rfl rfl).trans h14
    have sF : fx h4 = fx h := fx_F hF4 rfl rfl
    have sh0 : shF (fx h) = (w, shP (fx h) w 10 (-1) (nmI (fx h) 2 2 40 0).2) := by unfold shF; rw [wd, if_pos (show 0 < w by omega)]
    refine x_iload_n 61 hK rfl rfl l3 ?_
    refine x_bipush 63 hK rfl rfl rfl ?_
    refine x_if_icmp_gt 162 66 hK rfl rfl rfl (by omega) (by omega) (fun c3 => ?_) (fun c3 => ?_)
    · refine x_aload_n 163 hK rfl rfl l1 ?_
      have to264 : gi h4 1 3 = (min n 43) := s3
      have mo264 : gi h4 1 4 = (if 43 < n then (1 : Int) else 0) := s4
      refine x_callV 166 hK hmono rfl rfl [.ref 1] [] rfl rfl (Nat.le_of_ble_eq_true rfl) (Nat.le_of_ble_eq_true rfl) rfl (sp_1 (h := h4) hG4) (CLd_le (Nat.le_of_ble_eq_true rfl) (ctX9_faultAtEnd hSP hG4)) ?_
      rw [to264, mo264]
      clear to264 mo264
      rintro v9 h9 ⟨e9, rfl⟩
      rw [e9]
      clear e9
      have er : shP (fx h) w (10 - i).toNat a p = ((true, p), []) := by
        by_cases z : i = 10
        · rw [z]; rfl
        · rw [show (10 - i).toNat = (9 - i).toNat + 1 by omega]
          show (if fx h p = 44 then _ else _) = _
          rw [if_neg (by first | omega | (have := fe0 p (by omega); omega))]
      have e2 : (shF (fx h)).2.1 = (true, p) := by rw [sh0, eq, er]
      have e4 : (shF (fx h)).2.2 = pstL h4 s i.toNat := by rw [sh0, eq, er]; exact List.append_nil _
      have e3 : cfl n 43 (shF (fx h)).2.1 = (if (if 43 < n then (1 : Int) else 0) = 1 then (min n 43) else -1) := by
        rw [e2]
        unfold cfl
        rw [if_pos ⟨rfl, show p = min n 43 by omega⟩]
        by_cases z : 43 < n
        · rw [if_pos z, if_pos z, if_pos rfl]
        · rw [if_neg z, if_neg z, if_neg (by decide)]
      exact x_iret hK rfl ⟨by rw [e3], hG4, hF4, fun z => ⟨by rw [sh0]; exact d3, by rw [e4, pstL_l]; exact (d4).trans (by omega), by rw [e4]; exact d5, by rw [e4, pstL_l]⟩, (fun a k n1 n2 n3 n4 => oa a k n1 n2 n3 n4)⟩
    · refine x_aload_n 67 hK rfl rfl l1 ?_
      have at265 : gi h4 1 2 = p := d2
      have to265 : gi h4 1 3 = (min n 43) := s3
      refine x_callV 70 hK hmono rfl rfl [.ref 1] [] rfl rfl (Nat.le_of_ble_eq_true rfl) (Nat.le_of_ble_eq_true rfl) rfl (sp_1 (h := h4) hG4) (CLd_le (Nat.le_of_ble_eq_true rfl) (ctX9_ended hSP hG4)) ?_
      rw [at265, to265]
      clear at265 to265
      rintro v9 h9 ⟨e9, ⟨rfl, en265⟩ | ⟨rfl, en265⟩⟩ <;> rw [e9] <;> clear e9
      · refine x_if_ne 162 73 hK rfl rfl rfl (by omega) (fun _ => ?_) (fun c => by omega)
        refine x_aload_n 163 hK rfl rfl l1 ?_
        have to266 : gi h4 1 3 = (min n 43) := s3
        have mo266 : gi h4 1 4 = (if 43 < n then (1 : Int) else 0) := s4
        refine x_callV 166 hK hmono rfl rfl [.ref 1] [] rfl rfl (Nat.le_of_ble_eq_true rfl) (Nat.le_of_ble_eq_true rfl) rfl (sp_1 (h := h4) hG4) (CLd_le (Nat.le_of_ble_eq_true rfl) (ctX9_faultAtEnd hSP hG4)) ?_
        rw [to266, mo266]
        clear to266 mo266
        rintro v9 h9 ⟨e9, rfl⟩
        rw [e9]
        clear e9
        have er : shP (fx h) w (10 - i).toNat a p = ((true, p), []) := by
          by_cases z : i = 10
          · rw [z]; rfl
          · rw [show (10 - i).toNat = (9 - i).toNat + 1 by omega]
            show (if fx h p = 44 then _ else _) = _
            rw [if_neg (by first | omega | (have := fe0 p (by omega); omega))]
        have e2 : (shF (fx h)).2.1 = (true, p) := by rw [sh0, eq, er]
        have e4 : (shF (fx h)).2.2 = pstL h4 s i.toNat := by rw [sh0, eq, er]; exact List.append_nil _
        have e3 : cfl n 43 (shF (fx h)).2.1 = (if (if 43 < n then (1 : Int) else 0) = 1 then (min n 43) else -1) := by
          rw [e2]
          unfold cfl
          rw [if_pos ⟨rfl, show p = min n 43 by omega⟩]
          by_cases z : 43 < n
          · rw [if_pos z, if_pos z, if_pos rfl]
          · rw [if_neg z, if_neg z, if_neg (by decide)]
        exact x_iret hK rfl ⟨by rw [e3], hG4, hF4, fun z => ⟨by rw [sh0]; exact d3, by rw [e4, pstL_l]; exact (d4).trans (by omega), by rw [e4]; exact d5, by rw [e4, pstL_l]⟩, (fun a k n1 n2 n3 n4 => oa a k n1 n2 n3 n4)⟩
      · refine x_if_ne 162 73 hK rfl rfl rfl (by omega) (fun c => by omega) (fun _ => ?_)
        refine x_iload_n 74 hK rfl rfl l3 ?_
        refine x_bipush 76 hK rfl rfl rfl ?_
        refine x_if_icmp_eq 88 79 hK rfl rfl rfl (by omega) (by omega) (fun c16 => ?_) (fun c16 => ?_)
        · refine x_aload_n 89 hK rfl rfl l1 ?_
          refine x_getE 92 hK rfl (Or.inl rfl) rfl (sp_1 (h := h4) hG4) (e := p) (d2) ?_
          have er : shP (fx h) w (10 - i).toNat a p = ((true, p), []) := by
            by_cases z : i = 10
            · rw [z]; rfl
            · rw [show (10 - i).toNat = (9 - i).toNat + 1 by omega]
              show (if fx h p = 44 then _ else _) = _
              rw [if_neg (by first | omega | (have := fe0 p (by omega); omega))]
          have e2 : (shF (fx h)).2.1 = (true, p) := by rw [sh0, eq, er]
          have e4 : (shF (fx h)).2.2 = pstL h4 s i.toNat := by rw [sh0, eq, er]; exact List.append_nil _
          have e3 : cfl n 43 (shF (fx h)).2.1 = p := by rw [e2]; exact if_neg (fun z => by have z2 : p = min n 43 := z.2; omega)
          exact x_iret hK rfl ⟨by rw [e3], hG4, hF4, fun z => by rw [e3] at z; omega, (fun a k n1 n2 n3 n4 => oa a k n1 n2 n3 n4)⟩
        · refine x_aload_n 80 hK rfl rfl l1 ?_
          refine x_bipush 82 hK rfl rfl rfl ?_
          have at267 : gi h4 1 2 = p := d2
          have fe267 : fx h4 = (fx h) := fx_F hF4 rfl rfl
          refine x_callV 85 hK hmono rfl rfl [.ref 1, .int (I 44)] [] rfl rfl (Nat.le_of_ble_eq_true rfl) (Nat.le_of_ble_eq_true rfl) rfl (sp_1 (h := h4) hG4) (CLd_le (Nat.le_of_ble_eq_true rfl) (ctX9_take hSP hG4 (s := 44) (by omega) (by omega))) ?_
          rw [fe267, at267]
          clear fe267 at267
          rintro v267 h267 ⟨hG267, hF267, ⟨rfl, tk267, eq267⟩ | ⟨rfl, tk267, eq267⟩⟩
          · refine x_if_ne 93 88 hK rfl rfl rfl (by omega) (fun _ => ?_) (fun c => by omega)
            refine x_aload_n 94 hK rfl rfl l1 ?_
            refine x_iconst 95 hK rfl rfl ?_
            have at268 : gi h267 1 2 = (p + 1) := eq267
            have fe268 : fx h267 = (fx h) := (fx_F hF267 rfl rfl).trans (fx_F hF4 rfl rfl)
            have to268 : gi h267 1 3 = (min n 43) := (FRM_gi hF267 (r := 1) rfl rfl).trans (s3)
            have mo268 : gi h267 1 4 = (if 43 < n then (1 : Int) else 0) := (FRM_gi hF267 (r := 1) rfl rfl).trans (s4)
            refine x_callV 98 hK hmono rfl rfl [.ref 1, .int (I 2)] [] rfl rfl (Nat.le_of_ble_eq_true rfl) (Nat.le_of_ble_eq_true rfl) rfl (sp_1 (h := h267) hG267) (CLd_le (Nat.le_of_ble_eq_true rfl) (ctX9_takeNumber hSP hG267 (n := 2) (by omega))) ?_
            rw [fe268, at268, to268, mo268]
            clear fe268 at268 to268 mo268
            rintro v268 h268 ⟨⟨e268, rfl, nu268, ne268⟩, hG268, hF268, np268, nc268, nd268⟩
            have nm268 : nmF (fx h) 2 (p + 1) = (e268, gi h268 1 2) := by rw [nu268, np268]; rfl
            have nb268 : (p + 1) ≤ gi h268 1 2 ∧ gi h268 1 2 ≤ (min n 43) := by rw [np268]; exact ⟨(tkv_lb _ _ _ _).1, tkv_sp fe0 _ _ _ (by first | omega | (have q := fe0 p; omega))⟩
            have nz268 : 0 ≤ e268 → (p + 1) < gi h268 1 2 := fun z => by have := nmF_n (f := (fx h)) (n := 2) (p := (p + 1)) (by rw [nm268]; exact z); rw [nm268] at this; exact this
            have ny268 : e268 = -1 → gi h268 1 2 = (p + 1) := fun z => by
              rw [np268]
              by_cases c : (tkv (fx h) (Int.toNat 2) (p + 1) 0).2 = (p + 1)
              · exact c
              · rw [if_neg c] at nu268
                have := tkv_nn (f := (fx h)) (Int.toNat 2) (p + 1) 0 (by omega)
                omega
            clear nu268 np268
            have nl268 := nm_2 ne268
            have nk268 := nk_ ne268 nz268 ny268
            clear ne268 nz268 ny268
            clear nc268 nd268
            generalize eq268 : gi h268 1 2 = p268 at *
            refine x_istore 100 hK rfl rfl _ rfl ?_
            refine x_iload 102 hK rfl rfl lk1_s ?_
            refine x_iconst 103 hK rfl rfl ?_
            refine x_if_icmp_ne 111 106 hK rfl rfl rfl (by omega) (by omega) (fun c30 => ?_) (fun c30 => ?_)
            · refine x_iload 113 hK rfl rfl lk1_s ?_
              refine x_iload_n 114 hK rfl rfl (lk1_n l2 (by decide) (Or.inl rfl)) ?_
              refine x_if_icmp_le 126 117 hK rfl rfl rfl (by omega) (by omega) (fun c33 => ?_) (fun c33 => ?_)
              · refine x_aload_n 127 hK rfl rfl (lk1_n l1 (by decide) (Or.inl rfl)) ?_
                refine x_getE 130 hK rfl (Or.inl rfl) rfl (sp_1 (h := h268) hG268) (e := p268) (eq268) ?_
                refine x_iconst 131 hK rfl rfl ?_
                refine x_isub 132 hK rfl rfl ?_
                have ni : nmI (fx h) 2 (a + 1) (w - 1) (p + 1) = (-1, p268 - 1) := by unfold nmI; rw [nm268, if_neg (show ¬ e268 < 0 by omega), if_neg (show ¬ (a + 1 ≤ e268 ∧ e268 ≤ w - 1) by omega)]
                have er : shP (fx h) w (10 - i).toNat a p = ((false, (p268 - 1)), []) := by
                  rw [show (10 - i).toNat = (9 - i).toNat + 1 by omega]
                  show (if fx h p = 44 then _ else _) = _
                  rw [if_pos (by omega)]
                  rw [ni, if_pos (show (-1 : Int) < 0 by decide)]
                have e2 : (shF (fx h)).2.1 = (false, (p268 - 1)) := by rw [sh0, eq, er]
                have e3 : cfl n 43 (shF (fx h)).2.1 = (p268 - 1) := by rw [e2]; exact if_neg (fun z => absurd (show false = true from z.1) (by decide))
                exact x_iret hK rfl ⟨by rw [e3], hG268, ((hF4).trans ((hF267).mono rfl)).trans ((hF268).mono rfl), fun z => by rw [e3] at z; omega, (fun a k n1 n2 n3 n4 => (one1 hF268 rfl n1 k).trans ((one1 hF267 rfl n1 k).trans (oa a k n1 n2 n3 n4)))⟩
              · refine x_iload 119 hK rfl rfl lk1_s ?_
                refine x_aload_n 120 hK rfl rfl (lk1_n l0 (by decide) (Or.inl rfl)) ?_
                refine x_getE 123 hK rfl (Or.inl rfl) rfl (shx (h := h268) hG268 (r := 5) (ss_r hs).1 rfl) (e := w) ((FRM_gi hF268 (r := 5) (ss_r hs).1 rfl).trans ((FRM_gi hF267 (r := 5) (ss_r hs).1 rfl).trans (d3))) ?_
                refine x_if_icmp_lt 133 126 hK rfl rfl rfl (by omega) (by omega) (fun c42 => ?_) (fun c42 => ?_)
                · refine x_iload 135 hK rfl rfl lk1_s ?_
                  refine x_istore_n 136 hK rfl rfl _ rfl ?_
                  refine x_aload_n 137 hK rfl rfl (lk1_n (lk1_n l0 (by decide) (Or.inl rfl)) (by decide) (Or.inl rfl)) ?_
                  refine x_iload 139 hK rfl rfl (lk1_n lk1_s (by decide) (Or.inl rfl)) ?_
                  refine x_aload_n 140 hK rfl rfl (lk1_n (lk1_n l1 (by decide) (Or.inl rfl)) (by decide) (Or.inl rfl)) ?_
                  refine x_bipush 142 hK rfl rfl rfl ?_
                  have at269 : gi h268 1 2 = p268 := eq268
                  have fe269 : fx h268 = (fx h) := (fx_F hF268 rfl rfl).trans ((fx_F hF267 rfl rfl).trans (fx_F hF4 rfl rfl))
                  refine x_callV 145 hK hmono rfl rfl [.ref 1, .int (I 42)] [.int (I e268), .ref s] rfl rfl (Nat.le_of_ble_eq_true rfl) (Nat.le_of_ble_eq_true rfl) rfl (sp_1 (h := h268) hG268) (CLd_le (Nat.le_of_ble_eq_true rfl) (ctX9_take hSP hG268 (s := 42) (by omega) (by omega))) ?_
                  rw [fe269, at269]
                  clear fe269 at269
                  rintro v269 h269 ⟨hG269, hF269, ⟨rfl, tk269, eq269⟩ | ⟨rfl, tk269, eq269⟩⟩
                  · refine x_if_eq 152 148 hK rfl rfl rfl (by omega) (fun c => by omega) (fun _ => ?_)
                    refine x_iconst 149 hK rfl rfl ?_
                    refine x_goto 153 hK rfl rfl ?_
                    have z1 : gi h269 s 1 = i := (FRM_gi hF269 (r := 5) (ss_r hs).1 rfl).trans ((FRM_gi hF268 (r := 5) (ss_r hs).1 rfl).trans ((FRM_gi hF267 (r := 5) (ss_r hs).1 rfl).trans (d4)))
                    have z2 : gi h269 s 2 = lsum (pstL h4 s i.toNat) := (FRM_gi hF269 (r := 5) (ss_r hs).1 rfl).trans ((FRM_gi hF268 (r := 5) (ss_r hs).1 rfl).trans ((FRM_gi hF267 (r := 5) (ss_r hs).1 rfl).trans (d5)))
                    have z0 : gi h269 s 0 = w := (FRM_gi hF269 (r := 5) (ss_r hs).1 rfl).trans ((FRM_gi hF268 (r := 5) (ss_r hs).1 rfl).trans ((FRM_gi hF267 (r := 5) (ss_r hs).1 rfl).trans (d3)))
                    have zl : pstL h269 s i.toNat = pstL h4 s i.toNat := pstL_eq fun j hj => ⟨(FRM_gi hF269 (r := 6) (ss_r hs).2.1 rfl).trans ((FRM_gi hF268 (r := 6) (ss_r hs).2.1 rfl).trans (FRM_gi hF267 (r := 6) (ss_r hs).2.1 rfl)), (FRM_gi hF269 (r := 7) (ss_r hs).2.2 rfl).trans ((FRM_gi hF268 (r := 7) (ss_r hs).2.2 rfl).trans (FRM_gi hF267 (r := 7) (ss_r hs).2.2 rfl))⟩
                    refine x_callV 156 hK hmono rfl rfl [.ref s, .int (I e268), .int (I 1)] [] rfl rfl (Nat.le_of_ble_eq_true rfl) (Nat.le_of_ble_eq_true rfl) rfl (shx (h := h269) hG269 (r := 5) (ss_r hs).1 rfl) (CLd_le (Nat.le_of_ble_eq_true rfl) (ctX6_addPost hSP hG269 (PT_F hF269 (by decide) (PT_F hF268 (by decide) (PT_F hF267 (by decide) (PT_F hF4 (by decide) hP)))) hs (by omega) (by omega) (by omega) (by omega))) ?_
                    rintro v270 h270 ⟨rfl, hG270, hF270, a1270, a2270, a0270, al270, oa270⟩
                    rw [z1] at a1270 al270
                    rw [z2] at a2270
                    rw [z0] at a0270
                    rw [zl] at al270
                    refine x_iinc 159 hK rfl rfl (lk1_n (lk1_n l3 (by decide) (Or.inl rfl)) (by decide) (Or.inl rfl)) _ rfl ?_
                    refine x_goto 60 hK rfl rfl ?_
                    have ni : nmI (fx h) 2 (a + 1) (w - 1) (p + 1) = (e268, p268) := by unfold nmI; rw [nm268, if_neg (show ¬ e268 < 0 by omega), if_pos (show a + 1 ≤ e268 ∧ e268 ≤ w - 1 by omega)]
                    have er : shP (fx h) w (10 - i).toNat a p = ((shP (fx h) w (10 - (i + 1)).toNat e268 (p268 + 1)).1, (e268, 1) :: (shP (fx h) w (10 - (i + 1)).toNat e268 (p268 + 1)).2) := by
                      rw [show (10 - i).toNat = (10 - (i + 1)).toNat + 1 by omega]
                      show (if fx h p = 44 then _ else _) = _
                      rw [if_pos (by omega), ni, if_neg (show ¬ e268 < 0 by omega)]
                      show (if fx h p268 = 42 then _ else _) = _
                      rw [if_pos (by omega)]
                    have sl : lsum (pstL h270 s (i + 1).toNat) = lsum (pstL h4 s i.toNat) + 1 := by rw [al270, lsum_snoc]
                    have pl : p268 < min n 43 := by
                      by_cases z : min n 43 ≤ p268
                      · have := fe0 p268 z; omega
                      · omega
                    exact ih _ (by omega) e268 (i + 1) (p268 + 1) w _ _ rfl (by omega) (by omega) (w0) (wd) (by omega) ((FRM_gi hF270 (r := 1) rfl rfl).trans (eq269)) (a0270) (a1270) ((a2270).trans sl.symm) (by rw [sl]; omega) (by rw [eq, er, al270, List.append_assoc]; rfl) ((fun a k n1 n2 n3 n4 => (oa270 a k n1 n2 n3 n4).trans ((one1 hF269 rfl n1 k).trans ((one1 hF268 rfl n1 k).trans ((one1 hF267 rfl n1 k).trans (oa a k n1 n2 n3 n4)))))) (lk1_n (lk1_n (lk1_n l0 (by decide) (Or.inl rfl)) (by decide) (Or.inl rfl)) (by decide) (Or.inl rfl)) (lk1_n (lk1_n (lk1_n l1 (by decide) (Or.inl rfl)) (by decide) (Or.inl rfl)) (by decide) (Or.inl rfl)) (lk1_n lk1_s (by decide) (Or.inl rfl)) lk1_s (hG270) (((((hF4).trans ((hF267).mono rfl)).trans ((hF268).mono rfl)).trans ((hF269).mono rfl)).trans ((hF270).mono rfl))
                  · refine x_if_eq 152 148 hK rfl rfl rfl (by omega) (fun _ => ?_) (fun c => by omega)
                    refine x_iconst 153 hK rfl rfl ?_
                    have z1 : gi h269 s 1 = i := (FRM_gi hF269 (r := 5) (ss_r hs).1 rfl).trans ((FRM_gi hF268 (r := 5) (ss_r hs).1 rfl).trans ((FRM_gi hF267 (r := 5) (ss_r hs).1 rfl).trans (d4)))
                    have z2 : gi h269 s 2 = lsum (pstL h4 s i.toNat) := (FRM_gi hF269 (r := 5) (ss_r hs).1 rfl).trans ((FRM_gi hF268 (r := 5) (ss_r hs).1 rfl).trans ((FRM_gi hF267 (r := 5) (ss_r hs).1 rfl).trans (d5)))
                    have z0 : gi h269 s 0 = w := (FRM_gi hF269 (r := 5) (ss_r hs).1 rfl).trans ((FRM_gi hF268 (r := 5) (ss_r hs).1 rfl).trans ((FRM_gi hF267 (r := 5) (ss_r hs).1 rfl).trans (d3)))
                    have zl : pstL h269 s i.toNat = pstL h4 s i.toNat := pstL_eq fun j hj => ⟨(FRM_gi hF269 (r := 6) (ss_r hs).2.1 rfl).trans ((FRM_gi hF268 (r := 6) (ss_r hs).2.1 rfl).trans (FRM_gi hF267 (r := 6) (ss_r hs).2.1 rfl)), (FRM_gi hF269 (r := 7) (ss_r hs).2.2 rfl).trans ((FRM_gi hF268 (r := 7) (ss_r hs).2.2 rfl).trans (FRM_gi hF267 (r := 7) (ss_r hs).2.2 rfl))⟩
                    refine x_callV 156 hK hmono rfl rfl [.ref s, .int (I e268), .int (I 0)] [] rfl rfl (Nat.le_of_ble_eq_true rfl) (Nat.le_of_ble_eq_true rfl) rfl (shx (h := h269) hG269 (r := 5) (ss_r hs).1 rfl) (CLd_le (Nat.le_of_ble_eq_true rfl) (ctX6_addPost hSP hG269 (PT_F hF269 (by decide) (PT_F hF268 (by decide) (PT_F hF267 (by decide) (PT_F hF4 (by decide) hP)))) hs (by omega) (by omega) (by omega) (by omega))) ?_
                    rintro v271 h271 ⟨rfl, hG271, hF271, a1271, a2271, a0271, al271, oa271⟩
                    rw [z1] at a1271 al271
                    rw [z2] at a2271
                    rw [z0] at a0271
                    rw [zl] at al271
                    refine x_iinc 159 hK rfl rfl (lk1_n (lk1_n l3 (by decide) (Or.inl rfl)) (by decide) (Or.inl rfl)) _ rfl ?_
                    refine x_goto 60 hK rfl rfl ?_
                    have ni : nmI (fx h) 2 (a + 1) (w - 1) (p + 1) = (e268, p268) := by unfold nmI; rw [nm268, if_neg (show ¬ e268 < 0 by omega), if_pos (show a + 1 ≤ e268 ∧ e268 ≤ w - 1 by omega)]
                    have er : shP (fx h) w (10 - i).toNat a p = ((shP (fx h) w (10 - (i + 1)).toNat e268 p268).1, (e268, 0) :: (shP (fx h) w (10 - (i + 1)).toNat e268 p268).2) := by
                      rw [show (10 - i).toNat = (10 - (i + 1)).toNat + 1 by omega]
                      show (if fx h p = 44 then _ else _) = _
                      rw [if_pos (by omega), ni, if_neg (show ¬ e268 < 0 by omega)]
                      show (if fx h p268 = 42 then _ else _) = _
                      rw [if_neg (by omega)]
                    have sl : lsum (pstL h271 s (i + 1).toNat) = lsum (pstL h4 s i.toNat) + 0 := by rw [al271, lsum_snoc]
                    exact ih _ (by omega) e268 (i + 1) p268 w _ _ rfl (by omega) (by omega) (w0) (wd) (by omega) ((FRM_gi hF271 (r := 1) rfl rfl).trans (eq269)) (a0271) (a1271) ((a2271).trans sl.symm) (by rw [sl]; omega) (by rw [eq, er, al271, List.append_assoc]; rfl) ((fun a k n1 n2 n3 n4 => (oa271 a k n1 n2 n3 n4).trans ((one1 hF269 rfl n1 k).trans ((one1 hF268 rfl n1 k).trans ((one1 hF267 rfl n1 k).trans (oa a k n1 n2 n3 n4)))))) (lk1_n (lk1_n (lk1_n l0 (by decide) (Or.inl rfl)) (by decide) (Or.inl rfl)) (by decide) (Or.inl rfl)) (lk1_n (lk1_n (lk1_n l1 (by decide) (Or.inl rfl)) (by decide) (Or.inl rfl)) (by decide) (Or.inl rfl)) (lk1_n lk1_s (by decide) (Or.inl rfl)) lk1_s (hG271) (((((hF4).trans ((hF267).mono rfl)).trans ((hF268).mono rfl)).trans ((hF269).mono rfl)).trans ((hF271).mono rfl))
                · refine x_aload_n 127 hK rfl rfl (lk1_n l1 (by decide) (Or.inl rfl)) ?_
                  refine x_getE 130 hK rfl (Or.inl rfl) rfl (sp_1 (h := h268) hG268) (e := p268) (eq268) ?_
                  refine x_iconst 131 hK rfl rfl ?_
                  refine x_isub 132 hK rfl rfl ?_
                  have ni : nmI (fx h) 2 (a + 1) (w - 1) (p + 1) = (-1, p268 - 1) := by unfold nmI; rw [nm268, if_neg (show ¬ e268 < 0 by omega), if_neg (show ¬ (a + 1 ≤ e268 ∧ e268 ≤ w - 1) by omega)]
                  have er : shP (fx h) w (10 - i).toNat a p = ((false, (p268 - 1)), []) := by
                    rw [show (10 - i).toNat = (9 - i).toNat + 1 by omega]
                    show (if fx h p = 44 then _ else _) = _
                    rw [if_pos (by omega)]
                    rw [ni, if_pos (show (-1 : Int) < 0 by decide)]
                  have e2 : (shF (fx h)).2.1 = (false, (p268 - 1)) := by rw [sh0, eq, er]
                  have e3 : cfl n 43 (shF (fx h)).2.1 = (p268 - 1) := by rw [e2]; exact if_neg (fun z => absurd (show false = true from z.1) (by decide))
                  exact x_iret hK rfl ⟨by rw [e3], hG268, ((hF4).trans ((hF267).mono rfl)).trans ((hF268).mono rfl), fun z => by rw [e3] at z; omega, (fun a k n1 n2 n3 n4 => (one1 hF268 rfl n1 k).trans ((one1 hF267 rfl n1 k).trans (oa a k n1 n2 n3 n4)))⟩
            · refine x_aload_n 107 hK rfl rfl (lk1_n l1 (by decide) (Or.inl rfl)) ?_
              refine x_getE 110 hK rfl (Or.inl rfl) rfl (sp_1 (h := h268) hG268) (e := p268) (eq268) ?_
              have ni : nmI (fx h) 2 (a + 1) (w - 1) (p + 1) = (e268, p268) := by unfold nmI; rw [nm268, if_pos (show e268 < 0 by omega)]
              have er : shP (fx h) w (10 - i).toNat a p = ((false, p268), []) := by
                rw [show (10 - i).toNat = (9 - i).toNat + 1 by omega]
                show (if fx h p = 44 then _ else _) = _
                rw [if_pos (by omega)]
                rw [ni, if_pos (show e268 < 0 by omega)]
              have e2 : (shF (fx h)).2.1 = (false, p268) := by rw [sh0, eq, er]
              have e3 : cfl n 43 (shF (fx h)).2.1 = p268 := by rw [e2]; exact if_neg (fun z => absurd (show false = true from z.1) (by decide))
              exact x_iret hK rfl ⟨by rw [e3], hG268, ((hF4).trans ((hF267).mono rfl)).trans ((hF268).mono rfl), fun z => by rw [e3] at z; omega, (fun a k n1 n2 n3 n4 => (one1 hF268 rfl n1 k).trans ((one1 hF267 rfl n1 k).trans (oa a k n1 n2 n3 n4)))⟩
          · refine x_if_ne 93 88 hK rfl rfl rfl (by omega) (fun c => by omega) (fun _ => ?_)
            refine x_aload_n 89 hK rfl rfl l1 ?_
            refine x_getE 92 hK rfl (Or.inl rfl) rfl (sp_1 (h := h267) hG267) (e := p) (eq267) ?_
            have er : shP (fx h) w (10 - i).toNat a p = ((true, p), []) := by
              by_cases z : i = 10
              · rw [z]; rfl
              · rw [show (10 - i).toNat = (9 - i).toNat + 1 by omega]
                show (if fx h p = 44 then _ else _) = _
                rw [if_neg (by first | omega | (have := fe0 p (by omega); omega))]
            have e2 : (shF (fx h)).2.1 = (true, p) := by rw [sh0, eq, er]
            have e4 : (shF (fx h)).2.2 = pstL h4 s i.toNat := by rw [sh0, eq, er]; exact List.append_nil _
            have e3 : cfl n 43 (shF (fx h)).2.1 = p := by rw [e2]; exact if_neg (fun z => by have z2 : p = min n 43 := z.2; omega)
            exact x_iret hK rfl ⟨by rw [e3], hG267, (hF4).trans ((hF267).mono rfl), fun z => by rw [e3] at z; omega, (fun a k n1 n2 n3 n4 => (one1 hF267 rfl n1 k).trans (oa a k n1 n2 n3 n4))⟩
  refine x_aload_n 1 hK rfl rfl rfl ?_
  refine x_iconst 2 hK rfl rfl ?_
  refine x_putI 5 hK rfl rfl (shx (h := h) hG (r := 5) (ss_r hs).1 rfl) ?_
  refine x_aload_n 6 hK rfl rfl rfl ?_
  refine x_iconst 7 hK rfl rfl ?_
  refine x_putI 10 hK rfl rfl (shx (h := h) hG (r := 5) (ss_r hs).1 rfl) ?_
  refine x_aload_n 11 hK rfl rfl rfl ?_
  refine x_aload_n 12 hK rfl rfl rfl ?_
  refine x_iconst 13 hK rfl rfl ?_
  have hGp273 : GD gE gRL sh (wI (wI h s 1 0) s 2 0) := GD_w0 (GD_w1 (hG) (r := 5) (ss_r hs).1 (by omega) rfl (by omega) (by omega)) (r := 5) (ss_r hs).1 rfl
  have at272 : gi (wI (wI h s 1 0) s 2 0) 1 2 = 0 := (gi_a (by omega) _).trans ((gi_a (by omega) _).trans (h12))
  have fe272 : fx (wI (wI h s 1 0) s 2 0) = (fx h) := (fx_wI (by omega) (Or.inl (by omega))).trans (fx_wI (by omega) (Or.inl (by omega)))
  have to272 : gi (wI (wI h s 1 0) s 2 0) 1 3 = (min n 43) := (gi_a (by omega) _).trans ((gi_a (by omega) _).trans (h13))
  have mo272 : gi (wI (wI h s 1 0) s 2 0) 1 4 = (if 43 < n then (1 : Int) else 0) := (gi_a (by omega) _).trans ((gi_a (by omega) _).trans (h14))
  refine x_callV 16 hK hmono rfl rfl [.ref 1, .int (I 2)] [.ref s] rfl rfl (Nat.le_of_ble_eq_true rfl) (Nat.le_of_ble_eq_true rfl) rfl (sp_1 (h := h) hG) (CLd_le (Nat.le_of_ble_eq_true rfl) (ctX9_takeNumber hSP hGp273 (n := 2) (by omega))) ?_
  rw [fe272, at272, to272, mo272]
  clear fe272 at272 to272 mo272
  rintro v272 h272 ⟨⟨e272, rfl, nu272, ne272⟩, hG272, hF272, np272, nc272, nd272⟩
  have nm272 : nmF (fx h) 2 0 = (e272, gi h272 1 2) := by rw [nu272, np272]; rfl
  have nb272 : 0 ≤ gi h272 1 2 ∧ gi h272 1 2 ≤ (min n 43) := by rw [np272]; exact ⟨(tkv_lb _ _ _ _).1, tkv_sp fe0 _ _ _ (by first | omega | (have q := fe0 0; omega))⟩
  have nz272 : 0 ≤ e272 → 0 < gi h272 1 2 := fun z => by have := nmF_n (f := (fx h)) (n := 2) (p := 0) (by rw [nm272]; exact z); rw [nm272] at this; exact this
  have ny272 : e272 = -1 → gi h272 1 2 = 0 := fun z => by
    rw [np272]
    by_cases c : (tkv (fx h) (Int.toNat 2) 0 0).2 = 0
    · exact c
    · rw [if_neg c] at nu272
      have := tkv_nn (f := (fx h)) (Int.toNat 2) 0 0 (by omega)
      omega
  clear nu272 np272
  have nl272 := nm_2 ne272
  have nk272 := nk_ ne272 nz272 ny272
  clear ne272 nz272 ny272
  clear nc272 nd272
  generalize eq272 : gi h272 1 2 = p272 at *
  refine x_putI 19 hK rfl rfl (shx (h := h272) hG272 (r := 5) (ss_r hs).1 rfl) ?_
  refine x_aload_n 20 hK rfl rfl rfl ?_
  refine x_getE 23 hK rfl (Or.inl rfl) rfl (shx (h := h272) hG272 (r := 5) (ss_r hs).1 rfl) (e := e272) (gi_same (by omega)) ?_
  refine x_iconst 24 hK rfl rfl ?_
  refine x_if_icmp_ne 32 27 hK rfl rfl rfl (by omega) (by omega) (fun c15 => ?_) (fun c15 => ?_)
  · refine x_aload_n 33 hK rfl rfl rfl ?_
    refine x_getE 36 hK rfl (Or.inl rfl) rfl (shx (h := h272) hG272 (r := 5) (ss_r hs).1 rfl) (e := e272) (gi_same (by omega)) ?_
    refine x_iconst 37 hK rfl rfl ?_
    refine x_if_icmp_lt 49 40 hK rfl rfl rfl (by omega) (by omega) (fun c19 => ?_) (fun c19 => ?_)
    · refine x_aload_n 50 hK rfl rfl rfl ?_
      refine x_getE 53 hK rfl (Or.inl rfl) rfl (sp_1 (h := h272) hG272) (e := p272) ((gi_a (by omega) _).trans (eq272)) ?_
      refine x_iconst 54 hK rfl rfl ?_
      refine x_isub 55 hK rfl rfl ?_
      have ni : nmI (fx h) 2 2 40 0 = (-1, p272 - 1) := by unfold nmI; rw [nm272, if_neg (show ¬ e272 < 0 by omega), if_neg (show ¬ (2 ≤ e272 ∧ e272 ≤ 40) by omega)]
      have e2 : (shF (fx h)).2.1 = (false, (p272 - 1)) := by unfold shF; rw [ni, if_neg (show ¬ (0 : Int) < (-1) by omega)]
      have e3 : cfl n 43 (shF (fx h)).2.1 = (p272 - 1) := by rw [e2]; exact if_neg (fun z => absurd (show false = true from z.1) (by decide))
      exact x_iret hK rfl ⟨by rw [e3], GD_w1 (hG272) (r := 5) (ss_r hs).1 (by omega) rfl (by omega) (by omega), FRM_w ((FRM_w (FRM_w ((FRM.rf : FRM gRL [(0, 1, 2, 2), (0, 1, 5, 5), (0, 5, 0, 2), (0, 6, 0, 9), (0, 7, 0, 9)] h h)) (r := 5) (ss_r hs).1 rfl) (r := 5) (ss_r hs).1 rfl).trans ((hF272).mono rfl)) (r := 5) (ss_r hs).1 rfl, fun z => by rw [e3] at z; omega, (fun a k n1 n2 n3 n4 => (gi_a (by omega) _).trans ((one1 hF272 rfl n1 k).trans ((gi_a (by omega) _).trans (gi_a (by omega) _))))⟩
    · refine x_aload_n 41 hK rfl rfl rfl ?_
      refine x_getE 44 hK rfl (Or.inl rfl) rfl (shx (h := h272) hG272 (r := 5) (ss_r hs).1 rfl) (e := e272) (gi_same (by omega)) ?_
      refine x_bipush 46 hK rfl rfl rfl ?_
      refine x_if_icmp_le 56 49 hK rfl rfl rfl (by omega) (by omega) (fun c28 => ?_) (fun c28 => ?_)
      · refine x_iconst 57 hK rfl rfl ?_
        refine x_istore_n 58 hK rfl rfl [(2, .int (I (-1))), (0, .ref s), (1, .ref 1)] rfl ?_
        refine x_iconst 59 hK rfl rfl ?_
        refine x_istore_n 60 hK rfl rfl [(3, .int (I 0)), (2, .int (I (-1))), (0, .ref s), (1, .ref 1)] rfl ?_
        have ni : nmI (fx h) 2 2 40 0 = (e272, p272) := by unfold nmI; rw [nm272, if_neg (show ¬ e272 < 0 by omega), if_pos (show 2 ≤ e272 ∧ e272 ≤ 40 by omega)]
        exact loop _ (-1) 0 p272 e272 _ _ rfl (by omega) (by omega) (by omega) (by rw [ni]) (by omega) ((gi_a (by omega) _).trans (eq272)) (gi_same (by omega)) ((gi_k (by decide) _).trans ((FRM_gi hF272 (r := 5) (ss_r hs).1 rfl).trans ((gi_k (by decide) _).trans (gi_same (by omega))))) (((gi_k (by decide) _).trans ((FRM_gi hF272 (r := 5) (ss_r hs).1 rfl).trans (gi_same (by omega)))).trans rfl) (by show (0 : Int) ≤ 0 ∧ (0 : Int) ≤ 0; omega) (by rw [ni]; rfl) ((fun a k n1 n2 n3 n4 => (gi_a (by omega) _).trans ((one1 hF272 rfl n1 k).trans ((gi_a (by omega) _).trans (gi_a (by omega) _))))) rfl rfl rfl rfl (GD_w1 (hG272) (r := 5) (ss_r hs).1 (by omega) rfl (by omega) (by omega)) (FRM_w ((FRM_w (FRM_w ((FRM.rf : FRM gRL [(0, 1, 2, 2), (0, 1, 5, 5), (0, 5, 0, 2), (0, 6, 0, 9), (0, 7, 0, 9)] h h)) (r := 5) (ss_r hs).1 rfl) (r := 5) (ss_r hs).1 rfl).trans ((hF272).mono rfl)) (r := 5) (ss_r hs).1 rfl)
      · refine x_aload_n 50 hK rfl rfl rfl ?_
        refine x_getE 53 hK rfl (Or.inl rfl) rfl (sp_1 (h := h272) hG272) (e := p272) ((gi_a (by omega) _).trans (eq272)) ?_
        refine x_iconst 54 hK rfl rfl ?_
        refine x_isub 55 hK rfl rfl ?_
        have ni : nmI (fx h) 2 2 40 0 = (-1, p272 - 1) := by unfold nmI; rw [nm272, if_neg (show ¬ e272 < 0 by omega), if_neg (show ¬ (2 ≤ e272 ∧ e272 ≤ 40) by omega)]
        have e2 : (shF (fx h)).2.1 = (false, (p272 - 1)) := by unfold shF; rw [ni, if_neg (show ¬ (0 : Int) < (-1) by omega)]
        have e3 : cfl n 43 (shF (fx h)).2.1 = (p272 - 1) := by rw [e2]; exact if_neg (fun z => absurd (show false = true from z.1) (by decide))
        exact x_iret hK rfl ⟨by rw [e3], GD_w1 (hG272) (r := 5) (ss_r hs).1 (by omega) rfl (by omega) (by omega), FRM_w ((FRM_w (FRM_w ((FRM.rf : FRM gRL [(0, 1, 2, 2), (0, 1, 5, 5), (0, 5, 0, 2), (0, 6, 0, 9), (0, 7, 0, 9)] h h)) (r := 5) (ss_r hs).1 rfl) (r := 5) (ss_r hs).1 rfl).trans ((hF272).mono rfl)) (r := 5) (ss_r hs).1 rfl, fun z => by rw [e3] at z; omega, (fun a k n1 n2 n3 n4 => (gi_a (by omega) _).trans ((one1 hF272 rfl n1 k).trans ((gi_a (by omega) _).trans (gi_a (by omega) _))))⟩
  · refine x_aload_n 28 hK rfl rfl rfl ?_
    refine x_getE 31 hK rfl (Or.inl rfl) rfl (sp_1 (h := h272) hG272) (e := p272) ((gi_a (by omega) _).trans (eq272)) ?_
    have ni : nmI (fx h) 2 2 40 0 = (e272, p272) := by unfold nmI; rw [nm272, if_pos (show e272 < 0 by omega)]
    have e2 : (shF (fx h)).2.1 = (false, p272) := by unfold shF; rw [ni, if_neg (show ¬ (0 : Int) < e272 by omega)]
    have e3 : cfl n 43 (shF (fx h)).2.1 = p272 := by rw [e2]; exact if_neg (fun z => absurd (show false = true from z.1) (by decide))
    exact x_iret hK rfl ⟨by rw [e3], GD_w1 (hG272) (r := 5) (ss_r hs).1 (by omega) rfl (by omega) (by omega), FRM_w ((FRM_w (FRM_w ((FRM.rf : FRM gRL [(0, 1, 2, 2), (0, 1, 5, 5), (0, 5, 0, 2), (0, 6, 0, 9), (0, 7, 0, 9)] h h)) (r := 5) (ss_r hs).1 rfl) (r := 5) (ss_r hs).1 rfl).trans ((hF272).mono rfl)) (r := 5) (ss_r hs).1 rfl, fun z => by rw [e3] at z; omega, (fun a k n1 n2 n3 n4 => (gi_a (by omega) _).trans ((one1 hF272 rfl n1 k).trans ((gi_a (by omega) _).trans (gi_a (by omega) _))))⟩
end
section
/-! THE SHIP (the reference) -/
theorem nmI_e {f : Int → Int} {n : Nat} {lo hi p e q : Int} (h1 : e = if (tkv f n p 0).2 = p then -1 else if lo ≤ (tkv f n p 0).1 ∧ (tkv f n p 0).1 ≤ hi then (tkv f n p 0).1 else -1) (h2 : q = if (tkv f n p 0).2 = p then (tkv f n p 0).2 else if lo ≤ (tkv f n p 0).1 ∧ (tkv f n p 0).1 ≤ hi then (tkv f n p 0).2 else (tkv f n p 0).2 - 1) : nmI f n lo hi p = (e, q) := by
  have nn := tkv_nn (f := f) n p 0 (Int.le_refl _)
  unfold nmI nmF
  by_cases c : (tkv f n p 0).2 = p
  · rw [if_pos c] at h1 h2
    rw [if_pos c, if_pos (show (-1 : Int) < 0 by decide), h1, h2]
  · rw [if_neg c] at h1 h2
    rw [if_neg c, if_neg (show ¬ (tkv f n p 0).1 < 0 by omega)]
    by_cases d : lo ≤ (tkv f n p 0).1 ∧ (tkv f n p 0).1 ≤ hi
    · rw [if_pos d] at h1 h2
      rw [if_pos d, h1, h2]
    · rw [if_neg d] at h1 h2
      rw [if_neg d, h1, h2]
noncomputable def mpL (h : aH) (n : Nat) : List (Int × Int) := (List.range n).map fun j => (gi h 173 j, gi h 174 j)
theorem mpL_s {h h' : aH} {n : Nat} {c l : Int} (h1 : gi h' 173 n = c) (h2 : gi h' 174 n = l) (h3 : ∀ j, j < n → gi h' 173 j = gi h 173 j ∧ gi h' 174 j = gi h 174 j) : mpL h' (n + 1) = mpL h n ++ [(c, l)] := by
  unfold mpL
  rw [List.range_succ, List.map_append, List.map_cons, List.map_nil, h1, h2]
  congr 1
  exact List.map_congr_left fun j hj => by rw [(h3 j (List.mem_range.mp hj)).1, (h3 j (List.mem_range.mp hj)).2]
theorem take_s {L : List (Int × Int)} {k : Nat} (h : k < L.length) : L.take (k + 1) = L.take k ++ [L.getD k (0, 0)] := by
  rw [List.take_succ, List.getD_eq_getElem?_getD, List.getElem?_eq_getElem h]; rfl
set_option maxRecDepth 4000 in
theorem ctX11_shipF {SP : CT} (hSP : MONO SP) {sh : List (Nat × Nat)} {h : aH} (hG : GD gE gRL sh h) : CLd SP 6 mX11_ship [.ref 171] h 0 0 (fun rv h' => (((fltF (gi h 171 17) 43 (shF (txF (gi h 180) (min (gi h 171 17) 43))).2.1) < 0 ∧ rv = some (.int (I (fltF (gi h 171 17) 43 (shF (txF (gi h 180) (min (gi h 171 17) 43))).2.1))) ∧ gi h' 171 3 = gi h 171 3 ∧ gi h' 171 4 = gi h 171 4 ∧ gi h' 171 5 = gi h 171 5 ∧ ∀ j, gi h' 173 j = gi h 173 j ∧ gi h' 174 j = gi h 174 j) ∨ ((fltF (gi h 171 17) 43 (shF (txF (gi h 180) (min (gi h 171 17) 43))).2.1) = 0 ∧ rv = some (.int (I (((shF (txF (gi h 180) (min (gi h 171 17) 43))).2.2).length : Nat))) ∧ gi h' 171 3 = (shF (txF (gi h 180) (min (gi h 171 17) 43))).1 ∧ gi h' 171 4 = (((shF (txF (gi h 180) (min (gi h 171 17) 43))).2.2).length : Nat) ∧ gi h' 171 5 = lsum (shF (txF (gi h 180) (min (gi h 171 17) 43))).2.2 ∧ mpL h' ((shF (txF (gi h 180) (min (gi h 171 17) 43))).2.2).length = (shF (txF (gi h 180) (min (gi h 171 17) 43))).2.2)) ∧ GD gE gRL sh h' ∧ FRM gRL [(0, 54, 0, 0), (0, 54, 3, 5), (0, 54, 17, 20), (0, 54, 22, 22), (0, 56, 0, 9), (0, 57, 0, 9), (0, 64, 0, 31)] h h' ∧ gi h' 171 0 = 0 ∧ gi h' 171 17 = 0) := by
  refine x_met _ rfl (Nat.le_of_ble_eq_true rfl) (fun K hK => ?_)
  have hmono := MONO_CLd hSP 5
  have gsz := gri 0 80 hG (a := 171) (r := 54) (k := 17) rfl rfl
  obtain ⟨T, hT⟩ : ∃ T, (txF (gi h 180) (min (gi h 171 17) 43)) = T := ⟨_, rfl⟩
  obtain ⟨RR, hRR⟩ : ∃ RR, shF T = RR := ⟨_, rfl⟩
  have fe0 : ∀ a, min (gi h 171 17) 43 ≤ a → T a = -1 := fun a ha => by rw [← hT]; exact if_neg (by omega)
  have rb := shF_b fe0 (by omega)
  rw [hRR] at rb
  rw [hT, hRR] at hK
  have loop2 : ∀ (mz : Nat) (k : Int) (h5 : aH) (ls : List (Nat × Value)), ((((RR.2.2.length : Nat) : Int) - k).toNat = mz) → (0 ≤ k ∧ k ≤ (RR.2.2.length : Nat)) → (fltF (gi h 171 17) 43 RR.2.1 = 0) → (gi h5 171 0 = 0) → (gi h5 171 17 = 0) → (gi h5 171 3 = RR.1) → (gi h5 171 4 = (RR.2.2.length : Nat)) → (gi h5 171 5 = lsum (RR.2.2.take k.toNat)) → (∀ j : Nat, j < RR.2.2.length → gi h5 181 (2 * j) = (RR.2.2.getD j (0, 0)).1 ∧ gi h5 181 (2 * j + 1) = (RR.2.2.getD j (0, 0)).2) → (mpL h5 k.toNat = RR.2.2.take k.toNat) → lk ls 0 = some (.ref 171) → lk ls 6 = some (.int (I k)) → GD gE gRL sh h5 → FRM gRL [(0, 54, 0, 0), (0, 54, 3, 5), (0, 54, 17, 20), (0, 54, 22, 22), (0, 56, 0, 9), (0, 57, 0, 9), (0, 64, 0, 31)] h h5 → K 181 ls [] h5 0 0 := by
    intro mz
    induction mz using Nat.strongRecOn with
    | ind mz ih =>
    intro k h5 ls hm k0 f0 t5 z5 d3 d4 d5 rl mp l0 l6 hG5 hF5
    have rlk := fun z : k < (RR.2.2.length : Nat) => rl k.toNat (by omega)
    have rbk := fun z : k < (RR.2.2.length : Nat) => getD_all rb.2.2.2 (j := k.toNat) (by omega)
    have rb1 := rb.2.1
    have sb := lsum_b (l := RR.2.2.take k.toNat) (fun q hq => (rb.2.2.2 q (List.mem_of_mem_take hq)).2)
    have sl : (RR.2.2.take k.toNat).length ≤ 10 := Nat.le_trans (List.length_take_le _ _) (by omega)
    have ts := fun z : k < (RR.2.2.length : Nat) => take_s (L := RR.2.2) (k := k.toNat) (by omega)
    have wr2 := rb.2.2.1 (fltF_0 (n := gi h 171 17) (most := 43) (by omega) rb.1.1 f0).1
    refine x_iload 183 hK rfl rfl l6 ?_
    refine x_aload_n 184 hK rfl rfl l0 ?_
    refine x_getE 187 hK rfl (Or.inl rfl) rfl (sp_171 (h := h5) hG5) (e := ((RR.2.2.length : Nat) : Int)) (d4) ?_
    refine x_if_icmp_ge 259 190 hK rfl rfl rfl (by omega) (by omega) (fun c4 => ?_) (fun c4 => ?_)
    · refine x_aload_n 260 hK rfl rfl l0 ?_
      refine x_getE 263 hK rfl (Or.inl rfl) rfl (sp_171 (h := h5) hG5) (e := ((RR.2.2.length : Nat) : Int)) (d4) ?_
      obtain rfl : k = (RR.2.2.length : Nat) := by omega
      rw [show ((RR.2.2.length : Nat) : Int).toNat = RR.2.2.length from rfl, List.take_length] at d5 mp
      exact x_iret hK rfl ⟨Or.inr ⟨f0, rfl, d3, d4, d5, mp⟩, hG5, hF5, t5, z5⟩
    · refine x_aload_n 191 hK rfl rfl l0 ?_
      refine x_getR 194 hK rfl rfl (sp_171 (h := h5) hG5) (rf_171_9 (h := h5) hG5) ?_
      refine x_iload 196 hK rfl rfl l6 ?_
      refine x_aload_n 197 hK rfl rfl l0 ?_
      refine x_getR 200 hK rfl rfl (sp_171 (h := h5) hG5) (rf_171_21 (h := h5) hG5) ?_
      refine x_iconst 201 hK rfl rfl ?_
      refine x_iload 203 hK rfl rfl l6 ?_
      refine x_imul 204 hK rfl rfl ?_
      refine x_ialoadE 205 hK rfl rfl (sp_181 (h := h5) hG5) (by omega) (by omega) (by omega) (e' := (RR.2.2.getD k.toNat (0, 0)).1) (((gi_to (by omega)).trans (rlk (by omega)).1)) ?_
      refine x_iastore 206 hK rfl rfl (sp_173 (h := h5) hG5) (by omega) (by omega) (by omega) ?_
      refine x_aload_n 207 hK rfl rfl l0 ?_
      refine x_getR 210 hK rfl rfl (sp_171 (h := h5) hG5) (rf_171_10 (h := h5) hG5) ?_
      refine x_iload 212 hK rfl rfl l6 ?_
      refine x_aload_n 213 hK rfl rfl l0 ?_
      refine x_getR 216 hK rfl rfl (sp_171 (h := h5) hG5) (rf_171_21 (h := h5) hG5) ?_
      refine x_iconst 217 hK rfl rfl ?_
      refine x_iload 219 hK rfl rfl l6 ?_
      refine x_imul 220 hK rfl rfl ?_
      refine x_iconst 221 hK rfl rfl ?_
      refine x_iadd 222 hK rfl rfl ?_
      refine x_ialoadE 223 hK rfl rfl (sp_181 (h := h5) hG5) (by omega) (by omega) (by omega) (e' := (RR.2.2.getD k.toNat (0, 0)).2) ((gi_a (by decide) _).trans (((gi_to (by omega)).trans (rlk (by omega)).2))) ?_
      refine x_iconst 224 hK rfl rfl ?_
      refine x_if_icmp_ne 231 227 hK rfl rfl rfl (by omega) (by omega) (fun c30 => ?_) (fun c30 => ?_)
      · refine x_iconst 232 hK rfl rfl ?_
        refine x_bastore 233 hK rfl rfl (sp_174 (h := h5) hG5) (by omega) (by omega) (by omega) (by omega) ?_
        refine x_aload_n 234 hK rfl rfl l0 ?_
        refine x_dup 235 hK rfl rfl rfl ?_
        refine x_getE 238 hK rfl (Or.inl rfl) rfl (sp_171 (h := h5) hG5) (e := (lsum (RR.2.2.take k.toNat))) ((gi_a (by decide) _).trans ((gi_a (by decide) _).trans (d5))) ?_
        refine x_aload_n 239 hK rfl rfl l0 ?_
        refine x_getR 242 hK rfl rfl (sp_171 (h := h5) hG5) (rf_171_21 (h := h5) hG5) ?_
        refine x_iconst 243 hK rfl rfl ?_
        refine x_iload 245 hK rfl rfl l6 ?_
        refine x_imul 246 hK rfl rfl ?_
        refine x_iconst 247 hK rfl rfl ?_
        refine x_iadd 248 hK rfl rfl ?_
        refine x_ialoadE 249 hK rfl rfl (sp_181 (h := h5) hG5) (by omega) (by omega) (by omega) (e' := (RR.2.2.getD k.toNat (0, 0)).2) ((gi_a (by decide) _).trans ((gi_a (by decide) _).trans (((gi_to (by omega)).trans (rlk (by omega)).2)))) ?_
        refine x_iadd 250 hK rfl rfl ?_
        refine x_putI 253 hK rfl rfl (sp_171 (h := h5) hG5) ?_
        refine x_iinc 256 hK rfl rfl l6 _ rfl ?_
        refine x_goto 181 hK rfl rfl ?_
        have rbq := rbk (by omega)
        have tsq := ts (by omega)
        have y1 : gi (wI (wI (wI h5 173 k.toNat ((RR.2.2.getD k.toNat (0, 0)).1)) 174 k.toNat 0) 171 5 ((lsum (RR.2.2.take k.toNat)) + (RR.2.2.getD k.toNat (0, 0)).2)) 173 k.toNat = (RR.2.2.getD k.toNat (0, 0)).1 := (gi_a (by decide) _).trans ((gi_a (by decide) _).trans (gi_same (by omega)))
        have y2 : gi (wI (wI (wI h5 173 k.toNat ((RR.2.2.getD k.toNat (0, 0)).1)) 174 k.toNat 0) 171 5 ((lsum (RR.2.2.take k.toNat)) + (RR.2.2.getD k.toNat (0, 0)).2)) 174 k.toNat = (RR.2.2.getD k.toNat (0, 0)).2 := ((gi_a (by decide) _).trans (gi_same (by omega))).trans (by omega)
        have y5 : gi (wI (wI (wI h5 173 k.toNat ((RR.2.2.getD k.toNat (0, 0)).1)) 174 k.toNat 0) 171 5 ((lsum (RR.2.2.take k.toNat)) + (RR.2.2.getD k.toNat (0, 0)).2)) 171 5 = lsum (RR.2.2.take (k + 1).toNat) := by rw [tn_s k0.1, tsq, lsum_snoc]; exact gi_same (by omega)
        have ym : mpL (wI (wI (wI h5 173 k.toNat ((RR.2.2.getD k.toNat (0, 0)).1)) 174 k.toNat 0) 171 5 ((lsum (RR.2.2.take k.toNat)) + (RR.2.2.getD k.toNat (0, 0)).2)) (k + 1).toNat = RR.2.2.take (k + 1).toNat := by
          rw [tn_s k0.1, tsq, ← mp]
          exact mpL_s y1 y2 fun j hj => ⟨(gi_a (by decide) _).trans ((gi_a (by decide) _).trans (gi_k (by omega) _)), (gi_a (by decide) _).trans ((gi_k (by omega) _).trans (gi_a (by decide) _))⟩
        exact ih _ (by omega) (k + 1) _ _ rfl (by omega) (f0) ((gi_k (by decide) _).trans ((gi_a (by decide) _).trans ((gi_a (by decide) _).trans (t5)))) ((gi_k (by decide) _).trans ((gi_a (by decide) _).trans ((gi_a (by decide) _).trans (z5)))) ((gi_k (by decide) _).trans ((gi_a (by decide) _).trans ((gi_a (by decide) _).trans (d3)))) ((gi_k (by decide) _).trans ((gi_a (by decide) _).trans ((gi_a (by decide) _).trans (d4)))) (y5) ((fun j hj => by rw [show gi (wI (wI (wI h5 173 k.toNat ((RR.2.2.getD k.toNat (0, 0)).1)) 174 k.toNat 0) 171 5 ((lsum (RR.2.2.take k.toNat)) + (RR.2.2.getD k.toNat (0, 0)).2)) 181 (2 * j) = gi h5 181 (2 * j) from (gi_a (by decide) _).trans ((gi_a (by decide) _).trans (gi_a (by decide) _)), show gi (wI (wI (wI h5 173 k.toNat ((RR.2.2.getD k.toNat (0, 0)).1)) 174 k.toNat 0) 171 5 ((lsum (RR.2.2.take k.toNat)) + (RR.2.2.getD k.toNat (0, 0)).2)) 181 (2 * j + 1) = gi h5 181 (2 * j + 1) from (gi_a (by decide) _).trans ((gi_a (by decide) _).trans (gi_a (by decide) _))]; exact rl j hj)) (ym) (lk1_n l0 (by decide) (Or.inl rfl)) lk1_s (GD_w0 (GD_wu (GD_wn (hG5) (r := 56) rfl rfl) (r := 57) rfl (by omega) rfl (by omega) (by omega)) (r := 54) rfl rfl) (FRM_w (FRM_wn 0 9 (FRM_wn 0 9 (hF5) (r := 56) rfl rfl rfl (by omega) (by omega)) (r := 57) rfl rfl rfl (by omega) (by omega)) (r := 54) rfl rfl)
      · refine x_iconst 228 hK rfl rfl ?_
        refine x_goto 232 hK rfl rfl ?_
        refine x_bastore 233 hK rfl rfl (sp_174 (h := h5) hG5) (by omega) (by omega) (by omega) (by omega) ?_
        refine x_aload_n 234 hK rfl rfl l0 ?_
        refine x_dup 235 hK rfl rfl rfl ?_
        refine x_getE 238 hK rfl (Or.inl rfl) rfl (sp_171 (h := h5) hG5) (e := (lsum (RR.2.2.take k.toNat))) ((gi_a (by decide) _).trans ((gi_a (by decide) _).trans (d5))) ?_
        refine x_aload_n 239 hK rfl rfl l0 ?_
        refine x_getR 242 hK rfl rfl (sp_171 (h := h5) hG5) (rf_171_21 (h := h5) hG5) ?_
        refine x_iconst 243 hK rfl rfl ?_
        refine x_iload 245 hK rfl rfl l6 ?_
        refine x_imul 246 hK rfl rfl ?_
        refine x_iconst 247 hK rfl rfl ?_
        refine x_iadd 248 hK rfl rfl ?_
        refine x_ialoadE 249 hK rfl rfl (sp_181 (h := h5) hG5) (by omega) (by omega) (by omega) (e' := (RR.2.2.getD k.toNat (0, 0)).2) ((gi_a (by decide) _).trans ((gi_a (by decide) _).trans (((gi_to (by omega)).trans (rlk (by omega)).2)))) ?_
        refine x_iadd 250 hK rfl rfl ?_
        refine x_putI 253 hK rfl rfl (sp_171 (h := h5) hG5) ?_
        refine x_iinc 256 hK rfl rfl l6 _ rfl ?_
        refine x_goto 181 hK rfl rfl ?_
        have rbq := rbk (by omega)
        have tsq := ts (by omega)
        have y1 : gi (wI (wI (wI h5 173 k.toNat ((RR.2.2.getD k.toNat (0, 0)).1)) 174 k.toNat 1) 171 5 ((lsum (RR.2.2.take k.toNat)) + (RR.2.2.getD k.toNat (0, 0)).2)) 173 k.toNat = (RR.2.2.getD k.toNat (0, 0)).1 := (gi_a (by decide) _).trans ((gi_a (by decide) _).trans (gi_same (by omega)))
        have y2 : gi (wI (wI (wI h5 173 k.toNat ((RR.2.2.getD k.toNat (0, 0)).1)) 174 k.toNat 1) 171 5 ((lsum (RR.2.2.take k.toNat)) + (RR.2.2.getD k.toNat (0, 0)).2)) 174 k.toNat = (RR.2.2.getD k.toNat (0, 0)).2 := ((gi_a (by decide) _).trans (gi_same (by omega))).trans (by omega)
        have y5 : gi (wI (wI (wI h5 173 k.toNat ((RR.2.2.getD k.toNat (0, 0)).1)) 174 k.toNat 1) 171 5 ((lsum (RR.2.2.take k.toNat)) + (RR.2.2.getD k.toNat (0, 0)).2)) 171 5 = lsum (RR.2.2.take (k + 1).toNat) := by rw [tn_s k0.1, tsq, lsum_snoc]; exact gi_same (by omega)
        have ym : mpL (wI (wI (wI h5 173 k.toNat ((RR.2.2.getD k.toNat (0, 0)).1)) 174 k.toNat 1) 171 5 ((lsum (RR.2.2.take k.toNat)) + (RR.2.2.getD k.toNat (0, 0)).2)) (k + 1).toNat = RR.2.2.take (k + 1).toNat := by
          rw [tn_s k0.1, tsq, ← mp]
          exact mpL_s y1 y2 fun j hj => ⟨(gi_a (by decide) _).trans ((gi_a (by decide) _).trans (gi_k (by omega) _)), (gi_a (by decide) _).trans ((gi_k (by omega) _).trans (gi_a (by decide) _))⟩
        exact ih _ (by omega) (k + 1) _ _ rfl (by omega) (f0) ((gi_k (by decide) _).trans ((gi_a (by decide) _).trans ((gi_a (by decide) _).trans (t5)))) ((gi_k (by decide) _).trans ((gi_a (by decide) _).trans ((gi_a (by decide) _).trans (z5)))) ((gi_k (by decide) _).trans ((gi_a (by decide) _).trans ((gi_a (by decide) _).trans (d3)))) ((gi_k (by decide) _).trans ((gi_a (by decide) _).trans ((gi_a (by decide) _).trans (d4)))) (y5) ((fun j hj => by rw [show gi (wI (wI (wI h5 173 k.toNat ((RR.2.2.getD k.toNat (0, 0)).1)) 174 k.toNat 1) 171 5 ((lsum (RR.2.2.take k.toNat)) + (RR.2.2.getD k.toNat (0, 0)).2)) 181 (2 * j) = gi h5 181 (2 * j) from (gi_a (by decide) _).trans ((gi_a (by decide) _).trans (gi_a (by decide) _)), show gi (wI (wI (wI h5 173 k.toNat ((RR.2.2.getD k.toNat (0, 0)).1)) 174 k.toNat 1) 171 5 ((lsum (RR.2.2.take k.toNat)) + (RR.2.2.getD k.toNat (0, 0)).2)) 181 (2 * j + 1) = gi h5 181 (2 * j + 1) from (gi_a (by decide) _).trans ((gi_a (by decide) _).trans (gi_a (by decide) _))]; exact rl j hj)) (ym) (lk1_n l0 (by decide) (Or.inl rfl)) lk1_s (GD_w0 (GD_wu (GD_wn (hG5) (r := 56) rfl rfl) (r := 57) rfl (by omega) rfl (by omega) (by omega)) (r := 54) rfl rfl) (FRM_w (FRM_wn 0 9 (FRM_wn 0 9 (hF5) (r := 56) rfl rfl rfl (by omega) (by omega)) (r := 57) rfl rfl rfl (by omega) (by omega)) (r := 54) rfl rfl)
  have end1 : ∀ (w is : Int) (h4 : aH) (ls : List (Nat × Value)), (is = b2i RR.2.1.1) → (RR.2.1.1 = true → w = RR.1) → (r32 w) → (gi h4 171 18 = RR.2.1.2) → (gi h4 171 19 = min (gi h 171 17) 43) → (gi h4 171 0 = 0) → (gi h4 171 17 = 0) → (RR.2.1.1 = true → rdL h4 (gi h4 171 22).toNat = RR.2.2) → lk ls 0 = some (.ref 171) → lk ls 1 = some (.int (I (gi h 171 17))) → lk ls 2 = some (.int (I w)) → lk ls 3 = some (.int (I is)) → GD gE gRL sh h4 → FRM gRL [(0, 54, 0, 0), (0, 54, 17, 20), (0, 54, 22, 22), (0, 64, 0, 31)] h h4 → K 142 ls [] h4 0 0 := by
    intro w is h4 ls ib wb rw a4 to4 t4 z4 rl l0 l1 l2 l3 hG4 hF4
    have g22 := gri 0 16 hG4 (a := 171) (r := 54) (k := 22) rfl rfl
    have is01 := b2i_r RR.2.1.1
    have a0 := rb.1
    have fb := fltF_le (n := gi h 171 17) (most := 43) (r := RR.2.1) (by omega) a0.1
    refine x_aload_n 143 hK rfl rfl l0 ?_
    refine x_iload_n 144 hK rfl rfl l1 ?_
    refine x_bipush 146 hK rfl rfl rfl ?_
    refine x_iload_n 147 hK rfl rfl l3 ?_
    refine x_callV 150 hK hmono rfl rfl [.ref 171, .int (I (gi h 171 17)), .int (I 43), .int (I is)] [] rfl rfl (Nat.le_of_ble_eq_true rfl) (Nat.le_of_ble_eq_true rfl) rfl (sp_171 (h := h4) hG4) (CLd_le (Nat.le_of_ble_eq_true rfl) (ctX11_faultOf hSP hG4 (by omega) (by omega) (by omega))) ?_
    rintro v9 h9 ⟨e9, rfl⟩
    rw [e9, a4, to4]
    clear e9
    rw [show (if 43 < gi h 171 17 ∧ ((is = 1 ∧ RR.2.1.2 = min (gi h 171 17) 43) ∨ 43 ≤ RR.2.1.2) then -1 - 43 else if is = 1 ∧ RR.2.1.2 = min (gi h 171 17) 43 then 0 else -1 - RR.2.1.2) = fltF (gi h 171 17) 43 RR.2.1 from by rw [ib]; exact flt_i]
    have fr : r32 (fltF (gi h 171 17) 43 RR.2.1) := by unfold fltF at fb ⊢; (repeat' split) <;> omega
    refine x_istore 152 hK rfl rfl _ rfl ?_
    refine x_iload 154 hK rfl rfl lk1_s ?_
    refine x_if_ge 160 157 hK rfl rfl rfl (by omega) (fun c8 => ?_) (fun c8 => ?_)
    · have r1 := (fltF_0 (n := gi h 171 17) (most := 43) (by omega) a0.1 (by omega)).1
      have we := wb r1
      have wr := rb.2.2.1 r1
      have rl4 := rl r1
      have len4 := rdL_l rl4
      have rb1 := rb.2.1
      refine x_aload_n 161 hK rfl rfl (lk1_n l0 (by decide) (Or.inl rfl)) ?_
      refine x_iload_n 162 hK rfl rfl (lk1_n l2 (by decide) (Or.inl rfl)) ?_
      refine x_putI 165 hK rfl rfl (sp_171 (h := h4) hG4) ?_
      refine x_aload_n 166 hK rfl rfl (lk1_n l0 (by decide) (Or.inl rfl)) ?_
      refine x_aload_n 167 hK rfl rfl (lk1_n l0 (by decide) (Or.inl rfl)) ?_
      have g274 := gri (0) (16) hG4 (a := 171) (r := 54) (k := 22) rfl rfl
      refine x_getE 170 hK rfl (Or.inl rfl) rfl (sp_171 (h := h4) hG4) (e := (gi h4 171 22)) (gi_k (by decide) _) ?_
      refine x_putI 173 hK rfl rfl (sp_171 (h := h4) hG4) ?_
      refine x_aload_n 174 hK rfl rfl (lk1_n l0 (by decide) (Or.inl rfl)) ?_
      refine x_iconst 175 hK rfl rfl ?_
      refine x_putI 178 hK rfl rfl (sp_171 (h := h4) hG4) ?_
      refine x_iconst 179 hK rfl rfl ?_
      refine x_istore 181 hK rfl rfl _ rfl ?_
      exact loop2 _ 0 _ _ rfl (⟨by omega, by omega⟩) (by omega) ((gi_k (by decide) _).trans ((gi_k (by decide) _).trans ((gi_k (by decide) _).trans (t4)))) ((gi_k (by decide) _).trans ((gi_k (by decide) _).trans ((gi_k (by decide) _).trans (z4)))) (((gi_k (by decide) _).trans ((gi_k (by decide) _).trans (gi_same (by omega)))).trans we) (((gi_k (by decide) _).trans (gi_same (by omega))).trans (by omega)) ((gi_same (by omega)).trans rfl) ((fun j hj => by rw [show gi (wI (wI (wI h4 171 3 w) 171 4 (gi h4 171 22)) 171 5 0) 181 (2 * j) = gi h4 181 (2 * j) from (gi_a (by decide) _).trans ((gi_a (by decide) _).trans (gi_a (by decide) _)), show gi (wI (wI (wI h4 171 3 w) 171 4 (gi h4 171 22)) 171 5 0) 181 (2 * j + 1) = gi h4 181 (2 * j + 1) from (gi_a (by decide) _).trans ((gi_a (by decide) _).trans (gi_a (by decide) _))]; exact rdL_get rl4 (by omega))) (rfl) (lk1_n (lk1_n l0 (by decide) (Or.inl rfl)) (by decide) (Or.inl rfl)) lk1_s (GD_w0 (GD_w1 (GD_w1 (hG4) (r := 54) rfl (by omega) rfl (by omega) (by omega)) (r := 54) rfl (by omega) rfl (by omega) (by omega)) (r := 54) rfl rfl) (FRM_w (FRM_w (FRM_w ((hF4).mono rfl) (r := 54) rfl rfl) (r := 54) rfl rfl) (r := 54) rfl rfl)
    · refine x_iload 159 hK rfl rfl lk1_s ?_
      exact x_iret hK rfl ⟨Or.inl ⟨by omega, rfl, FRM_gi hF4 (r := 54) rfl rfl, FRM_gi hF4 (r := 54) rfl rfl, FRM_gi hF4 (r := 54) rfl rfl, fun j => ⟨FRM_gi hF4 (r := 56) rfl rfl, FRM_gi hF4 (r := 57) rfl rfl⟩⟩, hG4, (hF4).mono rfl, t4, z4⟩
  have loop1 : ∀ (mz : Nat) (w a p : Int) (h6 : aH) (ls : List (Nat × Value)), ((11 - gi h6 171 22).toNat = mz) → (2 ≤ w ∧ w ≤ 40) → (RR.1 = w) → (-1 ≤ a ∧ a < w) → (0 ≤ gi h6 171 22 ∧ gi h6 171 22 ≤ 10) → (gi h6 171 18 = p) → (0 ≤ p ∧ p ≤ min (gi h 171 17) 43) → (gi h6 171 19 = min (gi h 171 17) 43) → (gi h6 171 0 = 0) → (gi h6 171 17 = 0) → (RR.2.1 = (shP T w (10 - gi h6 171 22).toNat a p).1) → (RR.2.2 = rdL h6 (gi h6 171 22).toNat ++ (shP T w (10 - gi h6 171 22).toNat a p).2) → lk ls 0 = some (.ref 171) → lk ls 1 = some (.int (I (gi h 171 17))) → lk ls 2 = some (.int (I w)) → lk ls 3 = some (.int (I 1)) → lk ls 4 = some (.int (I a)) → GD gE gRL sh h6 → FRM gRL [(0, 54, 0, 0), (0, 54, 17, 20), (0, 54, 22, 22), (0, 64, 0, 31)] h h6 → K 39 ls [] h6 0 0 := by
    intro mz
    induction mz using Nat.strongRecOn with
    | ind mz ih =>
    intro w a p h6 ls hm w0 wd a0 i6 d6 p0 to6 t6 z6 e1 e2 l0 l1 l2 l3 l4 hG6 hF6
    have ft6 : fm h6 = T := by rw [fm_tx, to6, ← hT, show gi h6 180 = gi h 180 from funext fun k => FRM_gi hF6 (r := 63) rfl rfl]
    obtain ⟨i, hi⟩ : ∃ i, gi h6 171 22 = i := ⟨_, rfl⟩
    rw [hi] at i6 e1 e2
    refine x_iload_n 40 hK rfl rfl l3 ?_
    refine x_if_eq 142 43 hK rfl rfl rfl (by omega) (fun c => by omega) (fun _ => ?_)
    refine x_aload_n 44 hK rfl rfl l0 ?_
    refine x_getE 47 hK rfl (Or.inl rfl) rfl (sp_171 (h := h6) hG6) (e := i) (hi) ?_
    refine x_bipush 49 hK rfl rfl rfl ?_
    refine x_if_icmp_ge 142 52 hK rfl rfl rfl (by omega) (by omega) (fun c6 => ?_) (fun c6 => ?_)
    · have er : shP T w (10 - i).toNat a p = ((true, p), []) := by
        by_cases z : i = 10
        · rw [z]; rfl
        · rw [show (10 - i).toNat = (9 - i).toNat + 1 by omega]
          show (if T p = 44 then _ else _) = _
          rw [if_neg (by omega)]
      rw [er] at e1 e2
      exact end1 w 1 _ _ ((by rw [e1]; rfl)) ((fun _ => wd.symm)) (by omega) ((by rw [e1]; exact d6)) (to6) (t6) (z6) ((fun z => by rw [e2, List.append_nil, show gi h6 171 22 = i from hi] <;> exact rdL_congr fun j hj => rfl)) l0 l1 l2 l3 (hG6) (hF6)
    · refine x_aload_n 53 hK rfl rfl l0 ?_
      refine x_bipush 55 hK rfl rfl rfl ?_
      have at275 : gi h6 171 18 = p := d6
      have fe275 : fm h6 = T := ft6
      have to275 : gi h6 171 19 = (min (gi h 171 17) 43) := to6
      refine x_callV 58 hK hmono rfl rfl [.ref 171, .int (I 44)] [] rfl rfl (Nat.le_of_ble_eq_true rfl) (Nat.le_of_ble_eq_true rfl) rfl (sp_171 (h := h6) hG6) (CLd_le (Nat.le_of_ble_eq_true rfl) (ctX11_takes hSP hG6 (s := 44) (by omega))) ?_
      rw [fe275, at275, to275]
      clear fe275 at275 to275
      rintro v275 h275 ⟨hG275, hF275, ⟨rfl, tk275, tt275, eq275⟩ | ⟨rfl, tk275, eq275⟩⟩
      · refine x_if_eq 142 61 hK rfl rfl rfl (by omega) (fun c => by omega) (fun _ => ?_)
        refine x_aload_n 62 hK rfl rfl l0 ?_
        refine x_iconst 63 hK rfl rfl ?_
        refine x_iload 65 hK rfl rfl l4 ?_
        refine x_iconst 66 hK rfl rfl ?_
        refine x_iadd 67 hK rfl rfl ?_
        refine x_iload_n 68 hK rfl rfl l2 ?_
        refine x_iconst 69 hK rfl rfl ?_
        refine x_isub 70 hK rfl rfl ?_
        have at276 : gi h275 171 18 = (p + 1) := eq275
        have fe276 : fm h275 = T := (fm_F hF275 rfl rfl).trans (ft6)
        have to276 : gi h275 171 19 = (min (gi h 171 17) 43) := (FRM_gi hF275 (r := 54) rfl rfl).trans (to6)
        refine x_callV 73 hK hmono rfl rfl [.ref 171, .int (I 2), .int (I (a + 1)), .int (I (w - 1))] [] rfl rfl (Nat.le_of_ble_eq_true rfl) (Nat.le_of_ble_eq_true rfl) rfl (sp_171 (h := h275) hG275) (CLd_le (Nat.le_of_ble_eq_true rfl) (ctX11_numberIn hSP hG275 (n := 2) (lo := (a + 1)) (hi := (w - 1)) (by omega) (by omega) (by omega))) ?_
        rw [fe276, at276, to276]
        clear fe276 at276 to276
        rintro v276 h276 ⟨⟨e276, rfl, ne276, nu276, nf276⟩, hG276, hF276, np276, nq276, nr276⟩
        have nm276 : nmI T 2 (a + 1) (w - 1) (p + 1) = (e276, gi h276 171 18) := nmI_e nu276 np276
        clear nu276 np276
        generalize eq276 : gi h276 171 18 = p276 at *
        refine x_istore 75 hK rfl rfl _ rfl ?_
        refine x_iload 77 hK rfl rfl lk1_s ?_
        refine x_if_lt 84 80 hK rfl rfl rfl (by omega) (fun c23 => ?_) (fun c23 => ?_)
        · refine x_iconst 85 hK rfl rfl ?_
          refine x_istore_n 86 hK rfl rfl _ rfl ?_
          refine x_iload_n 87 hK rfl rfl lk1_s ?_
          refine x_if_eq 139 90 hK rfl rfl rfl (by omega) (fun _ => ?_) (fun c => by omega)
          refine x_goto 39 hK rfl rfl ?_
          refine x_iload_n 40 hK rfl rfl lk1_s ?_
          refine x_if_eq 142 43 hK rfl rfl rfl (by omega) (fun _ => ?_) (fun c => by omega)
          have er : shP T w (10 - i).toNat a p = ((false, p276), []) := by
            rw [show (10 - i).toNat = (9 - i).toNat + 1 by omega]
            show (if T p = 44 then _ else _) = _
            rw [if_pos (by omega), nm276, if_pos (show e276 < 0 by omega)]
          rw [er] at e1 e2
          exact end1 w 0 _ _ ((by rw [e1]; rfl)) ((fun z => by rw [e1] at z; cases z)) (by omega) ((by rw [e1]; exact eq276)) ((FRM_gi hF276 (r := 54) rfl rfl).trans ((FRM_gi hF275 (r := 54) rfl rfl).trans (to6))) ((FRM_gi hF276 (r := 54) rfl rfl).trans ((FRM_gi hF275 (r := 54) rfl rfl).trans (t6))) ((FRM_gi hF276 (r := 54) rfl rfl).trans ((FRM_gi hF275 (r := 54) rfl rfl).trans (z6))) ((fun z => by rw [e1] at z; cases z)) (lk1_n (lk1_n l0 (by decide) (Or.inl rfl)) (by decide) (Or.inl rfl)) (lk1_n (lk1_n l1 (by decide) (Or.inl rfl)) (by decide) (Or.inl rfl)) (lk1_n (lk1_n l2 (by decide) (Or.inl rfl)) (by decide) (Or.inl rfl)) lk1_s (hG276) (((hF6).trans ((hF275).mono rfl)).trans ((hF276).mono rfl))
        · refine x_iconst 81 hK rfl rfl ?_
          refine x_goto 85 hK rfl rfl ?_
          refine x_istore_n 86 hK rfl rfl _ rfl ?_
          refine x_iload_n 87 hK rfl rfl lk1_s ?_
          refine x_if_eq 139 90 hK rfl rfl rfl (by omega) (fun c => by omega) (fun _ => ?_)
          refine x_iload 92 hK rfl rfl (lk1_n lk1_s (by decide) (Or.inl rfl)) ?_
          refine x_istore 94 hK rfl rfl _ rfl ?_
          refine x_aload_n 95 hK rfl rfl (lk1_n (lk1_n (lk1_n l0 (by decide) (Or.inl rfl)) (by decide) (Or.inl rfl)) (by decide) (Or.inl rfl)) ?_
          refine x_getR 98 hK rfl rfl (sp_171 (h := h276) hG276) (rf_171_21 (h := h276) hG276) ?_
          refine x_iconst 99 hK rfl rfl ?_
          refine x_aload_n 100 hK rfl rfl (lk1_n (lk1_n (lk1_n l0 (by decide) (Or.inl rfl)) (by decide) (Or.inl rfl)) (by decide) (Or.inl rfl)) ?_
          refine x_getE 103 hK rfl (Or.inl rfl) rfl (sp_171 (h := h276) hG276) (e := i) ((FRM_gi hF276 (r := 54) rfl rfl).trans ((FRM_gi hF275 (r := 54) rfl rfl).trans (hi))) ?_
          refine x_imul 104 hK rfl rfl ?_
          refine x_iload 106 hK rfl rfl (lk1_n (lk1_n lk1_s (by decide) (Or.inl rfl)) (by decide) (Or.inl rfl)) ?_
          refine x_iastore 107 hK rfl rfl (sp_181 (h := h276) hG276) (by omega) (by omega) (by omega) ?_
          refine x_aload_n 108 hK rfl rfl (lk1_n (lk1_n (lk1_n l0 (by decide) (Or.inl rfl)) (by decide) (Or.inl rfl)) (by decide) (Or.inl rfl)) ?_
          refine x_getR 111 hK rfl rfl (sp_171 (h := h276) hG276) (rf_171_21 (h := h276) hG276) ?_
          refine x_iconst 112 hK rfl rfl ?_
          refine x_aload_n 113 hK rfl rfl (lk1_n (lk1_n (lk1_n l0 (by decide) (Or.inl rfl)) (by decide) (Or.inl rfl)) (by decide) (Or.inl rfl)) ?_
          refine x_getE 116 hK rfl (Or.inl rfl) rfl (sp_171 (h := h276) hG276) (e := i) ((gi_a (by decide) _).trans ((FRM_gi hF276 (r := 54) rfl rfl).trans ((FRM_gi hF275 (r := 54) rfl rfl).trans (hi)))) ?_
          refine x_imul 117 hK rfl rfl ?_
          refine x_iconst 118 hK rfl rfl ?_
          refine x_iadd 119 hK rfl rfl ?_
          refine x_aload_n 120 hK rfl rfl (lk1_n (lk1_n (lk1_n l0 (by decide) (Or.inl rfl)) (by decide) (Or.inl rfl)) (by decide) (Or.inl rfl)) ?_
          refine x_bipush 122 hK rfl rfl rfl ?_
          have hGp278 : GD gE gRL sh (wI h276 181 (2 * i).toNat e276) := GD_wn (hG276) (r := 64) rfl rfl
          have at277 : gi (wI h276 181 (2 * i).toNat e276) 171 18 = p276 := (gi_a (by decide) _).trans (eq276)
          have fe277 : fm (wI h276 181 (2 * i).toNat e276) = T := (fm_wI (by decide) (Or.inl (by decide))).trans ((fm_F hF276 rfl rfl).trans ((fm_F hF275 rfl rfl).trans (ft6)))
          have to277 : gi (wI h276 181 (2 * i).toNat e276) 171 19 = (min (gi h 171 17) 43) := (gi_a (by decide) _).trans ((FRM_gi hF276 (r := 54) rfl rfl).trans ((FRM_gi hF275 (r := 54) rfl rfl).trans (to6)))
          refine x_callV 125 hK hmono rfl rfl [.ref 171, .int (I 42)] [.int (I ((2 * i) + 1)), .ref 181] rfl rfl (Nat.le_of_ble_eq_true rfl) (Nat.le_of_ble_eq_true rfl) rfl (sp_171 (h := h276) hG276) (CLd_le (Nat.le_of_ble_eq_true rfl) (ctX11_takes hSP hGp278 (s := 42) (by omega))) ?_
          rw [fe277, at277, to277]
          clear fe277 at277 to277
          rintro v277 h277 ⟨hG277, hF277, ⟨rfl, tk277, tt277, eq277⟩ | ⟨rfl, tk277, eq277⟩⟩
          · refine x_callS 128 hK hmono rfl (Or.inl rfl) rfl [.int (I 1)] [.int (I ((2 * i) + 1)), .ref 181] rfl rfl (Nat.le_of_ble_eq_true rfl) (Nat.le_of_ble_eq_true rfl) (CLd_le (Nat.le_of_ble_eq_true rfl) (ctX11_flag (by omega))) ?_
            rintro v9 h9 ⟨e9, rfl⟩
            rw [e9]
            clear e9
            refine x_iastore 129 hK rfl rfl (sp_181 (h := h277) hG277) (by omega) (by omega) (by omega) ?_
            refine x_aload_n 130 hK rfl rfl (lk1_n (lk1_n (lk1_n l0 (by decide) (Or.inl rfl)) (by decide) (Or.inl rfl)) (by decide) (Or.inl rfl)) ?_
            refine x_dup 131 hK rfl rfl rfl ?_
            refine x_getE 134 hK rfl (Or.inl rfl) rfl (sp_171 (h := h277) hG277) (e := i) ((gi_a (by decide) _).trans ((FRM_gi hF277 (r := 54) rfl rfl).trans ((gi_a (by decide) _).trans ((FRM_gi hF276 (r := 54) rfl rfl).trans ((FRM_gi hF275 (r := 54) rfl rfl).trans (hi)))))) ?_
            refine x_iconst 135 hK rfl rfl ?_
            refine x_iadd 136 hK rfl rfl ?_
            refine x_putI 139 hK rfl rfl (sp_171 (h := h277) hG277) ?_
            refine x_goto 39 hK rfl rfl ?_
            have er : shP T w (10 - i).toNat a p = ((shP T w (10 - (i + 1)).toNat e276 (p276 + 1)).1, (e276, 1) :: (shP T w (10 - (i + 1)).toNat e276 (p276 + 1)).2) := by
              rw [show (10 - i).toNat = (10 - (i + 1)).toNat + 1 by omega]
              show (if T p = 44 then _ else _) = _
              rw [if_pos (by omega), nm276, if_neg (show ¬ e276 < 0 by omega)]
              show (if T p276 = 42 then _ else _) = _
              rw [if_pos (by omega)]
            rw [er] at e1 e2
            have y0 : gi (wI (wI h277 181 ((2 * i) + 1).toNat 1) 171 22 (i + 1)) 181 (2 * i).toNat = e276 := (gi_a (by decide) _).trans ((gi_k (by omega) _).trans ((FRM_gi hF277 (r := 64) rfl rfl).trans (gi_same (by omega))))
            have y1 : gi (wI (wI h277 181 ((2 * i) + 1).toNat 1) 171 22 (i + 1)) 181 ((2 * i) + 1).toNat = 1 := (gi_a (by decide) _).trans (gi_same (by omega))
            have y22 : gi (wI (wI h277 181 ((2 * i) + 1).toNat 1) 171 22 (i + 1)) 171 22 = i + 1 := gi_same (by omega)
            have yr : rdL (wI (wI h277 181 ((2 * i) + 1).toNat 1) 171 22 (i + 1)) (i + 1).toNat = rdL h6 i.toNat ++ [(e276, 1)] := by
              rw [tn_s i6.1, rdL_s]
              congr 1
              · exact rdL_congr fun j hj => (gi_a (by decide) _).trans ((gi_k (by omega) _).trans ((FRM_gi hF277 (r := 64) rfl rfl).trans ((gi_k (by omega) _).trans ((FRM_gi hF276 (r := 64) rfl rfl).trans (FRM_gi hF275 (r := 64) rfl rfl)))))
              · rw [(gi_to (show 2 * i.toNat = (2 * i).toNat by omega)).trans y0, (gi_to (show 2 * i.toNat + 1 = ((2 * i) + 1).toNat by omega)).trans y1]
            exact ih _ (by rw [y22]; omega) w e276 (p276 + 1) _ _ rfl (w0) (wd) (by omega) (by rw [y22]; omega) ((gi_k (by decide) _).trans ((gi_a (by decide) _).trans (eq277))) (by omega) ((gi_k (by decide) _).trans ((gi_a (by decide) _).trans ((FRM_gi hF277 (r := 54) rfl rfl).trans ((gi_a (by decide) _).trans ((FRM_gi hF276 (r := 54) rfl rfl).trans ((FRM_gi hF275 (r := 54) rfl rfl).trans (to6))))))) ((gi_k (by decide) _).trans ((gi_a (by decide) _).trans ((FRM_gi hF277 (r := 54) rfl rfl).trans ((gi_a (by decide) _).trans ((FRM_gi hF276 (r := 54) rfl rfl).trans ((FRM_gi hF275 (r := 54) rfl rfl).trans (t6))))))) ((gi_k (by decide) _).trans ((gi_a (by decide) _).trans ((FRM_gi hF277 (r := 54) rfl rfl).trans ((gi_a (by decide) _).trans ((FRM_gi hF276 (r := 54) rfl rfl).trans ((FRM_gi hF275 (r := 54) rfl rfl).trans (z6))))))) (by rw [y22]; exact e1) (by rw [y22, yr, e2, List.append_assoc]; rfl) (lk1_n (lk1_n (lk1_n l0 (by decide) (Or.inl rfl)) (by decide) (Or.inl rfl)) (by decide) (Or.inl rfl)) (lk1_n (lk1_n (lk1_n l1 (by decide) (Or.inl rfl)) (by decide) (Or.inl rfl)) (by decide) (Or.inl rfl)) (lk1_n (lk1_n (lk1_n l2 (by decide) (Or.inl rfl)) (by decide) (Or.inl rfl)) (by decide) (Or.inl rfl)) (lk1_n lk1_s (by decide) (Or.inl rfl)) lk1_s (GD_w1 (GD_wn (hG277) (r := 64) rfl rfl) (r := 54) rfl (by omega) rfl (by omega) (by omega)) (FRM_w (FRM_wn 0 31 ((FRM_wn 0 31 (((hF6).trans ((hF275).mono rfl)).trans ((hF276).mono rfl)) (r := 64) rfl rfl rfl (by omega) (by omega)).trans ((hF277).mono rfl)) (r := 64) rfl rfl rfl (by omega) (by omega)) (r := 54) rfl rfl)
          · refine x_callS 128 hK hmono rfl (Or.inl rfl) rfl [.int (I 0)] [.int (I ((2 * i) + 1)), .ref 181] rfl rfl (Nat.le_of_ble_eq_true rfl) (Nat.le_of_ble_eq_true rfl) (CLd_le (Nat.le_of_ble_eq_true rfl) (ctX11_flag (by omega))) ?_
            rintro v9 h9 ⟨e9, rfl⟩
            rw [e9]
            clear e9
            refine x_iastore 129 hK rfl rfl (sp_181 (h := h277) hG277) (by omega) (by omega) (by omega) ?_
            refine x_aload_n 130 hK rfl rfl (lk1_n (lk1_n (lk1_n l0 (by decide) (Or.inl rfl)) (by decide) (Or.inl rfl)) (by decide) (Or.inl rfl)) ?_
            refine x_dup 131 hK rfl rfl rfl ?_
            refine x_getE 134 hK rfl (Or.inl rfl) rfl (sp_171 (h := h277) hG277) (e := i) ((gi_a (by decide) _).trans ((FRM_gi hF277 (r := 54) rfl rfl).trans ((gi_a (by decide) _).trans ((FRM_gi hF276 (r := 54) rfl rfl).trans ((FRM_gi hF275 (r := 54) rfl rfl).trans (hi)))))) ?_
            refine x_iconst 135 hK rfl rfl ?_
            refine x_iadd 136 hK rfl rfl ?_
            refine x_putI 139 hK rfl rfl (sp_171 (h := h277) hG277) ?_
            refine x_goto 39 hK rfl rfl ?_
            have er : shP T w (10 - i).toNat a p = ((shP T w (10 - (i + 1)).toNat e276 p276).1, (e276, 0) :: (shP T w (10 - (i + 1)).toNat e276 p276).2) := by
              rw [show (10 - i).toNat = (10 - (i + 1)).toNat + 1 by omega]
              show (if T p = 44 then _ else _) = _
              rw [if_pos (by omega), nm276, if_neg (show ¬ e276 < 0 by omega)]
              show (if T p276 = 42 then _ else _) = _
              rw [if_neg (by omega)]
            rw [er] at e1 e2
            have y0 : gi (wI (wI h277 181 ((2 * i) + 1).toNat 0) 171 22 (i + 1)) 181 (2 * i).toNat = e276 := (gi_a (by decide) _).trans ((gi_k (by omega) _).trans ((FRM_gi hF277 (r := 64) rfl rfl).trans (gi_same (by omega))))
            have y1 : gi (wI (wI h277 181 ((2 * i) + 1).toNat 0) 171 22 (i + 1)) 181 ((2 * i) + 1).toNat = 0 := (gi_a (by decide) _).trans (gi_same (by omega))
            have y22 : gi (wI (wI h277 181 ((2 * i) + 1).toNat 0) 171 22 (i + 1)) 171 22 = i + 1 := gi_same (by omega)
            have yr : rdL (wI (wI h277 181 ((2 * i) + 1).toNat 0) 171 22 (i + 1)) (i + 1).toNat = rdL h6 i.toNat ++ [(e276, 0)] := by
              rw [tn_s i6.1, rdL_s]
              congr 1
              · exact rdL_congr fun j hj => (gi_a (by decide) _).trans ((gi_k (by omega) _).trans ((FRM_gi hF277 (r := 64) rfl rfl).trans ((gi_k (by omega) _).trans ((FRM_gi hF276 (r := 64) rfl rfl).trans (FRM_gi hF275 (r := 64) rfl rfl)))))
              · rw [(gi_to (show 2 * i.toNat = (2 * i).toNat by omega)).trans y0, (gi_to (show 2 * i.toNat + 1 = ((2 * i) + 1).toNat by omega)).trans y1]
            exact ih _ (by rw [y22]; omega) w e276 p276 _ _ rfl (w0) (wd) (by omega) (by rw [y22]; omega) ((gi_k (by decide) _).trans ((gi_a (by decide) _).trans (eq277))) (by omega) ((gi_k (by decide) _).trans ((gi_a (by decide) _).trans ((FRM_gi hF277 (r := 54) rfl rfl).trans ((gi_a (by decide) _).trans ((FRM_gi hF276 (r := 54) rfl rfl).trans ((FRM_gi hF275 (r := 54) rfl rfl).trans (to6))))))) ((gi_k (by decide) _).trans ((gi_a (by decide) _).trans ((FRM_gi hF277 (r := 54) rfl rfl).trans ((gi_a (by decide) _).trans ((FRM_gi hF276 (r := 54) rfl rfl).trans ((FRM_gi hF275 (r := 54) rfl rfl).trans (t6))))))) ((gi_k (by decide) _).trans ((gi_a (by decide) _).trans ((FRM_gi hF277 (r := 54) rfl rfl).trans ((gi_a (by decide) _).trans ((FRM_gi hF276 (r := 54) rfl rfl).trans ((FRM_gi hF275 (r := 54) rfl rfl).trans (z6))))))) (by rw [y22]; exact e1) (by rw [y22, yr, e2, List.append_assoc]; rfl) (lk1_n (lk1_n (lk1_n l0 (by decide) (Or.inl rfl)) (by decide) (Or.inl rfl)) (by decide) (Or.inl rfl)) (lk1_n (lk1_n (lk1_n l1 (by decide) (Or.inl rfl)) (by decide) (Or.inl rfl)) (by decide) (Or.inl rfl)) (lk1_n (lk1_n (lk1_n l2 (by decide) (Or.inl rfl)) (by decide) (Or.inl rfl)) (by decide) (Or.inl rfl)) (lk1_n lk1_s (by decide) (Or.inl rfl)) lk1_s (GD_w1 (GD_wn (hG277) (r := 64) rfl rfl) (r := 54) rfl (by omega) rfl (by omega) (by omega)) (FRM_w (FRM_wn 0 31 ((FRM_wn 0 31 (((hF6).trans ((hF275).mono rfl)).trans ((hF276).mono rfl)) (r := 64) rfl rfl rfl (by omega) (by omega)).trans ((hF277).mono rfl)) (r := 64) rfl rfl rfl (by omega) (by omega)) (r := 54) rfl rfl)
      · refine x_if_eq 142 61 hK rfl rfl rfl (by omega) (fun _ => ?_) (fun c => by omega)
        have er : shP T w (10 - i).toNat a p = ((true, p), []) := by
          by_cases z : i = 10
          · rw [z]; rfl
          · rw [show (10 - i).toNat = (9 - i).toNat + 1 by omega]
            show (if T p = 44 then _ else _) = _
            rw [if_neg (by omega)]
        rw [er] at e1 e2
        exact end1 w 1 _ _ ((by rw [e1]; rfl)) ((fun _ => wd.symm)) (by omega) ((by rw [e1]; exact eq275)) ((FRM_gi hF275 (r := 54) rfl rfl).trans (to6)) ((FRM_gi hF275 (r := 54) rfl rfl).trans (t6)) ((FRM_gi hF275 (r := 54) rfl rfl).trans (z6)) ((fun z => by rw [e2, List.append_nil, show gi h275 171 22 = i from (FRM_gi hF275 (r := 54) rfl rfl).trans (hi)] <;> exact rdL_congr fun j hj => FRM_gi hF275 (r := 64) rfl rfl)) l0 l1 l2 l3 (hG275) ((hF6).trans ((hF275).mono rfl))
  refine x_aload_n 1 hK rfl rfl rfl ?_
  refine x_iconst 2 hK rfl rfl ?_
  refine x_putI 5 hK rfl rfl (sp_171 (h := h) hG) ?_
  refine x_aload_n 6 hK rfl rfl rfl ?_
  refine x_bipush 8 hK rfl rfl rfl ?_
  have hGp281 : GD gE gRL sh (wI h 171 0 0) := GD_w1 (hG) (r := 54) rfl (by omega) rfl (by omega) (by omega)
  have sz0 : gi (wI h 171 0 0) 171 17 = gi h 171 17 := gi_k (by decide) _
  refine x_callV 11 hK hmono rfl rfl [.ref 171, .int (I 43)] [] rfl rfl (Nat.le_of_ble_eq_true rfl) (Nat.le_of_ble_eq_true rfl) rfl (sp_171 (h := h) hG) (CLd_le (Nat.le_of_ble_eq_true rfl) (ctX11_begins hSP hGp281 (by omega))) ?_
  rintro v1 h1 ⟨rfl, hG1, hF1, b17, b18, b20, b19⟩
  rw [sz0] at b19 ⊢
  have f1 : fm h1 = T := by rw [fm_tx, b19, ← hT, show gi h1 180 = gi h 180 from funext fun k => (FRM_gi hF1 (r := 63) rfl rfl).trans (gi_a (by decide) _)]
  refine x_istore_n 12 hK rfl rfl [(1, .int (I (gi h 171 17))), (0, .ref 171)] rfl ?_
  refine x_aload_n 13 hK rfl rfl rfl ?_
  refine x_iconst 14 hK rfl rfl ?_
  refine x_putI 17 hK rfl rfl (sp_171 (h := h1) hG1) ?_
  refine x_aload_n 18 hK rfl rfl rfl ?_
  refine x_iconst 19 hK rfl rfl ?_
  refine x_iconst 20 hK rfl rfl ?_
  refine x_bipush 22 hK rfl rfl rfl ?_
  have hGp283 : GD gE gRL sh (wI h1 171 22 0) := GD_w1 (hG1) (r := 54) rfl (by omega) rfl (by omega) (by omega)
  have at282 : gi (wI h1 171 22 0) 171 18 = 0 := (gi_k (by decide) _).trans (b18)
  have fe282 : fm (wI h1 171 22 0) = T := (fm_wI (by decide) (Or.inr (by decide))).trans (f1)
  have to282 : gi (wI h1 171 22 0) 171 19 = (min (gi h 171 17) 43) := (gi_k (by decide) _).trans (b19)
  refine x_callV 25 hK hmono rfl rfl [.ref 171, .int (I 2), .int (I 2), .int (I 40)] [] rfl rfl (Nat.le_of_ble_eq_true rfl) (Nat.le_of_ble_eq_true rfl) rfl (sp_171 (h := h1) hG1) (CLd_le (Nat.le_of_ble_eq_true rfl) (ctX11_numberIn hSP hGp283 (n := 2) (lo := 2) (hi := 40) (by omega) (by omega) (by omega))) ?_
  rw [fe282, at282, to282]
  clear fe282 at282 to282
  rintro v282 h282 ⟨⟨e282, rfl, ne282, nu282, nf282⟩, hG282, hF282, np282, nq282, nr282⟩
  have nm282 : nmI T 2 2 40 0 = (e282, gi h282 171 18) := nmI_e nu282 np282
  clear nu282 np282
  generalize eq282 : gi h282 171 18 = p282 at *
  refine x_istore_n 26 hK rfl rfl [(2, .int (I e282)), (1, .int (I (gi h 171 17))), (0, .ref 171)] rfl ?_
  refine x_iload_n 27 hK rfl rfl rfl ?_
  refine x_if_le 34 30 hK rfl rfl rfl (by omega) (fun c18 => ?_) (fun c18 => ?_)
  · refine x_iconst 35 hK rfl rfl ?_
    refine x_istore_n 36 hK rfl rfl [(3, .int (I 0)), (2, .int (I e282)), (1, .int (I (gi h 171 17))), (0, .ref 171)] rfl ?_
    refine x_iconst 37 hK rfl rfl ?_
    refine x_istore 39 hK rfl rfl [(4, .int (I (-1))), (3, .int (I 0)), (2, .int (I e282)), (1, .int (I (gi h 171 17))), (0, .ref 171)] rfl ?_
    refine x_iload_n 40 hK rfl rfl rfl ?_
    refine x_if_eq 142 43 hK rfl rfl rfl (by omega) (fun _ => ?_) (fun c => by omega)
    have r0 : RR = (e282, (false, p282), []) := by rw [← hRR]; unfold shF; rw [nm282, if_neg (show ¬ 0 < e282 by omega)]
    exact end1 e282 0 _ _ ((by rw [r0]; rfl)) ((fun z => by rw [r0] at z; cases z)) (by omega) ((by rw [r0]; exact eq282)) ((FRM_gi hF282 (r := 54) rfl rfl).trans ((gi_k (by decide) _).trans (b19))) ((FRM_gi hF282 (r := 54) rfl rfl).trans ((gi_k (by decide) _).trans ((FRM_gi hF1 (r := 54) rfl rfl).trans (gi_same (by omega))))) ((FRM_gi hF282 (r := 54) rfl rfl).trans ((gi_k (by decide) _).trans (b17))) ((fun z => by rw [r0] at z; cases z)) rfl rfl rfl rfl (hG282) ((FRM_w ((FRM_w ((FRM.rf : FRM gRL [(0, 54, 0, 0), (0, 54, 17, 20), (0, 54, 22, 22), (0, 64, 0, 31)] h h)) (r := 54) rfl rfl).trans ((hF1).mono rfl)) (r := 54) rfl rfl).trans ((hF282).mono rfl))
  · refine x_iconst 31 hK rfl rfl ?_
    refine x_goto 35 hK rfl rfl ?_
    refine x_istore_n 36 hK rfl rfl [(3, .int (I 1)), (2, .int (I e282)), (1, .int (I (gi h 171 17))), (0, .ref 171)] rfl ?_
    refine x_iconst 37 hK rfl rfl ?_
    refine x_istore 39 hK rfl rfl [(4, .int (I (-1))), (3, .int (I 1)), (2, .int (I e282)), (1, .int (I (gi h 171 17))), (0, .ref 171)] rfl ?_
    exact loop1 _ e282 (-1) p282 _ _ rfl (by omega) ((by rw [← hRR]; unfold shF; rw [nm282])) (by omega) ((by rw [show gi h282 171 22 = 0 from (FRM_gi hF282 (r := 54) rfl rfl).trans (gi_same (by omega))]; omega)) (eq282) (by omega) ((FRM_gi hF282 (r := 54) rfl rfl).trans ((gi_k (by decide) _).trans (b19))) ((FRM_gi hF282 (r := 54) rfl rfl).trans ((gi_k (by decide) _).trans ((FRM_gi hF1 (r := 54) rfl rfl).trans (gi_same (by omega))))) ((FRM_gi hF282 (r := 54) rfl rfl).trans ((gi_k (by decide) _).trans (b17))) ((by rw [show gi h282 171 22 = 0 from (FRM_gi hF282 (r := 54) rfl rfl).trans (gi_same (by omega)), ← hRR]; unfold shF; rw [nm282, if_pos (show 0 < e282 by omega)]; rfl)) ((by rw [show gi h282 171 22 = 0 from (FRM_gi hF282 (r := 54) rfl rfl).trans (gi_same (by omega)), ← hRR]; unfold shF; rw [nm282, if_pos (show 0 < e282 by omega)]; rfl)) rfl rfl rfl rfl rfl (hG282) ((FRM_w ((FRM_w ((FRM.rf : FRM gRL [(0, 54, 0, 0), (0, 54, 17, 20), (0, 54, 22, 22), (0, 64, 0, 31)] h h)) (r := 54) rfl rfl).trans ((hF1).mono rfl)) (r := 54) rfl rfl).trans ((hF282).mono rfl))
end
section
/-! ship() OF THE CLASS -/
theorem GD_R {sh : List (Nat × Nat)} {h : aH} {a r k b rb : Nat} (hG : GD gE gRL sh h) (hr : gRL[a]? = some r) (hq : ((eR gE r).all fun q => !(Nat.ble q.1 k && Nat.ble k q.2.1) || Nat.beq q.2.2 rb) = true) (hb : gRL[b]? = some rb) : GD gE gRL sh (sR h a k (some b)) := by
  obtain ⟨g1, g2, g3, g4⟩ := hG
  refine ⟨g1, g2, g3, fun a' r' ha' q hq' k' h1 h2 => ?_⟩
  by_cases c : a' = a ∧ k' = k
  · obtain ⟨rfl, rfl⟩ := c
    rw [hr] at ha'
    cases ha'
    have z := List.all_eq_true.mp hq q hq'
    refine ⟨b, by simp [aR, sR, up_s, va_up], ?_⟩
    rw [hb]
    rw [Bool.or_eq_true, Nat.beq_eq] at z
    rcases z with z | z
    · exfalso
      rw [Nat.ble_eq_true_of_le h1, Nat.ble_eq_true_of_le h2] at z
      cases z
    · rw [z]
  · obtain ⟨x, x1, x2⟩ := g4 a' r' ha' q hq' k' h1 h2
    refine ⟨x, ?_, x2⟩
    rw [← x1]
    by_cases d : a' = a
    · subst d
      have : k' ≠ k := fun z => c ⟨rfl, z⟩
      simp [aR, sR, up_s, va_up, this]
    · simp [aR, sR, up_n d]
theorem aR_s {h : aH} {a k : Nat} {v : Option Nat} : aR (sR h a k v) a k = v := by simp [aR, sR, up_s, va_up]
theorem aR_n {h : aH} {a k b j : Nat} {v : Option Nat} (hn : b ≠ a ∨ j ≠ k) : aR (sR h a k v) b j = aR h b j := by
  by_cases d : b = a
  · subst d
    have : j ≠ k := hn.resolve_left (fun z => z rfl)
    simp [aR, sR, up_s, va_up, this]
  · simp [aR, sR, up_n d]
theorem FRM_R {M : MD} {h0 h : aH} {a r k : Nat} {v : Option Nat} (hF : FRM gRL M h0 h) (hr : gRL[a]? = some r) (hm : mHas M 2 r k = true) : FRM gRL M h0 (sR h a k v) := by
  refine ⟨hF.1, hF.2.1, fun a' k' hn => ?_⟩
  rw [← hF.2.2 a' k' hn]
  refine aR_n ?_
  by_cases d : a' = a
  · subst d
    refine Or.inr (fun z => ?_)
    subst z
    rw [hn r hr] at hm
    cases hm
  · exact Or.inl d
/-- the ship that stands, and the other one -/
noncomputable def SW (h : aH) (s t : Nat) : Prop := ((s = 5 ∧ t = 8) ∨ (s = 8 ∧ t = 5)) ∧ aR h 0 2 = some s ∧ aR h 0 3 = some t
set_option maxRecDepth 4000 in
theorem ctX10_ship {SP : CT} (hSP : MONO SP) {sh : List (Nat × Nat)} {h : aH} (hG : GD gE gRL sh h) {s t : Nat} (hP : PT h) (hw : SW h s t) : CLd SP 6 mX10_ship [.ref 0] h 0 0 (fun rv h' => rv = some (.int (I (if (fltF (gi h 1 1) 43 (shF (txF (gi h 2) (min (gi h 1 1) 43))).2.1) = 0 then (((shF (txF (gi h 2) (min (gi h 1 1) 43))).2.2).length : Nat) else (fltF (gi h 1 1) 43 (shF (txF (gi h 2) (min (gi h 1 1) 43))).2.1)))) ∧ GD gE gRL sh h' ∧ FRM gRL [(0, 1, 1, 5), (0, 5, 0, 2), (0, 6, 0, 9), (0, 7, 0, 9), (2, 0, 2, 3)] h h' ∧ gi h' 1 1 = 0 ∧ ((fltF (gi h 1 1) 43 (shF (txF (gi h 2) (min (gi h 1 1) 43))).2.1) ≠ 0 → aR h' 0 2 = some s ∧ aR h' 0 3 = some t ∧ ∀ a k : Nat, s ≤ a → a ≤ s + 2 → gi h' a k = gi h a k) ∧ ((fltF (gi h 1 1) 43 (shF (txF (gi h 2) (min (gi h 1 1) 43))).2.1) = 0 → aR h' 0 2 = some t ∧ aR h' 0 3 = some s ∧ gi h' t 0 = (shF (txF (gi h 2) (min (gi h 1 1) 43))).1 ∧ gi h' t 1 = (((shF (txF (gi h 2) (min (gi h 1 1) 43))).2.2).length : Nat) ∧ gi h' t 2 = lsum (shF (txF (gi h 2) (min (gi h 1 1) 43))).2.2 ∧ pstL h' t ((shF (txF (gi h 2) (min (gi h 1 1) 43))).2.2).length = (shF (txF (gi h 2) (min (gi h 1 1) 43))).2.2)) := by
  refine x_met _ rfl (Nat.le_of_ble_eq_true rfl) (fun K hK => ?_)
  have hmono := MONO_CLd hSP 5
  have h5s : s = 5 ∨ s = 8 := by have := hw.1; omega
  have h5t : t = 5 ∨ t = 8 := by have := hw.1; omega
  have hst := hw.1
  have gs := gri 0 80 hG (a := 1) (r := 1) (k := 1) rfl rfl
  obtain ⟨T, hT⟩ : ∃ T, (txF (gi h 2) (min (gi h 1 1) 43)) = T := ⟨_, rfl⟩
  obtain ⟨RR, hRR⟩ : ∃ RR, shF T = RR := ⟨_, rfl⟩
  have fe0 : ∀ a, min (gi h 1 1) 43 ≤ a → T a = -1 := fun a ha => by rw [← hT]; exact if_neg (by omega)
  have rb := shF_b fe0 (by omega)
  rw [hRR] at rb
  rw [hT, hRR] at hK
  have cf := cfl_flt (n := gi h 1 1) (most := 43) (r := RR.2.1) (by omega) (by omega) rb.1.1 rb.1.2
  have fl := fltF_lt (n := gi h 1 1) (most := 43) (r := RR.2.1) (by omega) (by omega) rb.1.1 rb.1.2
  have cb : -1 ≤ cfl (gi h 1 1) 43 RR.2.1 ∧ cfl (gi h 1 1) 43 RR.2.1 ≤ 43 := by unfold cfl; have := rb.1; (repeat' split) <;> omega
  refine x_aload_n 1 hK rfl rfl rfl ?_
  refine x_getR 4 hK rfl rfl (sp_0 (h := h) hG) (rf_0_0 (h := h) hG) ?_
  refine x_bipush 6 hK rfl rfl rfl ?_
  have g284 := gri (0) (80) hG (a := 1) (r := 1) (k := 1) rfl rfl
  have z286 : gi h 1 1 = (gi h 1 1) := rfl
  refine x_callV 9 hK hmono rfl rfl [.ref 1, .int (I 43)] [] rfl rfl (Nat.le_of_ble_eq_true rfl) (Nat.le_of_ble_eq_true rfl) rfl (sp_1 (h := h) hG) (CLd_le (Nat.le_of_ble_eq_true rfl) (ctX9_open hSP hG (by omega))) ?_
  rintro v285 h285 ⟨rfl, hG285, hF285, o285, p285, q285, r285⟩
  rw [z286] at p285 q285
  refine x_aload_n 10 hK rfl rfl rfl ?_
  refine x_getR 13 hK rfl rfl (sp_0 (h := h285) hG285) ((FRM_aR hF285 (r := 0) rfl rfl).trans (hw.2.2)) ?_
  refine x_aload_n 14 hK rfl rfl rfl ?_
  refine x_getR 17 hK rfl rfl (sp_0 (h := h285) hG285) (rf_0_0 (h := h285) hG285) ?_
  have z2 : gi h285 1 2 = 0 := o285
  have z3 : gi h285 1 3 = min (gi h 1 1) 43 := p285
  have z4 : gi h285 1 4 = (if 43 < gi h 1 1 then (1 : Int) else 0) := q285
  have zt : fx h285 = T := by rw [fx_tx, z3, ← hT, show gi h285 2 = gi h 2 from funext fun k => FRM_gi hF285 (r := 2) rfl rfl]
  refine x_callV 20 hK hmono rfl rfl [.ref t, .ref 1] [] rfl rfl (Nat.le_of_ble_eq_true rfl) (Nat.le_of_ble_eq_true rfl) rfl (shx (h := h285) hG285 (r := 5) (ss_r h5t).1 rfl) (CLd_le (Nat.le_of_ble_eq_true rfl) (ctX6_readFrom hSP hG285 (s := t) (n := gi h 1 1) (PT_F hF285 (by decide) hP) h5t z2 z3 z4 (by omega))) ?_
  rw [zt, hRR]
  rintro v287 h287 ⟨rfl, hG287, hF287, y1, oa287⟩
  refine x_istore_n 21 hK rfl rfl [(1, .int (I (cfl (gi h 1 1) 43 RR.2.1))), (0, .ref 0)] rfl ?_
  refine x_aload_n 22 hK rfl rfl rfl ?_
  refine x_getR 25 hK rfl rfl (sp_0 (h := h287) hG287) (rf_0_0 (h := h287) hG287) ?_
  refine x_iconst 26 hK rfl rfl ?_
  refine x_putI 29 hK rfl rfl (sp_1 (h := h287) hG287) ?_
  refine x_iload_n 30 hK rfl rfl rfl ?_
  refine x_iconst 31 hK rfl rfl ?_
  refine x_if_icmp_eq 38 34 hK rfl rfl rfl (by omega) (by omega) (fun c17 => ?_) (fun c17 => ?_)
  · refine x_aload_n 39 hK rfl rfl rfl ?_
    refine x_getR 42 hK rfl rfl (sp_0 (h := h287) hG287) ((FRM_aR hF287 (r := 0) rfl rfl).trans ((FRM_aR hF285 (r := 0) rfl rfl).trans (hw.2.1))) ?_
    refine x_astore_n 43 hK rfl rfl [(2, .ref s), (1, .int (I (cfl (gi h 1 1) 43 RR.2.1))), (0, .ref 0)] rfl ?_
    refine x_aload_n 44 hK rfl rfl rfl ?_
    refine x_aload_n 45 hK rfl rfl rfl ?_
    refine x_getR 48 hK rfl rfl (sp_0 (h := h287) hG287) ((FRM_aR hF287 (r := 0) rfl rfl).trans ((FRM_aR hF285 (r := 0) rfl rfl).trans (hw.2.2))) ?_
    refine x_putR 51 hK rfl rfl (sp_0 (h := h287) hG287) (List.getElem?_eq_some_iff.mp (shx (h := h287) hG287 (r := 5) (ss_r h5t).1 rfl)).1 ?_
    obtain ⟨h91, e91⟩ : ∃ z, z = sR (wI h287 1 1 0) 0 2 (some t) := ⟨_, rfl⟩
    rw [← e91]
    have hG91 : GD gE gRL sh h91 := by rw [e91]; exact GD_R (GD_w1 (hG287) (r := 1) rfl (by omega) rfl (by omega) (by omega)) (r := 0) rfl (rb := 5) (by decide +kernel) (ss_r h5t).1
    have hF91 : FRM gRL [(2, 0, 2, 2)] (wI h287 1 1 0) h91 := by rw [e91]; exact FRM_R FRM.rf (r := 0) rfl rfl
    have r291 : aR h91 0 2 = some t := by rw [e91]; exact aR_s
    have r391 : aR h91 0 3 = some t := by rw [e91]; exact (aR_n (Or.inr (by decide))).trans ((FRM_aR hF287 (r := 0) rfl rfl).trans ((FRM_aR hF285 (r := 0) rfl rfl).trans (hw.2.2)))
    refine x_aload_n 52 hK rfl rfl rfl ?_
    refine x_aload_n 53 hK rfl rfl rfl ?_
    refine x_putR 56 hK rfl rfl (sp_0 (h := h91) hG91) (List.getElem?_eq_some_iff.mp (shx (h := h91) hG91 (r := 5) (ss_r h5s).1 rfl)).1 ?_
    obtain ⟨h92, e92⟩ : ∃ z, z = sR h91 0 3 (some s) := ⟨_, rfl⟩
    rw [← e92]
    have hG92 : GD gE gRL sh h92 := by rw [e92]; exact GD_R (hG91) (r := 0) rfl (rb := 5) (by decide +kernel) (ss_r h5s).1
    have hF92 : FRM gRL [(2, 0, 3, 3)] h91 h92 := by rw [e92]; exact FRM_R FRM.rf (r := 0) rfl rfl
    have r392 : aR h92 0 3 = some s := by rw [e92]; exact aR_s
    have r292 : aR h92 0 2 = some t := by rw [e92]; exact (aR_n (Or.inr (by decide))).trans (r291)
    refine x_aload_n 57 hK rfl rfl rfl ?_
    refine x_getR 60 hK rfl rfl (sp_0 (h := h92) hG92) (r292) ?_
    have g288 := gri (0) (10) hG287 (a := t) (r := 5) (k := 1) (ss_r h5t).1 rfl
    refine x_getE 63 hK rfl (Or.inl rfl) rfl (shx (h := h92) hG92 (r := 5) (ss_r h5t).1 rfl) (e := (gi h287 t 1)) ((FRM_gi hF92 (r := 5) (ss_r h5t).1 rfl).trans ((FRM_gi hF91 (r := 5) (ss_r h5t).1 rfl).trans (gi_a (by omega) _))) ?_
    have f9 : fltF (gi h 1 1) 43 RR.2.1 = 0 := cf.1.mp (by omega)
    obtain ⟨y2, y3, y4, y5⟩ := y1 (by omega)
    exact x_iret hK rfl ⟨by rw [if_pos f9, y3], hG92, ((FRM_w (((hF285).mono rfl).trans ((hF287).mono rfl)) (r := 1) rfl rfl).trans ((hF91).mono rfl)).trans ((hF92).mono rfl), (FRM_gi hF92 (r := 1) rfl rfl).trans ((FRM_gi hF91 (r := 1) rfl rfl).trans (gi_same (by omega))), fun z => absurd f9 z, fun _ => ⟨(r292), (r392), ((FRM_gi hF92 (r := 5) (ss_r h5t).1 rfl).trans ((FRM_gi hF91 (r := 5) (ss_r h5t).1 rfl).trans (gi_a (by omega) _))).trans y2, ((FRM_gi hF92 (r := 5) (ss_r h5t).1 rfl).trans ((FRM_gi hF91 (r := 5) (ss_r h5t).1 rfl).trans (gi_a (by omega) _))).trans y3, ((FRM_gi hF92 (r := 5) (ss_r h5t).1 rfl).trans ((FRM_gi hF91 (r := 5) (ss_r h5t).1 rfl).trans (gi_a (by omega) _))).trans y4, (pstL_eq fun j hj => ⟨(FRM_gi hF92 (r := 6) (ss_r h5t).2.1 rfl).trans ((FRM_gi hF91 (r := 6) (ss_r h5t).2.1 rfl).trans (gi_a (by omega) _)), (FRM_gi hF92 (r := 7) (ss_r h5t).2.2 rfl).trans ((FRM_gi hF91 (r := 7) (ss_r h5t).2.2 rfl).trans (gi_a (by omega) _))⟩).trans y5⟩⟩
  · refine x_iconst 35 hK rfl rfl ?_
    refine x_iload_n 36 hK rfl rfl rfl ?_
    refine x_isub 37 hK rfl rfl ?_
    have f9 : fltF (gi h 1 1) 43 RR.2.1 ≠ 0 := by omega
    exact x_iret hK rfl ⟨by rw [if_neg f9, ← cf.2 (by omega)], GD_w1 (hG287) (r := 1) rfl (by omega) rfl (by omega) (by omega), FRM_w (((hF285).mono rfl).trans ((hF287).mono rfl)) (r := 1) rfl rfl, gi_same (by omega), fun _ => ⟨((FRM_aR hF287 (r := 0) rfl rfl).trans ((FRM_aR hF285 (r := 0) rfl rfl).trans (hw.2.1))), ((FRM_aR hF287 (r := 0) rfl rfl).trans ((FRM_aR hF285 (r := 0) rfl rfl).trans (hw.2.2))), fun a k n1 n2 => (gi_a (by omega) _).trans ((oa287 a k (by omega) (by omega) (by omega) (by omega)).trans (one1 hF285 rfl (by omega) k))⟩, fun z => absurd z f9⟩
end
