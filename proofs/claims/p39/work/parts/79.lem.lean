section
/-! SMALL LEMMAS; where the class's cells are -/
theorem gi_c {c : cH} {h : aH} (hr : REL c h) (a k : Nat) : gi h a k = (rI c.2.2.1 a k).toInt := congrArg Int32.toInt (hr.2.2.1 a k)
theorem mfn {M : MD} {k : Nat} {w r : Nat} (h : (!(mHas M w r k)) = true) : mHas M w r k = false := by simpa using h
theorem ov_at {h : aH} {o : OV} {a r k : Nat} (x : Int) (h5 : r < 500) (hr : gRL[a]? = some r) (g : gov gRL (fun _ => none) o h) (hx : ovG o r k (i0, i1) = (x, x)) : gi h a k = x := by
  have z := ovG_ok (rl := gRL) (sg := fun _ => none) (o := o) (h := h) (r := r) (a := a) (k := k) (d := (i0, i1)) (by unfold isr; rw [if_pos h5]; exact hr) ⟨i32_lo _, i32_hi _⟩ g
  rw [hx] at z
  exact Int.le_antisymm z.2 z.1
/-- the pointers of the class that never change -/
noncomputable def PT (h : aH) : Prop := (∀ k, k < 25 → aR h 135 k = some (136 + k)) ∧ (∀ k, k < 15 → aR h 34 k = some (37 + 5 * k) ∧ ∀ j, j < 4 → aR h (37 + 5 * k) (5 + j) = some (38 + 5 * k + j)) ∧ (∀ k, k < 3 → aR h 35 k = some (112 + 5 * k) ∧ ∀ j, j < 4 → aR h (112 + 5 * k) (5 + j) = some (113 + 5 * k + j)) ∧ (∀ k, k < 8 → aR h 162 k = some (163 + k)) ∧
  (aR h 5 3 = some 6 ∧ aR h 5 4 = some 7) ∧ (aR h 8 3 = some 9 ∧ aR h 8 4 = some 10) ∧ (aR h 11 0 = some 12 ∧ aR h 11 2 = some 13) ∧ aR h 14 0 = some 15 ∧ aR h 14 2 = some 16
noncomputable def PTOk (M : MD) : Bool := M.all fun q => !(Nat.beq q.1 2) || Nat.beq q.2.1 0
theorem PTOk_n {M : MD} (h : PTOk M = true) {r : Nat} (hr : r ≠ 0) (k : Nat) : mHas M 2 r k = false := by
  cases hc : mHas M 2 r k with
  | false => rfl
  | true =>
    obtain ⟨q, hq, h2⟩ := List.any_eq_true.mp hc
    have z := List.all_eq_true.mp h q hq
    simp only [Bool.and_eq_true, Nat.beq_eq] at h2
    obtain ⟨⟨⟨a1, a2⟩, a3⟩, a4⟩ := h2
    rw [a1, a2] at z
    simp at z
    exact absurd z hr
theorem pt_r1 : ∀ k, k < 25 → gRL[136 + k]? = some 50 := by decide
theorem pt_r2 : ∀ k, k < 15 → gRL[37 + 5 * k]? = some 31 ∧ gRL[38 + 5 * k]? = some 32 ∧ gRL[39 + 5 * k]? = some 33 ∧ gRL[40 + 5 * k]? = some 34 ∧ gRL[41 + 5 * k]? = some 35 := by decide
theorem pt_r3 : ∀ k, k < 3 → gRL[112 + 5 * k]? = some 36 ∧ gRL[113 + 5 * k]? = some 37 ∧ gRL[114 + 5 * k]? = some 38 ∧ gRL[115 + 5 * k]? = some 39 ∧ gRL[116 + 5 * k]? = some 40 := by decide
theorem PT_F {M : MD} {h h' : aH} (hF : FRM gRL M h h') (hm : PTOk M = true) (hc : PT h) : PT h' := by
  have e : ∀ {a r : Nat} (k : Nat), gRL[a]? = some r → r ≠ 0 → aR h' a k = aR h a k := fun k hr h0 => FRM_aR hF hr (PTOk_n hm h0 k)
  obtain ⟨c1, c2, c3, c4, ⟨c5, c6⟩, ⟨c7, c8⟩, ⟨c9, d1⟩, d2, d3⟩ := hc
  refine ⟨fun k hk => ?_, fun k hk => ⟨?_, fun j hj => ?_⟩, fun k hk => ⟨?_, fun j hj => ?_⟩, fun k hk => ?_, ⟨?_, ?_⟩, ⟨?_, ?_⟩, ⟨?_, ?_⟩, ?_, ?_⟩
  · rw [e (r := 49) k rfl (by decide)]; exact c1 k hk
  · rw [e (r := 28) k rfl (by decide)]; exact (c2 k hk).1
  · rw [e _ (pt_r2 k hk).1 (by decide)]; exact (c2 k hk).2 j hj
  · rw [e (r := 29) k rfl (by decide)]; exact (c3 k hk).1
  · rw [e _ (pt_r3 k hk).1 (by decide)]; exact (c3 k hk).2 j hj
  · rw [e (r := 52) k rfl (by decide)]; exact c4 k hk
  · rw [e (r := 5) 3 rfl (by decide)]; exact c5
  · rw [e (r := 5) 4 rfl (by decide)]; exact c6
  · rw [e (r := 5) 3 rfl (by decide)]; exact c7
  · rw [e (r := 5) 4 rfl (by decide)]; exact c8
  · rw [e (r := 8) 0 rfl (by decide)]; exact c9
  · rw [e (r := 8) 2 rfl (by decide)]; exact d1
  · rw [e (r := 8) 0 rfl (by decide)]; exact d2
  · rw [e (r := 8) 2 rfl (by decide)]; exact d3
theorem PT_J {h : aH} {v : Int64} (hc : PT h) : PT (sJ h 201 0 v) := hc
noncomputable def PTB (c : cH) : Bool := ((List.range 25).all fun k => decide (rR c.2.2.2 135 k = some (136 + k))) && (((List.range 15).all fun k => decide (rR c.2.2.2 34 k = some (37 + 5 * k)) && (List.range 4).all fun j => decide (rR c.2.2.2 (37 + 5 * k) (5 + j) = some (38 + 5 * k + j))) && (((List.range 3).all fun k => decide (rR c.2.2.2 35 k = some (112 + 5 * k)) && (List.range 4).all fun j => decide (rR c.2.2.2 (112 + 5 * k) (5 + j) = some (113 + 5 * k + j))) && (((List.range 8).all fun k => decide (rR c.2.2.2 162 k = some (163 + k))) && (decide (rR c.2.2.2 5 3 = some 6 ∧ rR c.2.2.2 5 4 = some 7 ∧ rR c.2.2.2 8 3 = some 9 ∧ rR c.2.2.2 8 4 = some 10 ∧ rR c.2.2.2 11 0 = some 12 ∧ rR c.2.2.2 11 2 = some 13 ∧ rR c.2.2.2 14 0 = some 15 ∧ rR c.2.2.2 14 2 = some 16)))))
theorem PT_0 {c : cH} {h : aH} (hr : REL c h) (hb : PTB c = true) : PT h := by
  have e : ∀ a k, aR h a k = rR c.2.2.2 a k := fun a k => hr.2.2.2.2.1 a k
  simp only [PTB, Bool.and_eq_true] at hb
  obtain ⟨b1, b2, b3, b4, b5⟩ := hb
  obtain ⟨c5, c6, c7, c8, c9, d1, d2, d3⟩ := of_decide_eq_true b5
  have r2 := fun k (hk : k < 15) => List.all_eq_true.mp b2 k (List.mem_range.mpr hk)
  have r3 := fun k (hk : k < 3) => List.all_eq_true.mp b3 k (List.mem_range.mpr hk)
  simp only [Bool.and_eq_true] at r2 r3
  refine ⟨fun k hk => (e _ _).trans (of_decide_eq_true (all_r b1 hk)), fun k hk => ⟨(e _ _).trans (of_decide_eq_true (r2 k hk).1), fun j hj => (e _ _).trans (of_decide_eq_true (all_r (r2 k hk).2 hj))⟩, fun k hk => ⟨(e _ _).trans (of_decide_eq_true (r3 k hk).1), fun j hj => (e _ _).trans (of_decide_eq_true (all_r (r3 k hk).2 hj))⟩, fun k hk => (e _ _).trans (of_decide_eq_true (all_r b4 hk)), ⟨(e _ _).trans c5, (e _ _).trans c6⟩, ⟨(e _ _).trans c7, (e _ _).trans c8⟩, ⟨(e _ _).trans c9, (e _ _).trans d1⟩, (e _ _).trans d2, (e _ _).trans d3⟩
end
section
/-! THE CLASS: its ROW as a list; mutinies -/
set_option maxRecDepth 4000 in
theorem ctX3_clear {SP : CT} (hSP : MONO SP) {sh : List (Nat × Nat)} {h : aH} (hG : GD gE gRL sh h) : CLd SP 1 mX3_clear [.ref 3] h 0 0 (fun rv h' => rv = none ∧ GD gE gRL sh h' ∧ FRM gRL [(0, 3, 1, 1)] h h' ∧ gi h' 3 1 = 0 ∧ crow h' = []) := by
  refine x_met _ rfl (Nat.le_of_ble_eq_true rfl) (fun K hK => ?_)
  have hmono := MONO_CLd hSP 0
  refine x_aload_n 1 hK rfl rfl rfl ?_
  refine x_iconst 2 hK rfl rfl ?_
  refine x_putI 5 hK rfl rfl (sp_3 (h := h) hG) ?_
  exact x_vret hK rfl ⟨rfl, GD_w1 (hG) (r := 3) rfl (by omega) rfl (by omega) (by omega), FRM_w ((FRM.rf : FRM gRL [(0, 3, 1, 1)] h h)) (r := 3) rfl rfl, gi_same (by omega), crow_0 (gi_same (by omega))⟩
set_option maxRecDepth 4000 in
theorem ctX3_add {SP : CT} (hSP : MONO SP) {sh : List (Nat × Nat)} {h : aH} (hG : GD gE gRL sh h) {v : Int} (hr : 0 ≤ gi h 3 1 ∧ gi h 3 1 ≤ 29) (hv : r64 v) : CLd SP 1 mX3_add [.ref 3, .long (J v)] h 0 0 (fun rv h' => rv = none ∧ GD gE gRL sh h' ∧ FRM gRL [(0, 3, 1, 1), (1, 4, 0, 29)] h h' ∧ gi h' 3 1 = gi h 3 1 + 1 ∧ crow h' = crow h ++ [v]) := by
  refine x_met _ rfl (Nat.le_of_ble_eq_true rfl) (fun K hK => ?_)
  have hmono := MONO_CLd hSP 0
  refine x_aload_n 1 hK rfl rfl rfl ?_
  have g49 := gri (0) (30) hG (a := 3) (r := 3) (k := 1) rfl rfl
  refine x_getE 4 hK rfl (Or.inl rfl) rfl (sp_3 (h := h) hG) (e := (gi h 3 1)) (rfl) ?_
  refine x_bipush 6 hK rfl rfl rfl ?_
  refine x_if_icmp_ge 29 9 hK rfl rfl rfl (by omega) (by omega) (fun c4 => ?_) (fun c4 => ?_)
  · exact absurd hr.2 (by omega)
  · refine x_aload_n 10 hK rfl rfl rfl ?_
    refine x_getR 13 hK rfl rfl (sp_3 (h := h) hG) (rf_3_0 (h := h) hG) ?_
    refine x_aload_n 14 hK rfl rfl rfl ?_
    refine x_getE 17 hK rfl (Or.inl rfl) rfl (sp_3 (h := h) hG) (e := (gi h 3 1)) (rfl) ?_
    refine x_lload_n 18 hK rfl rfl rfl ?_
    refine x_lastore 19 hK rfl rfl (sp_4 (h := h) hG) (by omega) (by omega) (by omega) ?_
    refine x_aload_n 20 hK rfl rfl rfl ?_
    refine x_dup 21 hK rfl rfl rfl ?_
    refine x_getE 24 hK rfl (Or.inl rfl) rfl (sp_3 (h := h) hG) (e := (gi h 3 1)) (rfl) ?_
    refine x_iconst 25 hK rfl rfl ?_
    refine x_iadd 26 hK rfl rfl ?_
    refine x_putI 29 hK rfl rfl (sp_3 (h := h) hG) ?_
    have e1 : gi (wI (sJ h 4 (gi h 3 1).toNat (J v)) 3 1 ((gi h 3 1) + 1)) 3 1 = gi h 3 1 + 1 := gi_same (by omega)
    exact x_vret hK rfl ⟨rfl, GD_w1 (GD_J (hG)) (r := 3) rfl (by omega) rfl (by omega) (by omega), FRM_w (FRM_Jn 0 29 ((FRM.rf : FRM gRL [(0, 3, 1, 1), (1, 4, 0, 29)] h h)) (r := 4) rfl rfl rfl (by omega) (by omega)) (r := 3) rfl rfl, e1, crow_snoc hr.1 e1 ((gj_same hv)) fun j hj => gj_k hj _⟩
set_option maxRecDepth 4000 in
theorem ctX3_tellOne {SP : CT} (hSP : MONO SP) {sh : List (Nat × Nat)} {h : aH} (hG : GD gE gRL sh h) {v : Int} (hv : r64 v) : CLd SP 2 mX3_tellOne [.ref 3, .long (J v)] h 0 0 (fun rv h' => rv = none ∧ GD gE gRL sh h' ∧ FRM gRL [(0, 3, 1, 1), (1, 4, 0, 29)] h h' ∧ gi h' 3 1 = 1 ∧ crow h' = [v]) := by
  refine x_met _ rfl (Nat.le_of_ble_eq_true rfl) (fun K hK => ?_)
  have hmono := MONO_CLd hSP 1
  refine x_aload_n 1 hK rfl rfl rfl ?_
  refine x_callV 4 hK hmono rfl rfl [.ref 3] [] rfl rfl (Nat.le_of_ble_eq_true rfl) (Nat.le_of_ble_eq_true rfl) rfl (sp_3 (h := h) hG) (CLd_le (Nat.le_of_ble_eq_true rfl) (ctX3_clear hSP hG)) ?_
  rintro v50 h50 ⟨rfl, hG50, hF50, t50, s50⟩
  refine x_aload_n 5 hK rfl rfl rfl ?_
  refine x_lload_n 6 hK rfl rfl rfl ?_
  have z52 : gi h50 3 1 = 0 := t50
  have z52r : crow h50 = [] := s50
  refine x_callV 9 hK hmono rfl rfl [.ref 3, .long (J v)] [] rfl rfl (Nat.le_of_ble_eq_true rfl) (Nat.le_of_ble_eq_true rfl) rfl (sp_3 (h := h50) hG50) (CLd_le (Nat.le_of_ble_eq_true rfl) (ctX3_add hSP hG50 (by omega) (by omega))) ?_
  rintro v51 h51 ⟨rfl, hG51, hF51, t51, s51⟩
  rw [z52] at t51
  rw [z52r] at s51
  replace t51 : gi h51 3 1 = 1 := t51
  change crow h51 = [v] at s51
  exact x_vret hK rfl ⟨rfl, hG51, ((hF50).mono rfl).trans ((hF51).mono rfl), t51, s51⟩
end
section
/-! WHAT WAS SEEN -/
theorem snF_ext {st la st' la' : Nat → Int} {k : Int} : ∀ {n : Nat}, (∀ i, i < n → st' i = st i ∧ la' i = la i) → snF st' la' k n = snF st la k n
  | 0, _ => rfl
  | n + 1, h => by
    show (if st' n = k then la' n else snF st' la' k n) = if st n = k then la n else snF st la k n
    rw [(h n (by omega)).1, (h n (by omega)).2, snF_ext fun i hi => h i (by omega)]
/-- what seen() answers, by what was seen in that step (or -1), and how much was seen -/
noncomputable def seA (a c k l : Int) : Int := if (0 ≤ k ∧ k ≤ 24) ∧ 0 ≤ l ∧ l ≤ 8 then (if a = -1 then (if c < 12 then c + 1 else -1) else if a = l then c else -2) else -1
/-- one more is seen -/
noncomputable def seB (a c k l : Int) : Prop := ((0 ≤ k ∧ k ≤ 24) ∧ 0 ≤ l ∧ l ≤ 8) ∧ a = -1 ∧ c < 12
set_option maxRecDepth 4000 in
theorem ctX10_seen {SP : CT} (hSP : MONO SP) {sh : List (Nat × Nat)} {h : aH} (hG : GD gE gRL sh h) {k l : Int} (rk : r32 k) (rl : r32 l) : CLd SP 2 mX10_seen [.ref 0, .int (I k), .int (I l)] h 0 0 (fun rv h' => rv = some (.int (I (seA (gi h 134 k.toNat) (gi h 133 0) k l))) ∧ GD gE gRL sh h' ∧ FRM gRL [(0, 47, 0, 0), (0, 48, 0, 24)] h h' ∧ (seB (gi h 134 k.toNat) (gi h 133 0) k l → gi h' 133 0 = (gi h 133 0) + 1 ∧ gi h' 134 k.toNat = l ∧ ∀ j, j ≠ k.toNat → gi h' 134 j = gi h 134 j) ∧ (¬ seB (gi h 134 k.toNat) (gi h 133 0) k l → h' = h)) := by
  refine x_met _ rfl (Nat.le_of_ble_eq_true rfl) (fun K hK => ?_)
  have hmono := MONO_CLd hSP 1
  have gc := gri 0 12 hG (a := 133) (r := 47) (k := 0) rfl rfl
  refine x_iload_n 1 hK rfl rfl rfl ?_
  refine x_if_lt 20 4 hK rfl rfl rfl (by omega) (fun c2 => ?_) (fun c2 => ?_)
  · refine x_iconst 21 hK rfl rfl ?_
    have e9 : seA (gi h 134 k.toNat) (gi h 133 0) k l = -1 := by
      unfold seA
      first | rw [if_neg (by omega)] | rw [if_pos (by omega), if_pos (by omega), if_neg (by omega)]
    exact x_iret hK rfl ⟨by rw [e9], hG, (FRM.rf : FRM gRL [(0, 47, 0, 0), (0, 48, 0, 24)] h h), fun z => absurd z (fun z => by unfold seB at z; omega), fun _ => rfl⟩
  · refine x_iload_n 5 hK rfl rfl rfl ?_
    refine x_bipush 7 hK rfl rfl rfl ?_
    refine x_if_icmp_gt 20 10 hK rfl rfl rfl (by omega) (by omega) (fun c7 => ?_) (fun c7 => ?_)
    · refine x_iconst 21 hK rfl rfl ?_
      have e9 : seA (gi h 134 k.toNat) (gi h 133 0) k l = -1 := by
        unfold seA
        first | rw [if_neg (by omega)] | rw [if_pos (by omega), if_pos (by omega), if_neg (by omega)]
      exact x_iret hK rfl ⟨by rw [e9], hG, (FRM.rf : FRM gRL [(0, 47, 0, 0), (0, 48, 0, 24)] h h), fun z => absurd z (fun z => by unfold seB at z; omega), fun _ => rfl⟩
    · refine x_iload_n 11 hK rfl rfl rfl ?_
      refine x_if_lt 20 14 hK rfl rfl rfl (by omega) (fun c11 => ?_) (fun c11 => ?_)
      · refine x_iconst 21 hK rfl rfl ?_
        have e9 : seA (gi h 134 k.toNat) (gi h 133 0) k l = -1 := by
          unfold seA
          first | rw [if_neg (by omega)] | rw [if_pos (by omega), if_pos (by omega), if_neg (by omega)]
        exact x_iret hK rfl ⟨by rw [e9], hG, (FRM.rf : FRM gRL [(0, 47, 0, 0), (0, 48, 0, 24)] h h), fun z => absurd z (fun z => by unfold seB at z; omega), fun _ => rfl⟩
      · refine x_iload_n 15 hK rfl rfl rfl ?_
        refine x_bipush 17 hK rfl rfl rfl ?_
        refine x_if_icmp_le 22 20 hK rfl rfl rfl (by omega) (by omega) (fun c16 => ?_) (fun c16 => ?_)
        · refine x_aload_n 23 hK rfl rfl rfl ?_
          refine x_getR 26 hK rfl rfl (sp_0 (h := h) hG) (rf_0_14 (h := h) hG) ?_
          refine x_getR 29 hK rfl rfl (sp_133 (h := h) hG) (rf_133_1 (h := h) hG) ?_
          refine x_iload_n 30 hK rfl rfl rfl ?_
          have g110 := grn (-1) (8) hG (a := 134) (r := 48) (k := k.toNat) rfl rfl (by omega)
          refine x_ialoadE 31 hK rfl rfl (sp_134 (h := h) hG) (by omega) (by omega) (by omega) (e' := (gi h 134 k.toNat)) (rfl) ?_
          refine x_iconst 32 hK rfl rfl ?_
          refine x_if_icmp_eq 61 35 hK rfl rfl rfl (by omega) (by omega) (fun c23 => ?_) (fun c23 => ?_)
          · refine x_aload_n 62 hK rfl rfl rfl ?_
            refine x_getR 65 hK rfl rfl (sp_0 (h := h) hG) (rf_0_14 (h := h) hG) ?_
            have g111 := gri (0) (12) hG (a := 133) (r := 47) (k := 0) rfl rfl
            refine x_getE 68 hK rfl (Or.inl rfl) rfl (sp_133 (h := h) hG) (e := (gi h 133 0)) (rfl) ?_
            refine x_bipush 70 hK rfl rfl rfl ?_
            refine x_if_icmp_lt 75 73 hK rfl rfl rfl (by omega) (by omega) (fun c28 => ?_) (fun c28 => ?_)
            · refine x_aload_n 76 hK rfl rfl rfl ?_
              refine x_getR 79 hK rfl rfl (sp_0 (h := h) hG) (rf_0_14 (h := h) hG) ?_
              refine x_getR 82 hK rfl rfl (sp_133 (h := h) hG) (rf_133_1 (h := h) hG) ?_
              refine x_iload_n 83 hK rfl rfl rfl ?_
              refine x_iload_n 84 hK rfl rfl rfl ?_
              refine x_iastore 85 hK rfl rfl (sp_134 (h := h) hG) (by omega) (by omega) (by omega) ?_
              refine x_aload_n 86 hK rfl rfl rfl ?_
              refine x_getR 89 hK rfl rfl (sp_0 (h := h) hG) (rf_0_14 (h := h) hG) ?_
              refine x_dup 90 hK rfl rfl rfl ?_
              refine x_getE 93 hK rfl (Or.inl rfl) rfl (sp_133 (h := h) hG) (e := (gi h 133 0)) (gi_a (by decide) _) ?_
              refine x_iconst 94 hK rfl rfl ?_
              refine x_iadd 95 hK rfl rfl ?_
              refine x_putI 98 hK rfl rfl (sp_133 (h := h) hG) ?_
              refine x_aload_n 99 hK rfl rfl rfl ?_
              refine x_getR 102 hK rfl rfl (sp_0 (h := h) hG) (rf_0_14 (h := h) hG) ?_
              refine x_getE 105 hK rfl (Or.inl rfl) rfl (sp_133 (h := h) hG) (e := ((gi h 133 0) + 1)) (gi_same (by omega)) ?_
              have q : ((0 ≤ k ∧ k ≤ 24) ∧ 0 ≤ l ∧ l ≤ 8) := by omega
              have b9 : seB (gi h 134 k.toNat) (gi h 133 0) k l := ⟨q, by omega, by omega⟩
              have e9 : seA (gi h 134 k.toNat) (gi h 133 0) k l = (gi h 133 0) + 1 := by unfold seA; rw [if_pos q, if_pos b9.2.1, if_pos b9.2.2]
              exact x_iret hK rfl ⟨by rw [e9], GD_w1 (GD_wu (hG) (r := 48) rfl (by omega) rfl (by omega) (by omega)) (r := 47) rfl (by omega) rfl (by omega) (by omega), FRM_w (FRM_wn 0 24 ((FRM.rf : FRM gRL [(0, 47, 0, 0), (0, 48, 0, 24)] h h)) (r := 48) rfl rfl rfl (by omega) (by omega)) (r := 47) rfl rfl, fun _ => ⟨gi_same (by omega), (gi_a (by decide) _).trans (gi_same (by omega)), fun j hj => (gi_a (by decide) _).trans (gi_k hj _)⟩, fun z => absurd b9 z⟩
            · refine x_iconst 74 hK rfl rfl ?_
              have e9 : seA (gi h 134 k.toNat) (gi h 133 0) k l = -1 := by
                unfold seA
                first | rw [if_neg (by omega)] | rw [if_pos (by omega), if_pos (by omega), if_neg (by omega)]
              exact x_iret hK rfl ⟨by rw [e9], hG, (FRM.rf : FRM gRL [(0, 47, 0, 0), (0, 48, 0, 24)] h h), fun z => absurd z (fun z => by unfold seB at z; omega), fun _ => rfl⟩
          · refine x_aload_n 36 hK rfl rfl rfl ?_
            refine x_getR 39 hK rfl rfl (sp_0 (h := h) hG) (rf_0_14 (h := h) hG) ?_
            refine x_getR 42 hK rfl rfl (sp_133 (h := h) hG) (rf_133_1 (h := h) hG) ?_
            refine x_iload_n 43 hK rfl rfl rfl ?_
            refine x_ialoadE 44 hK rfl rfl (sp_134 (h := h) hG) (by omega) (by omega) (by omega) (e' := (gi h 134 k.toNat)) (rfl) ?_
            refine x_iload_n 45 hK rfl rfl rfl ?_
            refine x_if_icmp_ne 58 48 hK rfl rfl rfl (by omega) (by omega) (fun c54 => ?_) (fun c54 => ?_)
            · refine x_bipush 60 hK rfl rfl rfl ?_
              have e9 : seA (gi h 134 k.toNat) (gi h 133 0) k l = -2 := by unfold seA; rw [if_pos (by omega), if_neg (by omega), if_neg (by omega)]
              exact x_iret hK rfl ⟨by rw [e9], hG, (FRM.rf : FRM gRL [(0, 47, 0, 0), (0, 48, 0, 24)] h h), fun z => absurd z (fun z => by unfold seB at z; omega), fun _ => rfl⟩
            · refine x_aload_n 49 hK rfl rfl rfl ?_
              refine x_getR 52 hK rfl rfl (sp_0 (h := h) hG) (rf_0_14 (h := h) hG) ?_
              have g112 := gri (0) (12) hG (a := 133) (r := 47) (k := 0) rfl rfl
              refine x_getE 55 hK rfl (Or.inl rfl) rfl (sp_133 (h := h) hG) (e := (gi h 133 0)) (rfl) ?_
              refine x_goto 60 hK rfl rfl ?_
              have e9 : seA (gi h 134 k.toNat) (gi h 133 0) k l = (gi h 133 0) := by unfold seA; rw [if_pos (by omega), if_neg (by omega), if_pos (by omega)]
              exact x_iret hK rfl ⟨by rw [e9], hG, (FRM.rf : FRM gRL [(0, 47, 0, 0), (0, 48, 0, 24)] h h), fun z => absurd z (fun z => by unfold seB at z; omega), fun _ => rfl⟩
        · refine x_iconst 21 hK rfl rfl ?_
          have e9 : seA (gi h 134 k.toNat) (gi h 133 0) k l = -1 := by
            unfold seA
            first | rw [if_neg (by omega)] | rw [if_pos (by omega), if_pos (by omega), if_neg (by omega)]
          exact x_iret hK rfl ⟨by rw [e9], hG, (FRM.rf : FRM gRL [(0, 47, 0, 0), (0, 48, 0, 24)] h h), fun z => absurd z (fun z => by unfold seB at z; omega), fun _ => rfl⟩
set_option maxRecDepth 4000 in
theorem ctX11_seenF {SP : CT} (hSP : MONO SP) {sh : List (Nat × Nat)} {h : aH} (hG : GD gE gRL sh h) {k l : Int} (rk : r32 k) (rl : r32 l) : CLd SP 4 mX11_seen [.ref 171, .int (I k), .int (I l)] h 0 0 (fun rv h' => rv = some (.int (I (seA (snF (gi h 193) (gi h 194) k (gi h 171 42).toNat) (gi h 171 42) k l))) ∧ GD gE gRL sh h' ∧ FRM gRL [(0, 54, 0, 0), (0, 54, 42, 42), (0, 76, 0, 11), (0, 77, 0, 11)] h h' ∧ (seB (snF (gi h 193) (gi h 194) k (gi h 171 42).toNat) (gi h 171 42) k l → gi h' 171 42 = (gi h 171 42) + 1 ∧ gi h' 193 (gi h 171 42).toNat = k ∧ gi h' 194 (gi h 171 42).toNat = l ∧ (∀ j, j ≠ (gi h 171 42).toNat → gi h' 193 j = gi h 193 j) ∧ ∀ j, j ≠ (gi h 171 42).toNat → gi h' 194 j = gi h 194 j) ∧ (¬ seB (snF (gi h 193) (gi h 194) k (gi h 171 42).toNat) (gi h 171 42) k l → gi h' 171 42 = (gi h 171 42) ∧ gi h' 193 = gi h 193 ∧ gi h' 194 = gi h 194)) := by
  refine x_met _ rfl (Nat.le_of_ble_eq_true rfl) (fun K hK => ?_)
  have hmono := MONO_CLd hSP 3
  have gc := gri 0 12 hG (a := 171) (r := 54) (k := 42) rfl rfl
  have sb := snF_b (st := gi h 193) (la := gi h 194) (k := k) (gi h 171 42).toNat (fun i hi => grn 0 8 hG (a := 194) (r := 77) (k := i) rfl rfl (by omega))
  refine x_aload_n 1 hK rfl rfl rfl ?_
  refine x_iconst 2 hK rfl rfl ?_
  refine x_putI 5 hK rfl rfl (sp_171 (h := h) hG) ?_
  refine x_iload_n 6 hK rfl rfl rfl ?_
  refine x_i2l 7 hK rfl rfl (by omega) ?_
  refine x_lconstE 8 0 hK rfl rfl rfl ?_
  refine x_ldc2_w 11 hK rfl rfl ?_
  have hGp113 : GD gE gRL sh (wI h 171 0 0) := GD_w1 (hG) (r := 54) rfl (by omega) rfl (by omega) (by omega)
  refine x_callS 14 hK hmono rfl (Or.inl rfl) rfl [.long (J k), .long (J 0), .long (J 24)] [] rfl rfl (Nat.le_of_ble_eq_true rfl) (Nat.le_of_ble_eq_true rfl) (CLd_le (Nat.le_of_ble_eq_true rfl) (ctX11_in (by omega) (by omega) (by omega))) ?_
  rintro v9 h9 ⟨e9, ⟨rfl, i1114, i2114⟩ | ⟨rfl, i1114⟩⟩ <;> rw [e9] <;> clear e9
  · refine x_if_eq 29 17 hK rfl rfl rfl (by omega) (fun c => by omega) (fun _ => ?_)
    refine x_iload_n 18 hK rfl rfl rfl ?_
    refine x_i2l 19 hK rfl rfl (by omega) ?_
    refine x_lconstE 20 0 hK rfl rfl rfl ?_
    refine x_ldc2_w 23 hK rfl rfl ?_
    have hGp115 : GD gE gRL sh (wI h 171 0 0) := GD_w1 (hG) (r := 54) rfl (by omega) rfl (by omega) (by omega)
    refine x_callS 26 hK hmono rfl (Or.inl rfl) rfl [.long (J l), .long (J 0), .long (J 8)] [] rfl rfl (Nat.le_of_ble_eq_true rfl) (Nat.le_of_ble_eq_true rfl) (CLd_le (Nat.le_of_ble_eq_true rfl) (ctX11_in (by omega) (by omega) (by omega))) ?_
    rintro v9 h9 ⟨e9, ⟨rfl, i1116, i2116⟩ | ⟨rfl, i1116⟩⟩ <;> rw [e9] <;> clear e9
    · refine x_if_ne 31 29 hK rfl rfl rfl (by omega) (fun _ => ?_) (fun c => by omega)
      refine x_aload_n 32 hK rfl rfl rfl ?_
      refine x_iload_n 33 hK rfl rfl rfl ?_
      have hGp117 : GD gE gRL sh (wI h 171 0 0) := GD_w1 (hG) (r := 54) rfl (by omega) rfl (by omega) (by omega)
      refine x_callV 36 hK hmono rfl rfl [.ref 171, .int (I k)] [] rfl rfl (Nat.le_of_ble_eq_true rfl) (Nat.le_of_ble_eq_true rfl) rfl (sp_171 (h := h) hG) (CLd_le (Nat.le_of_ble_eq_true rfl) (ctX11_seenIn hSP hGp117 (by omega))) ?_
      rintro v9 h9 ⟨e9, rfl⟩
      rw [e9]
      clear e9
      change K _ _ (.int (I (snF (gi h 193) (gi h 194) k (gi h 171 42).toNat)) :: _) _ _ _
      refine x_istore_n 37 hK rfl rfl [(3, .int (I (snF (gi h 193) (gi h 194) k (gi h 171 42).toNat))), (0, .ref 171), (1, .int (I k)), (2, .int (I l))] rfl ?_
      refine x_iload_n 38 hK rfl rfl rfl ?_
      refine x_if_lt 56 41 hK rfl rfl rfl (by omega) (fun c21 => ?_) (fun c21 => ?_)
      · refine x_aload_n 57 hK rfl rfl rfl ?_
        have g118 := gri (0) (12) hG (a := 171) (r := 54) (k := 42) rfl rfl
        refine x_getE 60 hK rfl (Or.inl rfl) rfl (sp_171 (h := h) hG) (e := (gi h 171 42)) (gi_k (by decide) _) ?_
        refine x_bipush 62 hK rfl rfl rfl ?_
        refine x_if_icmp_ne 67 65 hK rfl rfl rfl (by omega) (by omega) (fun c25 => ?_) (fun c25 => ?_)
        · refine x_aload_n 68 hK rfl rfl rfl ?_
          refine x_getR 71 hK rfl rfl (sp_171 (h := h) hG) (rf_171_43 (h := h) hG) ?_
          refine x_aload_n 72 hK rfl rfl rfl ?_
          refine x_getE 75 hK rfl (Or.inl rfl) rfl (sp_171 (h := h) hG) (e := (gi h 171 42)) (gi_k (by decide) _) ?_
          refine x_iload_n 76 hK rfl rfl rfl ?_
          refine x_iastore 77 hK rfl rfl (sp_193 (h := h) hG) (by omega) (by omega) (by omega) ?_
          refine x_aload_n 78 hK rfl rfl rfl ?_
          refine x_getR 81 hK rfl rfl (sp_171 (h := h) hG) (rf_171_44 (h := h) hG) ?_
          refine x_aload_n 82 hK rfl rfl rfl ?_
          refine x_getE 85 hK rfl (Or.inl rfl) rfl (sp_171 (h := h) hG) (e := (gi h 171 42)) ((gi_a (by decide) _).trans (gi_k (by decide) _)) ?_
          refine x_iload_n 86 hK rfl rfl rfl ?_
          refine x_iastore 87 hK rfl rfl (sp_194 (h := h) hG) (by omega) (by omega) (by omega) ?_
          refine x_aload_n 88 hK rfl rfl rfl ?_
          refine x_dup 89 hK rfl rfl rfl ?_
          refine x_getE 92 hK rfl (Or.inl rfl) rfl (sp_171 (h := h) hG) (e := (gi h 171 42)) ((gi_a (by decide) _).trans ((gi_a (by decide) _).trans (gi_k (by decide) _))) ?_
          refine x_iconst 93 hK rfl rfl ?_
          refine x_iadd 94 hK rfl rfl ?_
          refine x_putI 97 hK rfl rfl (sp_171 (h := h) hG) ?_
          refine x_aload_n 98 hK rfl rfl rfl ?_
          refine x_getE 101 hK rfl (Or.inl rfl) rfl (sp_171 (h := h) hG) (e := ((gi h 171 42) + 1)) (gi_same (by omega)) ?_
          have q : ((0 ≤ k ∧ k ≤ 24) ∧ 0 ≤ l ∧ l ≤ 8) := by omega
          have b9 : seB (snF (gi h 193) (gi h 194) k (gi h 171 42).toNat) (gi h 171 42) k l := ⟨q, by omega, by omega⟩
          have e9 : seA (snF (gi h 193) (gi h 194) k (gi h 171 42).toNat) (gi h 171 42) k l = (gi h 171 42) + 1 := by unfold seA; rw [if_pos q, if_pos b9.2.1, if_pos b9.2.2]
          exact x_iret hK rfl ⟨by rw [e9], GD_w1 (GD_wu (GD_wu (GD_w1 (hG) (r := 54) rfl (by omega) rfl (by omega) (by omega)) (r := 76) rfl (by omega) rfl (by omega) (by omega)) (r := 77) rfl (by omega) rfl (by omega) (by omega)) (r := 54) rfl (by omega) rfl (by omega) (by omega), FRM_w (FRM_wn 0 11 (FRM_wn 0 11 (FRM_w ((FRM.rf : FRM gRL [(0, 54, 0, 0), (0, 54, 42, 42), (0, 76, 0, 11), (0, 77, 0, 11)] h h)) (r := 54) rfl rfl) (r := 76) rfl rfl rfl (by omega) (by omega)) (r := 77) rfl rfl rfl (by omega) (by omega)) (r := 54) rfl rfl, fun _ => ⟨gi_same (by omega), (gi_a (by decide) _).trans ((gi_a (by decide) _).trans (gi_same (by omega))), (gi_a (by decide) _).trans (gi_same (by omega)), fun j hj => (gi_a (by decide) _).trans ((gi_a (by decide) _).trans ((gi_k hj _).trans (gi_a (by decide) _))), fun j hj => (gi_a (by decide) _).trans ((gi_k hj _).trans ((gi_a (by decide) _).trans (gi_a (by decide) _)))⟩, fun z => absurd b9 z⟩
        · refine x_iconst 66 hK rfl rfl ?_
          have e9 : seA (snF (gi h 193) (gi h 194) k (gi h 171 42).toNat) (gi h 171 42) k l = -1 := by
            unfold seA
            first | rw [if_neg (by omega)] | rw [if_pos (by omega), if_pos (by omega), if_neg (by omega)]
          exact x_iret hK rfl ⟨by rw [e9], GD_w1 (hG) (r := 54) rfl (by omega) rfl (by omega) (by omega), FRM_w ((FRM.rf : FRM gRL [(0, 54, 0, 0), (0, 54, 42, 42), (0, 76, 0, 11), (0, 77, 0, 11)] h h)) (r := 54) rfl rfl, fun z => absurd z (fun z => by unfold seB at z; omega), fun _ => ⟨gi_k (by decide) _, funext fun j => gi_a (by decide) _, funext fun j => gi_a (by decide) _⟩⟩
      · refine x_iload_n 42 hK rfl rfl rfl ?_
        refine x_iload_n 43 hK rfl rfl rfl ?_
        refine x_if_icmp_ne 53 46 hK rfl rfl rfl (by omega) (by omega) (fun c51 => ?_) (fun c51 => ?_)
        · refine x_bipush 55 hK rfl rfl rfl ?_
          have e9 : seA (snF (gi h 193) (gi h 194) k (gi h 171 42).toNat) (gi h 171 42) k l = -2 := by unfold seA; rw [if_pos (by omega), if_neg (by omega), if_neg (by omega)]
          exact x_iret hK rfl ⟨by rw [e9], GD_w1 (hG) (r := 54) rfl (by omega) rfl (by omega) (by omega), FRM_w ((FRM.rf : FRM gRL [(0, 54, 0, 0), (0, 54, 42, 42), (0, 76, 0, 11), (0, 77, 0, 11)] h h)) (r := 54) rfl rfl, fun z => absurd z (fun z => by unfold seB at z; omega), fun _ => ⟨gi_k (by decide) _, funext fun j => gi_a (by decide) _, funext fun j => gi_a (by decide) _⟩⟩
        · refine x_aload_n 47 hK rfl rfl rfl ?_
          have g119 := gri (0) (12) hG (a := 171) (r := 54) (k := 42) rfl rfl
          refine x_getE 50 hK rfl (Or.inl rfl) rfl (sp_171 (h := h) hG) (e := (gi h 171 42)) (gi_k (by decide) _) ?_
          refine x_goto 55 hK rfl rfl ?_
          have e9 : seA (snF (gi h 193) (gi h 194) k (gi h 171 42).toNat) (gi h 171 42) k l = (gi h 171 42) := by unfold seA; rw [if_pos (by omega), if_neg (by omega), if_pos (by omega)]
          exact x_iret hK rfl ⟨by rw [e9], GD_w1 (hG) (r := 54) rfl (by omega) rfl (by omega) (by omega), FRM_w ((FRM.rf : FRM gRL [(0, 54, 0, 0), (0, 54, 42, 42), (0, 76, 0, 11), (0, 77, 0, 11)] h h)) (r := 54) rfl rfl, fun z => absurd z (fun z => by unfold seB at z; omega), fun _ => ⟨gi_k (by decide) _, funext fun j => gi_a (by decide) _, funext fun j => gi_a (by decide) _⟩⟩
    · refine x_if_ne 31 29 hK rfl rfl rfl (by omega) (fun c => by omega) (fun _ => ?_)
      refine x_iconst 30 hK rfl rfl ?_
      have e9 : seA (snF (gi h 193) (gi h 194) k (gi h 171 42).toNat) (gi h 171 42) k l = -1 := by
        unfold seA
        first | rw [if_neg (by omega)] | rw [if_pos (by omega), if_pos (by omega), if_neg (by omega)]
      exact x_iret hK rfl ⟨by rw [e9], GD_w1 (hG) (r := 54) rfl (by omega) rfl (by omega) (by omega), FRM_w ((FRM.rf : FRM gRL [(0, 54, 0, 0), (0, 54, 42, 42), (0, 76, 0, 11), (0, 77, 0, 11)] h h)) (r := 54) rfl rfl, fun z => absurd z (fun z => by unfold seB at z; omega), fun _ => ⟨gi_k (by decide) _, funext fun j => gi_a (by decide) _, funext fun j => gi_a (by decide) _⟩⟩
  · refine x_if_eq 29 17 hK rfl rfl rfl (by omega) (fun _ => ?_) (fun c => by omega)
    refine x_iconst 30 hK rfl rfl ?_
    have e9 : seA (snF (gi h 193) (gi h 194) k (gi h 171 42).toNat) (gi h 171 42) k l = -1 := by
      unfold seA
      first | rw [if_neg (by omega)] | rw [if_pos (by omega), if_pos (by omega), if_neg (by omega)]
    exact x_iret hK rfl ⟨by rw [e9], GD_w1 (hG) (r := 54) rfl (by omega) rfl (by omega) (by omega), FRM_w ((FRM.rf : FRM gRL [(0, 54, 0, 0), (0, 54, 42, 42), (0, 76, 0, 11), (0, 77, 0, 11)] h h)) (r := 54) rfl rfl, fun z => absurd z (fun z => by unfold seB at z; omega), fun _ => ⟨gi_k (by decide) _, funext fun j => gi_a (by decide) _, funext fun j => gi_a (by decide) _⟩⟩
set_option maxRecDepth 4000 in
theorem ctX10_forget {SP : CT} (hSP : MONO SP) {sh : List (Nat × Nat)} {h : aH} (hG : GD gE gRL sh h) (hX : XI h) : CLd SP 3 mX10_forget [.ref 0] h 0 0 (fun rv h' => rv = some (.int (I (gi h 133 0))) ∧ GD gE gRL sh h' ∧ FRM gRL [(0, 47, 0, 0), (0, 48, 0, 24)] h h' ∧ gi h' 133 0 = 0 ∧ ∀ k, k < 25 → gi h' 134 k = -1) := by
  refine x_met _ rfl (Nat.le_of_ble_eq_true rfl) (fun K hK => ?_)
  have hmono := MONO_CLd hSP 2
  refine x_aload_n 1 hK rfl rfl rfl ?_
  refine x_getR 4 hK rfl rfl (sp_0 (h := h) hG) (rf_0_14 (h := h) hG) ?_
  have g120 := gri (0) (12) hG (a := 133) (r := 47) (k := 0) rfl rfl
  refine x_getE 7 hK rfl (Or.inl rfl) rfl (sp_133 (h := h) hG) (e := (gi h 133 0)) (rfl) ?_
  refine x_istore_n 8 hK rfl rfl [(1, .int (I (gi h 133 0))), (0, .ref 0)] rfl ?_
  refine x_aload_n 9 hK rfl rfl rfl ?_
  refine x_getR 12 hK rfl rfl (sp_0 (h := h) hG) (rf_0_14 (h := h) hG) ?_
  refine x_callV 15 hK hmono rfl rfl [.ref 133] [] rfl rfl (Nat.le_of_ble_eq_true rfl) (Nat.le_of_ble_eq_true rfl) rfl (sp_133 (h := h) hG) (CLd_le (Nat.le_of_ble_eq_true rfl) (kX7_forgetAll_0 hSP [.ref 133] _ hX ⟨gv_r (by decide) rfl, trivial⟩ hG gov_n)) ?_
  rintro v121 h121 ⟨hG121, hF121, o121, m121, q121, y121, -⟩
  obtain rfl := List.mem_singleton.mp m121
  obtain rfl := QS_v q121
  have z0121 : gi h121 133 0 = 0 := ov_at (r := 47) 0 (by decide) (by decide) y121 (by decide)
  have z1121 : ∀ k, k < 25 → gi h121 134 k = -1 := fun k hk => ov_at (r := 48) (-1) (by decide) (by decide) y121 (by revert k; decide)
  refine x_iload_n 16 hK rfl rfl rfl ?_
  exact x_iret hK rfl ⟨rfl, hG121, hF121, z0121, z1121⟩
set_option maxRecDepth 4000 in
theorem ctX11_forget {SP : CT} (hSP : MONO SP) {sh : List (Nat × Nat)} {h : aH} (hG : GD gE gRL sh h) : CLd SP 1 mX11_forget [.ref 171] h 0 0 (fun rv h' => rv = some (.int (I (gi h 171 42))) ∧ GD gE gRL sh h' ∧ FRM gRL [(0, 54, 0, 0), (0, 54, 42, 42)] h h' ∧ gi h' 171 42 = 0) := by
  refine x_met _ rfl (Nat.le_of_ble_eq_true rfl) (fun K hK => ?_)
  have hmono := MONO_CLd hSP 0
  refine x_aload_n 1 hK rfl rfl rfl ?_
  refine x_iconst 2 hK rfl rfl ?_
  refine x_putI 5 hK rfl rfl (sp_171 (h := h) hG) ?_
  refine x_aload_n 6 hK rfl rfl rfl ?_
  have g122 := gri (0) (12) hG (a := 171) (r := 54) (k := 42) rfl rfl
  refine x_getE 9 hK rfl (Or.inl rfl) rfl (sp_171 (h := h) hG) (e := (gi h 171 42)) (gi_k (by decide) _) ?_
  refine x_istore_n 10 hK rfl rfl [(1, .int (I (gi h 171 42))), (0, .ref 171)] rfl ?_
  refine x_aload_n 11 hK rfl rfl rfl ?_
  refine x_iconst 12 hK rfl rfl ?_
  refine x_putI 15 hK rfl rfl (sp_171 (h := h) hG) ?_
  refine x_iload_n 16 hK rfl rfl rfl ?_
  exact x_iret hK rfl ⟨rfl, GD_w1 (GD_w1 (hG) (r := 54) rfl (by omega) rfl (by omega) (by omega)) (r := 54) rfl (by omega) rfl (by omega) (by omega), FRM_w (FRM_w ((FRM.rf : FRM gRL [(0, 54, 0, 0), (0, 54, 42, 42)] h h)) (r := 54) rfl rfl) (r := 54) rfl rfl, gi_same (by omega)⟩
end
section
/-! WHAT WAS ORDERED (the class) -/
set_option maxRecDepth 4000 in
theorem ctX10_put {SP : CT} (hSP : MONO SP) {h : aH} {v a b : Int} (rv : r32 v) (ra : r32 a) (rb : r32 b) : CLd SP 1 mX10_put [.int (I v), .int (I a), .int (I b)] h 0 0 (fun rv h' => h' = h ∧ rv = some (.int (I (max a (min b v))))) := by
  refine x_met _ rfl (Nat.le_of_ble_eq_true rfl) (fun K hK => ?_)
  have hmono := MONO_CLd hSP 0
  refine x_iload_n 1 hK rfl rfl rfl ?_
  refine x_iload_n 2 hK rfl rfl rfl ?_
  refine x_iload_n 3 hK rfl rfl rfl ?_
  refine x_min 6 hK rfl rfl (Nat.le_of_ble_eq_true rfl) (by omega) (by omega) ?_
  refine x_max 9 hK rfl rfl (Nat.le_of_ble_eq_true rfl) (by omega) (by omega) ?_
  exact x_iret hK rfl ⟨rfl, rfl⟩
set_option maxRecDepth 4000 in
theorem ctX10_keepOnSea {SP : CT} (hSP : MONO SP) {h : aH} {v : Int} (rv : r32 v) : CLd SP 2 mX10_keepOnSea [.int (I v)] h 0 0 (fun rv h' => h' = h ∧ rv = some (.int (I (max 0 (min 8 v))))) := by
  refine x_met _ rfl (Nat.le_of_ble_eq_true rfl) (fun K hK => ?_)
  have hmono := MONO_CLd hSP 1
  refine x_iload_n 1 hK rfl rfl rfl ?_
  refine x_iconst 2 hK rfl rfl ?_
  refine x_bipush 4 hK rfl rfl rfl ?_
  refine x_callS 7 hK hmono rfl (Or.inl rfl) rfl [.int (I v), .int (I 0), .int (I 8)] [] rfl rfl (Nat.le_of_ble_eq_true rfl) (Nat.le_of_ble_eq_true rfl) (CLd_le (Nat.le_of_ble_eq_true rfl) (ctX10_put hSP (v := v) (a := 0) (b := 8) (by omega) (by omega) (by omega))) ?_
  rintro v9 h9 ⟨e9, rfl⟩
  rw [e9]
  clear e9
  exact x_iret hK rfl ⟨rfl, rfl⟩
/-- the last step that was seen, by what was seen in each -/
noncomputable def lcF (f : Nat → Int) : Nat → Int
  | 0 => 0
  | n + 1 => if f (n + 1) = -1 then lcF f n else (n + 1 : Nat)
theorem lcF_s {f : Nat → Int} {n : Int} (h : 0 < n) : lcF f n.toNat = if f n.toNat = -1 then lcF f (n - 1).toNat else n := by
  obtain ⟨k, rfl⟩ : ∃ k : Nat, n = k + 1 := ⟨(n - 1).toNat, by omega⟩
  rw [show ((k : Int) + 1).toNat = k + 1 by omega, show ((k : Int) + 1 - 1).toNat = k by omega]
  show (if f (k + 1) = -1 then lcF f k else ((k + 1 : Nat) : Int)) = _
  rfl
theorem lcF_b (f : Nat → Int) : ∀ n : Nat, 0 ≤ lcF f n ∧ lcF f n ≤ n
  | 0 => ⟨Int.le_refl _, Int.le_refl _⟩
  | n + 1 => by
    have := lcF_b f n
    show 0 ≤ (if f (n + 1) = -1 then lcF f n else ((n + 1 : Nat) : Int)) ∧ (if f (n + 1) = -1 then lcF f n else ((n + 1 : Nat) : Int)) ≤ _
    split <;> omega
theorem lcF_eq {f : Nat → Int} {L : Int} (h0 : 0 ≤ L) (hL : f L.toNat ≠ -1) : ∀ n : Nat, L ≤ n → (∀ k : Nat, L < k → k ≤ n → f k = -1) → lcF f n = L
  | 0, h, _ => by show (0 : Int) = L; omega
  | n + 1, h, hk => by
    show (if f (n + 1) = -1 then lcF f n else ((n + 1 : Nat) : Int)) = L
    by_cases c : L = (n + 1 : Nat)
    · rw [if_neg (by intro z; apply hL; rw [c]; exact z), c]
    · rw [if_pos (hk (n + 1) (by omega) (by omega))]
      exact lcF_eq h0 hL n (by omega) fun k a b => hk k a (by omega)
/-- how many rows go on (without a bound) -/
noncomputable def cwF (f : Int → Int) (last : Int) : Nat → Int → Int
  | 0, l => if f last = -1 ∨ f last = l then 1 else 0
  | d + 1, l => if f (last - (d + 1)) = -1 ∨ f (last - (d + 1)) = l then s3 (cwF f last d) l 2 else 0
theorem cwF_s {f : Int → Int} {last k l : Int} (h : k < last) : cwF f last (last - k).toNat l = if f k = -1 ∨ f k = l then s3 (cwF f last (last - (k + 1)).toNat) l 2 else 0 := by
  obtain ⟨n, hn⟩ : ∃ n : Nat, last - (k + 1) = n := ⟨(last - (k + 1)).toNat, by omega⟩
  rw [show (last - k).toNat = n + 1 by omega, show (last - (k + 1)).toNat = n by omega]
  show (if f (last - (n + 1)) = -1 ∨ f (last - (n + 1)) = l then _ else (0 : Int)) = _
  rw [show last - ((n : Int) + 1) = k by omega]
theorem s3_2 (g : Int → Int) (l : Int) : s3 g l 2 = g (max 0 (min 8 (l + -1))) + g (max 0 (min 8 (l + 0))) + g (max 0 (min 8 (l + 1))) := by
  unfold s3
  rw [if_pos (by omega), if_pos (by omega), if_pos (by omega)]
theorem s3_ext {g g' : Int → Int} {l : Int} (h : ∀ q, 0 ≤ q → q ≤ 8 → g q = g' q) : s3 g l 2 = s3 g' l 2 := by
  rw [s3_2, s3_2, h _ (by omega) (by omega), h _ (by omega) (by omega), h _ (by omega) (by omega)]
noncomputable def p3 : Nat → Int
  | 0 => 1
  | d + 1 => 3 * p3 d
theorem p3_b : ((List.range 26).all fun d => decide (1 ≤ p3 d ∧ p3 d ≤ 847288609443)) = true := by decide +kernel
theorem p3_bd {d : Nat} (h : d ≤ 25) : 1 ≤ p3 d ∧ p3 d ≤ 847288609443 := of_decide_eq_true (all_r p3_b (by omega))
theorem cw_b (f : Int → Int) (last : Int) : ∀ (d : Nat) (l : Int), 0 ≤ cwF f last d l ∧ cwF f last d l ≤ p3 d
  | 0, l => by
    show 0 ≤ (if f last = -1 ∨ f last = l then (1 : Int) else 0) ∧ (if f last = -1 ∨ f last = l then (1 : Int) else 0) ≤ 1
    split <;> omega
  | d + 1, l => by
    have a := cw_b f last d (max 0 (min 8 (l + -1)))
    have b := cw_b f last d (max 0 (min 8 (l + 0)))
    have c := cw_b f last d (max 0 (min 8 (l + 1)))
    show 0 ≤ (if f (last - (d + 1)) = -1 ∨ f (last - (d + 1)) = l then s3 (cwF f last d) l 2 else 0) ∧ (if f (last - (d + 1)) = -1 ∨ f (last - (d + 1)) = l then s3 (cwF f last d) l 2 else 0) ≤ 3 * p3 d
    rw [s3_2]
    split <;> omega
theorem cw_bd (f : Int → Int) (last : Int) {d : Nat} (h : d ≤ 25) (l : Int) : 0 ≤ cwF f last d l ∧ cwF f last d l ≤ 847288609443 := by
  have := cw_b f last d l
  have := p3_bd h
  omega
/-- with the bound it is what the reference has -/
theorem cw_mn {f : Int → Int} (hf : ∀ k, -1 ≤ f k) (last : Int) : ∀ (d : Nat) (l : Int), (d : Int) < last ∨ ((d : Int) = last ∧ l = 4) → sMn f last d l = min 1000000 (cwF f last d l)
  | 0, l, h => by
    show (if snFine f last l then (1 : Int) else 0) = min 1000000 (if f last = -1 ∨ f last = l then 1 else 0)
    have e : snFine f last l = decide (f last = -1 ∨ f last = l) := by
      have := hf last
      unfold snFine
      rw [show (decide (0 < last) || decide (l = 4)) = true from by rw [Bool.or_eq_true, decide_eq_true_eq, decide_eq_true_eq]; omega, Bool.and_true, ← Bool.decide_or]
      exact decide_eq_decide.mpr (by omega)
    rw [e]
    by_cases c : f last = -1 ∨ f last = l
    · rw [if_pos c, if_pos (decide_eq_true c)]; rfl
    · rw [if_neg c, if_neg (by simpa using c)]; rfl
  | d + 1, l, h => by
    show (if snFine f (last - (d + 1)) l then min 1000000 (s3 (sMn f last d) l 2) else 0) = min 1000000 (if f (last - (d + 1)) = -1 ∨ f (last - (d + 1)) = l then s3 (cwF f last d) l 2 else 0)
    have e : snFine f (last - (d + 1)) l = decide (f (last - (d + 1)) = -1 ∨ f (last - (d + 1)) = l) := by
      have := hf (last - (d + 1))
      unfold snFine
      rw [show (decide (0 < last - ((d : Int) + 1)) || decide (l = 4)) = true from by rw [Bool.or_eq_true, decide_eq_true_eq, decide_eq_true_eq]; omega, Bool.and_true, ← Bool.decide_or]
      exact decide_eq_decide.mpr (by omega)
    have ih := fun l => cw_mn hf last d l (Or.inl (by omega))
    have a := cw_b f last d (max 0 (min 8 (l + -1)))
    have b := cw_b f last d (max 0 (min 8 (l + 0)))
    have c := cw_b f last d (max 0 (min 8 (l + 1)))
    rw [e, s3_2, s3_2, ih, ih, ih]
    by_cases c : f (last - (d + 1)) = -1 ∨ f (last - (d + 1)) = l
    · rw [if_pos c, if_pos (decide_eq_true c)]; omega
    · rw [if_neg c, if_neg (by simpa using c)]; rfl
/-- the class's table is filled so far -/
noncomputable def CTB (f : Int → Int) (last : Int) (h : aH) (k l : Int) : Prop := ∀ k' l' : Int, 0 ≤ k' → 0 ≤ l' → l' ≤ 8 → k' ≤ last → (k < k' ∨ (k' = k ∧ l' < l)) → gj h (136 + k'.toNat) l'.toNat = cwF f last (last - k').toNat l'

set_option maxRecDepth 4000 in
theorem ctX7_lastStep {SP : CT} (hSP : MONO SP) {sh : List (Nat × Nat)} {h : aH} (hG : GD gE gRL sh h) : CLd SP 1 mX7_lastStep [.ref 133] h 0 0 (fun rv h' => h' = h ∧ rv = some (.int (I (lcF (gi h 134) 24)))) := by
  refine x_met _ rfl (Nat.le_of_ble_eq_true rfl) (fun K hK => ?_)
  have hmono := MONO_CLd hSP 0
  have loop : ∀ (mz : Nat) (k : Int) (ls : List (Nat × Value)), (k.toNat = mz) → (0 ≤ k ∧ k ≤ 24) → (lcF (gi h 134) k.toNat = lcF (gi h 134) 24) → lk ls 0 = some (.ref 133) → lk ls 1 = some (.int (I k)) → K 3 ls [] h 0 0 := by
    intro mz
    induction mz using Nat.strongRecOn with
    | ind mz ih =>
    intro k ls hm k0 e l0 l1
    refine x_iload_n 4 hK rfl rfl l1 ?_
    refine x_if_le 23 7 hK rfl rfl rfl (by omega) (fun c2 => ?_) (fun c2 => ?_)
    · refine x_iload_n 24 hK rfl rfl l1 ?_
      have e9 : lcF (gi h 134) 24 = k := by
        rw [← e]
        by_cases c : k = 0
        · rw [c]; rfl
        · rw [lcF_s (by omega), if_neg (by omega)]
      exact x_iret hK rfl ⟨rfl, by rw [e9]⟩
    · refine x_aload_n 8 hK rfl rfl l0 ?_
      refine x_getR 11 hK rfl rfl (sp_133 (h := h) hG) (rf_133_1 (h := h) hG) ?_
      refine x_iload_n 12 hK rfl rfl l1 ?_
      have g110 := grn (-1) (8) hG (a := 134) (r := 48) (k := k.toNat) rfl rfl (by omega)
      refine x_ialoadE 13 hK rfl rfl (sp_134 (h := h) hG) (by omega) (by omega) (by omega) (e' := (gi h 134 k.toNat)) (rfl) ?_
      refine x_iconst 14 hK rfl rfl ?_
      refine x_if_icmp_ne 23 17 hK rfl rfl rfl (by omega) (by omega) (fun c10 => ?_) (fun c10 => ?_)
      · refine x_iload_n 24 hK rfl rfl l1 ?_
        have e9 : lcF (gi h 134) 24 = k := by
          rw [← e]
          by_cases c : k = 0
          · rw [c]; rfl
          · rw [lcF_s (by omega), if_neg (by omega)]
        exact x_iret hK rfl ⟨rfl, by rw [e9]⟩
      · refine x_iinc 20 hK rfl rfl l1 _ rfl ?_
        refine x_goto 3 hK rfl rfl ?_
        exact ih _ (by omega) (k + (-1)) _ rfl (by omega) (by rw [← e, lcF_s (n := k) (by omega), if_pos (by omega)]; rfl) (lk1_n l0 (by decide) (Or.inl rfl)) lk1_s
  refine x_bipush 2 hK rfl rfl rfl ?_
  refine x_istore_n 3 hK rfl rfl [(1, .int (I 24)), (0, .ref 133)] rfl ?_
  exact loop _ 24 _ rfl (by omega) (rfl) rfl rfl
set_option maxRecDepth 4000 in
theorem ctX7_waysBehind {SP : CT} (hSP : MONO SP) {sh : List (Nat × Nat)} {h : aH} (hG : GD gE gRL sh h) {s l : Int} (hP : PT h) (hs : 0 ≤ s ∧ s ≤ 23) (hl : 0 ≤ l ∧ l ≤ 8) : CLd SP 3 mX7_waysBehind [.ref 133, .int (I s), .int (I l)] h 0 0 (fun rv h' => h' = h ∧ rv = some (.long (J (s3 (fun p : Int => gj h (136 + (s + 1).toNat) p.toNat) l 2)))) := by
  refine x_met _ rfl (Nat.le_of_ble_eq_true rfl) (fun K hK => ?_)
  have hmono := MONO_CLd hSP 2
  have loop : ∀ (mz : Nat) (e v : Int) (ls : List (Nat × Value)), ((2 - v).toNat = mz) → (-1 ≤ v ∧ v ≤ 2) → (e = s3 (fun p : Int => gj h (136 + (s + 1).toNat) p.toNat) l v) → lk ls 0 = some (.ref 133) → lk ls 1 = some (.int (I s)) → lk ls 2 = some (.int (I l)) → lk ls 3 = some (.long (J e)) → lk ls 5 = some (.int (I v)) → K 5 ls [] h 0 0 := by
    intro mz
    induction mz using Nat.strongRecOn with
    | ind mz ih =>
    intro e v ls hm v0 ee l0 l1 l2 l3 l5
    refine x_iload 7 hK rfl rfl l5 ?_
    refine x_iconst 8 hK rfl rfl ?_
    refine x_if_icmp_gt 36 11 hK rfl rfl rfl (by omega) (by omega) (fun c3 => ?_) (fun c3 => ?_)
    · refine x_lload_n 37 hK rfl rfl l3 ?_
      exact x_lret hK rfl ⟨rfl, by rw [ee, show v = 2 by omega]⟩
    · refine x_lload_n 12 hK rfl rfl l3 ?_
      refine x_aload_n 13 hK rfl rfl l0 ?_
      refine x_getR 16 hK rfl rfl (sp_133 (h := h) hG) (rf_133_2 (h := h) hG) ?_
      refine x_iload_n 17 hK rfl rfl l1 ?_
      refine x_iconst 18 hK rfl rfl ?_
      refine x_iadd 19 hK rfl rfl ?_
      refine x_aaload 20 hK rfl rfl (sp_135 (h := h) hG) (by decide) (by omega) (by omega) (by omega) (hP.1 _ (by omega)) ?_
      refine x_iload_n 21 hK rfl rfl l2 ?_
      refine x_iload 23 hK rfl rfl l5 ?_
      refine x_iadd 24 hK rfl rfl ?_
      refine x_callS 27 hK hmono rfl (Or.inr rfl) rfl [.int (I (l + v))] [.ref (136 + (s + 1).toNat), .long (J e)] rfl rfl (Nat.le_of_ble_eq_true rfl) (Nat.le_of_ble_eq_true rfl) (CLd_le (Nat.le_of_ble_eq_true rfl) (ctX10_keepOnSea hSP (v := (l + v)) (by omega))) ?_
      rintro v9 h9 ⟨e9, rfl⟩
      rw [e9]
      clear e9
      refine x_laloadE 28 hK rfl rfl (shx (h := h) hG (r := 50) (pt_r1 _ (by omega)) rfl) (by omega) (by omega) (by omega) (e' := (gj h (136 + (s + 1).toNat) (max 0 (min 8 (l + v))).toNat)) (rfl) ?_
      refine x_ladd 29 hK rfl rfl ?_
      refine x_lstore_n 30 hK rfl rfl _ rfl ?_
      refine x_iinc 33 hK rfl rfl (lk2_n l5 (by decide) (by decide) (Or.inl rfl)) _ rfl ?_
      refine x_goto 5 hK rfl rfl ?_
      exact ih _ (by omega) (e + (gj h (136 + (s + 1).toNat) (max 0 (min 8 (l + v))).toNat)) (v + 1) _ rfl (by omega) (by rw [s3_n v0.1 (by omega), ← ee]) (lk1_n (lk2_n l0 (by decide) (by decide) (Or.inl rfl)) (by decide) (Or.inl rfl)) (lk1_n (lk2_n l1 (by decide) (by decide) (Or.inl rfl)) (by decide) (Or.inl rfl)) (lk1_n (lk2_n l2 (by decide) (by decide) (Or.inl rfl)) (by decide) (Or.inl rfl)) (lk1_n lk2_s (by decide) (Or.inr (by decide))) lk1_s
  refine x_lconstE 1 0 hK rfl rfl rfl ?_
  refine x_lstore_n 2 hK rfl rfl [(3, .long (J 0)), (0, .ref 133), (1, .int (I s)), (2, .int (I l))] rfl ?_
  refine x_iconst 3 hK rfl rfl ?_
  refine x_istore 5 hK rfl rfl [(5, .int (I (-1))), (3, .long (J 0)), (0, .ref 133), (1, .int (I s)), (2, .int (I l))] rfl ?_
  exact loop _ 0 (-1) _ rfl (by omega) ((by unfold s3; rw [if_neg (by omega), if_neg (by omega), if_neg (by omega)]; rfl)) rfl rfl rfl rfl rfl
set_option maxRecDepth 4000 in
theorem ctX7_countWays {SP : CT} (hSP : MONO SP) {sh : List (Nat × Nat)} {h : aH} (hG : GD gE gRL sh h) {last : Int} (hP : PT h) (hl : 0 ≤ last ∧ last ≤ 24) : CLd SP 4 mX7_countWays [.ref 133, .int (I last)] h 0 0 (fun rv h' => rv = none ∧ GD gE gRL sh h' ∧ FRM gRL [(1, 50, 0, 8)] h h' ∧ CTB (fun k : Int => gi h 134 k.toNat) last h' (-1) 0) := by
  refine x_met _ rfl (Nat.le_of_ble_eq_true rfl) (fun K hK => ?_)
  have hmono := MONO_CLd hSP 3
  have loopK : ∀ (mz : Nat) (k : Int) (h3 : aH) (ls : List (Nat × Value)), ((k + 1).toNat = mz) → (-1 ≤ k ∧ k ≤ last) → (CTB (fun k : Int => gi h 134 k.toNat) last h3 k 0) → lk ls 0 = some (.ref 133) → lk ls 1 = some (.int (I last)) → lk ls 2 = some (.int (I k)) → GD gE gRL sh h3 → FRM gRL [(1, 50, 0, 8)] h h3 → K 2 ls [] h3 0 0 := by
    intro mz
    induction mz using Nat.strongRecOn with
    | ind mz ih =>
    intro k h3 ls hm k0 t3 l0 l1 l2 hG3 hF3
    have ihK := ih
    have loopL : ∀ (mz : Nat) (l : Int) (h4 : aH) (ls : List (Nat × Value)), ((9 - l).toNat = mz) → (0 ≤ l ∧ l ≤ 9) → (0 ≤ k) → (CTB (fun k : Int => gi h 134 k.toNat) last h4 k l) → lk ls 0 = some (.ref 133) → lk ls 1 = some (.int (I last)) → lk ls 2 = some (.int (I k)) → lk ls 3 = some (.int (I l)) → GD gE gRL sh h4 → FRM gRL [(1, 50, 0, 8)] h h4 → K 8 ls [] h4 0 0 := by
      intro mz
      induction mz using Nat.strongRecOn with
      | ind mz ih =>
      intro l h4 ls hm l0 k1 t4 l0 l1 l2 l3 hG4 hF4
      have fk : gi h4 134 k.toNat = gi h 134 k.toNat := FRM_gi hF4 (r := 48) rfl rfl
      have cb := fun z : k < last => cw_bd (fun k : Int => gi h 134 k.toNat) last (d := (last - k).toNat) (by omega) l
      have tn : ∀ e : Int, r64 e → e = cwF (fun k : Int => gi h 134 k.toNat) last (last - k).toNat l → CTB (fun k : Int => gi h 134 k.toNat) last (sJ h4 (136 + k.toNat) l.toNat (J e)) k (l + 1) := by
        intro e re ee k' l' y1 y2 y3 y4 y5
        by_cases c : k' = k ∧ l' = l
        · obtain ⟨rfl, rfl⟩ := c
          exact (gj_same re).trans ee
        · have z := t4 k' l' y1 y2 y3 y4 (by omega)
          rw [← z]
          by_cases c2 : k' = k
          · exact gj_k (by omega) _
          · exact gj_a (by omega) _
      refine x_iload_n 9 hK rfl rfl l3 ?_
      refine x_bipush 11 hK rfl rfl rfl ?_
      refine x_if_icmp_gt 79 14 hK rfl rfl rfl (by omega) (by omega) (fun c3 => ?_) (fun c3 => ?_)
      · refine x_iinc 82 hK rfl rfl l2 _ rfl ?_
        refine x_goto 2 hK rfl rfl ?_
        exact ihK _ (by omega) (k + (-1)) _ _ rfl (by omega) ((fun k' l' y1 y2 y3 y4 y5 => t4 k' l' y1 y2 y3 y4 (by omega))) (lk1_n l0 (by decide) (Or.inl rfl)) (lk1_n l1 (by decide) (Or.inl rfl)) lk1_s (hG4) (hF4)
      · refine x_aload_n 15 hK rfl rfl l0 ?_
        refine x_getR 18 hK rfl rfl (sp_133 (h := h4) hG4) (rf_133_1 (h := h4) hG4) ?_
        refine x_iload_n 19 hK rfl rfl l2 ?_
        have g111 := grn (-1) (8) hG (a := 134) (r := 48) (k := k.toNat) rfl rfl (by omega)
        refine x_ialoadE 20 hK rfl rfl (sp_134 (h := h4) hG4) (by omega) (by omega) (by omega) (e' := (gi h 134 k.toNat)) (fk) ?_
        refine x_iconst 21 hK rfl rfl ?_
        refine x_if_icmp_eq 34 24 hK rfl rfl rfl (by omega) (by omega) (fun c12 => ?_) (fun c12 => ?_)
        · refine x_iconst 35 hK rfl rfl ?_
          refine x_goto 39 hK rfl rfl ?_
          refine x_istore 41 hK rfl rfl _ rfl ?_
          refine x_aload_n 42 hK rfl rfl (lk1_n l0 (by decide) (Or.inl rfl)) ?_
          refine x_getR 45 hK rfl rfl (sp_133 (h := h4) hG4) (rf_133_2 (h := h4) hG4) ?_
          refine x_iload_n 46 hK rfl rfl (lk1_n l2 (by decide) (Or.inl rfl)) ?_
          refine x_aaload 47 hK rfl rfl (sp_135 (h := h4) hG4) (by decide) (by omega) (by omega) (by omega) ((PT_F hF4 (by decide) hP).1 _ (by omega)) ?_
          refine x_iload_n 48 hK rfl rfl (lk1_n l3 (by decide) (Or.inl rfl)) ?_
          refine x_iload 50 hK rfl rfl lk1_s ?_
          refine x_if_ne 57 53 hK rfl rfl rfl (by omega) (fun _ => ?_) (fun c => by omega)
          refine x_iload_n 58 hK rfl rfl (lk1_n l2 (by decide) (Or.inl rfl)) ?_
          refine x_iload_n 59 hK rfl rfl (lk1_n l1 (by decide) (Or.inl rfl)) ?_
          refine x_if_icmp_ne 66 62 hK rfl rfl rfl (by omega) (by omega) (fun c25 => ?_) (fun c25 => ?_)
          · refine x_aload_n 67 hK rfl rfl (lk1_n l0 (by decide) (Or.inl rfl)) ?_
            refine x_iload_n 68 hK rfl rfl (lk1_n l2 (by decide) (Or.inl rfl)) ?_
            refine x_iload_n 69 hK rfl rfl (lk1_n l3 (by decide) (Or.inl rfl)) ?_
            refine x_callV 72 hK hmono rfl rfl [.ref 133, .int (I k), .int (I l)] [.int (I l), .ref (136 + k.toNat)] rfl rfl (Nat.le_of_ble_eq_true rfl) (Nat.le_of_ble_eq_true rfl) rfl (sp_133 (h := h4) hG4) (CLd_le (Nat.le_of_ble_eq_true rfl) (ctX7_waysBehind hSP hG4 (s := k) (l := l) (PT_F hF4 (by decide) hP) (by omega) (by omega))) ?_
            rintro v9 h9 ⟨e9, rfl⟩
            rw [e9]
            clear e9
            rw [show s3 (fun p : Int => gj h4 (136 + (k + 1).toNat) p.toNat) l 2 = s3 (cwF (fun k : Int => gi h 134 k.toNat) last (last - (k + 1)).toNat) l 2 from s3_ext fun q q0 q8 => t4 (k + 1) q (by omega) q0 q8 (by omega) (Or.inl (by omega))]
            refine x_lastore 73 hK rfl rfl (shx (h := h4) hG4 (r := 50) (pt_r1 _ (by omega)) rfl) (by omega) (by omega) (by omega) ?_
            refine x_iinc 76 hK rfl rfl (lk1_n l3 (by decide) (Or.inl rfl)) _ rfl ?_
            refine x_goto 8 hK rfl rfl ?_
            have ce : (s3 (cwF (fun k : Int => gi h 134 k.toNat) last (last - (k + 1)).toNat) l 2) = cwF (fun k : Int => gi h 134 k.toNat) last (last - k).toNat l := by
              rw [cwF_s (by omega)]
              exact (if_pos (show gi h 134 k.toNat = -1 ∨ gi h 134 k.toNat = l by omega)).symm
            have cr : r64 (s3 (cwF (fun k : Int => gi h 134 k.toNat) last (last - (k + 1)).toNat) l 2) := by rw [ce]; have := cb (by omega); omega
            exact ih _ (by omega) (l + 1) _ _ rfl (by omega) (by omega) (tn _ cr ce) (lk1_n (lk1_n l0 (by decide) (Or.inl rfl)) (by decide) (Or.inl rfl)) (lk1_n (lk1_n l1 (by decide) (Or.inl rfl)) (by decide) (Or.inl rfl)) (lk1_n (lk1_n l2 (by decide) (Or.inl rfl)) (by decide) (Or.inl rfl)) lk1_s (GD_J (hG4)) (FRM_Jn 0 8 (hF4) (r := 50) (pt_r1 _ (by omega)) rfl rfl (by omega) (by omega))
          · refine x_lconstE 63 1 hK rfl rfl rfl ?_
            refine x_goto 72 hK rfl rfl ?_
            refine x_lastore 73 hK rfl rfl (shx (h := h4) hG4 (r := 50) (pt_r1 _ (by omega)) rfl) (by omega) (by omega) (by omega) ?_
            refine x_iinc 76 hK rfl rfl (lk1_n l3 (by decide) (Or.inl rfl)) _ rfl ?_
            refine x_goto 8 hK rfl rfl ?_
            have ce : (1 : Int) = cwF (fun k : Int => gi h 134 k.toNat) last (last - k).toNat l := by
              have c : k = last := by omega
              rw [c, show (last - last).toNat = 0 by omega]
              show (1 : Int) = if gi h 134 last.toNat = -1 ∨ gi h 134 last.toNat = l then 1 else 0
              rw [if_pos (by rw [← c]; omega)]
            exact ih _ (by omega) (l + 1) _ _ rfl (by omega) (by omega) (tn _ (by omega) ce) (lk1_n (lk1_n l0 (by decide) (Or.inl rfl)) (by decide) (Or.inl rfl)) (lk1_n (lk1_n l1 (by decide) (Or.inl rfl)) (by decide) (Or.inl rfl)) (lk1_n (lk1_n l2 (by decide) (Or.inl rfl)) (by decide) (Or.inl rfl)) lk1_s (GD_J (hG4)) (FRM_Jn 0 8 (hF4) (r := 50) (pt_r1 _ (by omega)) rfl rfl (by omega) (by omega))
        · refine x_aload_n 25 hK rfl rfl l0 ?_
          refine x_getR 28 hK rfl rfl (sp_133 (h := h4) hG4) (rf_133_1 (h := h4) hG4) ?_
          refine x_iload_n 29 hK rfl rfl l2 ?_
          refine x_ialoadE 30 hK rfl rfl (sp_134 (h := h4) hG4) (by omega) (by omega) (by omega) (e' := (gi h 134 k.toNat)) (fk) ?_
          refine x_iload_n 31 hK rfl rfl l3 ?_
          refine x_if_icmp_ne 38 34 hK rfl rfl rfl (by omega) (by omega) (fun c45 => ?_) (fun c45 => ?_)
          · refine x_iconst 39 hK rfl rfl ?_
            refine x_istore 41 hK rfl rfl _ rfl ?_
            refine x_aload_n 42 hK rfl rfl (lk1_n l0 (by decide) (Or.inl rfl)) ?_
            refine x_getR 45 hK rfl rfl (sp_133 (h := h4) hG4) (rf_133_2 (h := h4) hG4) ?_
            refine x_iload_n 46 hK rfl rfl (lk1_n l2 (by decide) (Or.inl rfl)) ?_
            refine x_aaload 47 hK rfl rfl (sp_135 (h := h4) hG4) (by decide) (by omega) (by omega) (by omega) ((PT_F hF4 (by decide) hP).1 _ (by omega)) ?_
            refine x_iload_n 48 hK rfl rfl (lk1_n l3 (by decide) (Or.inl rfl)) ?_
            refine x_iload 50 hK rfl rfl lk1_s ?_
            refine x_if_ne 57 53 hK rfl rfl rfl (by omega) (fun c => by omega) (fun _ => ?_)
            refine x_lconstE 54 0 hK rfl rfl rfl ?_
            refine x_goto 72 hK rfl rfl ?_
            refine x_lastore 73 hK rfl rfl (shx (h := h4) hG4 (r := 50) (pt_r1 _ (by omega)) rfl) (by omega) (by omega) (by omega) ?_
            refine x_iinc 76 hK rfl rfl (lk1_n l3 (by decide) (Or.inl rfl)) _ rfl ?_
            refine x_goto 8 hK rfl rfl ?_
            have ce : (0 : Int) = cwF (fun k : Int => gi h 134 k.toNat) last (last - k).toNat l := by
              by_cases c : k = last
              · rw [c, show (last - last).toNat = 0 by omega]
                show (0 : Int) = if gi h 134 last.toNat = -1 ∨ gi h 134 last.toNat = l then 1 else 0
                rw [if_neg (by rw [← c]; omega)]
              · rw [cwF_s (by omega)]
                exact (if_neg (show ¬ (gi h 134 k.toNat = -1 ∨ gi h 134 k.toNat = l) by omega)).symm
            exact ih _ (by omega) (l + 1) _ _ rfl (by omega) (by omega) (tn _ (by omega) ce) (lk1_n (lk1_n l0 (by decide) (Or.inl rfl)) (by decide) (Or.inl rfl)) (lk1_n (lk1_n l1 (by decide) (Or.inl rfl)) (by decide) (Or.inl rfl)) (lk1_n (lk1_n l2 (by decide) (Or.inl rfl)) (by decide) (Or.inl rfl)) lk1_s (GD_J (hG4)) (FRM_Jn 0 8 (hF4) (r := 50) (pt_r1 _ (by omega)) rfl rfl (by omega) (by omega))
          · refine x_iconst 35 hK rfl rfl ?_
            refine x_goto 39 hK rfl rfl ?_
            refine x_istore 41 hK rfl rfl _ rfl ?_
            refine x_aload_n 42 hK rfl rfl (lk1_n l0 (by decide) (Or.inl rfl)) ?_
            refine x_getR 45 hK rfl rfl (sp_133 (h := h4) hG4) (rf_133_2 (h := h4) hG4) ?_
            refine x_iload_n 46 hK rfl rfl (lk1_n l2 (by decide) (Or.inl rfl)) ?_
            refine x_aaload 47 hK rfl rfl (sp_135 (h := h4) hG4) (by decide) (by omega) (by omega) (by omega) ((PT_F hF4 (by decide) hP).1 _ (by omega)) ?_
            refine x_iload_n 48 hK rfl rfl (lk1_n l3 (by decide) (Or.inl rfl)) ?_
            refine x_iload 50 hK rfl rfl lk1_s ?_
            refine x_if_ne 57 53 hK rfl rfl rfl (by omega) (fun _ => ?_) (fun c => by omega)
            refine x_iload_n 58 hK rfl rfl (lk1_n l2 (by decide) (Or.inl rfl)) ?_
            refine x_iload_n 59 hK rfl rfl (lk1_n l1 (by decide) (Or.inl rfl)) ?_
            refine x_if_icmp_ne 66 62 hK rfl rfl rfl (by omega) (by omega) (fun c73 => ?_) (fun c73 => ?_)
            · refine x_aload_n 67 hK rfl rfl (lk1_n l0 (by decide) (Or.inl rfl)) ?_
              refine x_iload_n 68 hK rfl rfl (lk1_n l2 (by decide) (Or.inl rfl)) ?_
              refine x_iload_n 69 hK rfl rfl (lk1_n l3 (by decide) (Or.inl rfl)) ?_
              refine x_callV 72 hK hmono rfl rfl [.ref 133, .int (I k), .int (I l)] [.int (I l), .ref (136 + k.toNat)] rfl rfl (Nat.le_of_ble_eq_true rfl) (Nat.le_of_ble_eq_true rfl) rfl (sp_133 (h := h4) hG4) (CLd_le (Nat.le_of_ble_eq_true rfl) (ctX7_waysBehind hSP hG4 (s := k) (l := l) (PT_F hF4 (by decide) hP) (by omega) (by omega))) ?_
              rintro v9 h9 ⟨e9, rfl⟩
              rw [e9]
              clear e9
              rw [show s3 (fun p : Int => gj h4 (136 + (k + 1).toNat) p.toNat) l 2 = s3 (cwF (fun k : Int => gi h 134 k.toNat) last (last - (k + 1)).toNat) l 2 from s3_ext fun q q0 q8 => t4 (k + 1) q (by omega) q0 q8 (by omega) (Or.inl (by omega))]
              refine x_lastore 73 hK rfl rfl (shx (h := h4) hG4 (r := 50) (pt_r1 _ (by omega)) rfl) (by omega) (by omega) (by omega) ?_
              refine x_iinc 76 hK rfl rfl (lk1_n l3 (by decide) (Or.inl rfl)) _ rfl ?_
              refine x_goto 8 hK rfl rfl ?_
              have ce : (s3 (cwF (fun k : Int => gi h 134 k.toNat) last (last - (k + 1)).toNat) l 2) = cwF (fun k : Int => gi h 134 k.toNat) last (last - k).toNat l := by
                rw [cwF_s (by omega)]
                exact (if_pos (show gi h 134 k.toNat = -1 ∨ gi h 134 k.toNat = l by omega)).symm
              have cr : r64 (s3 (cwF (fun k : Int => gi h 134 k.toNat) last (last - (k + 1)).toNat) l 2) := by rw [ce]; have := cb (by omega); omega
              exact ih _ (by omega) (l + 1) _ _ rfl (by omega) (by omega) (tn _ cr ce) (lk1_n (lk1_n l0 (by decide) (Or.inl rfl)) (by decide) (Or.inl rfl)) (lk1_n (lk1_n l1 (by decide) (Or.inl rfl)) (by decide) (Or.inl rfl)) (lk1_n (lk1_n l2 (by decide) (Or.inl rfl)) (by decide) (Or.inl rfl)) lk1_s (GD_J (hG4)) (FRM_Jn 0 8 (hF4) (r := 50) (pt_r1 _ (by omega)) rfl rfl (by omega) (by omega))
            · refine x_lconstE 63 1 hK rfl rfl rfl ?_
              refine x_goto 72 hK rfl rfl ?_
              refine x_lastore 73 hK rfl rfl (shx (h := h4) hG4 (r := 50) (pt_r1 _ (by omega)) rfl) (by omega) (by omega) (by omega) ?_
              refine x_iinc 76 hK rfl rfl (lk1_n l3 (by decide) (Or.inl rfl)) _ rfl ?_
              refine x_goto 8 hK rfl rfl ?_
              have ce : (1 : Int) = cwF (fun k : Int => gi h 134 k.toNat) last (last - k).toNat l := by
                have c : k = last := by omega
                rw [c, show (last - last).toNat = 0 by omega]
                show (1 : Int) = if gi h 134 last.toNat = -1 ∨ gi h 134 last.toNat = l then 1 else 0
                rw [if_pos (by rw [← c]; omega)]
              exact ih _ (by omega) (l + 1) _ _ rfl (by omega) (by omega) (tn _ (by omega) ce) (lk1_n (lk1_n l0 (by decide) (Or.inl rfl)) (by decide) (Or.inl rfl)) (lk1_n (lk1_n l1 (by decide) (Or.inl rfl)) (by decide) (Or.inl rfl)) (lk1_n (lk1_n l2 (by decide) (Or.inl rfl)) (by decide) (Or.inl rfl)) lk1_s (GD_J (hG4)) (FRM_Jn 0 8 (hF4) (r := 50) (pt_r1 _ (by omega)) rfl rfl (by omega) (by omega))
    refine x_iload_n 3 hK rfl rfl l2 ?_
    refine x_if_lt 85 6 hK rfl rfl rfl (by omega) (fun c2 => ?_) (fun c2 => ?_)
    · obtain rfl : k = -1 := by omega
      exact x_vret hK rfl ⟨rfl, hG3, hF3, t3⟩
    · refine x_iconst 7 hK rfl rfl ?_
      refine x_istore_n 8 hK rfl rfl _ rfl ?_
      exact loopL _ 0 _ _ rfl (by omega) (by omega) (t3) (lk1_n l0 (by decide) (Or.inl rfl)) (lk1_n l1 (by decide) (Or.inl rfl)) (lk1_n l2 (by decide) (Or.inl rfl)) lk1_s (hG3) (hF3)
  refine x_iload_n 1 hK rfl rfl rfl ?_
  refine x_istore_n 2 hK rfl rfl [(2, .int (I last)), (0, .ref 133), (1, .int (I last))] rfl ?_
  exact loopK _ last _ _ rfl (by omega) ((fun k' l' y1 y2 y3 y4 y5 => absurd y5 (by omega))) rfl rfl rfl (hG) ((FRM.rf : FRM gRL [(1, 50, 0, 8)] h h))
end
section
/-! THE TEXT: sign(), end() (both), the class opens it -/
theorem I_ti (x : Int32) : I x.toInt = x := t_I x
end
section
/-! ship() OF THE CLASS -/
/-- the ship that stands, and the other one -/
noncomputable def SW (h : aH) (s t : Nat) : Prop := ((s = 5 ∧ t = 8) ∨ (s = 8 ∧ t = 5)) ∧ aR h 0 2 = some s ∧ aR h 0 3 = some t
end
