/-! THE READER OF RULES (the class): what waits; orders that are due (the reference) -/
/-- how much a sign binds -/
def rk (s : Int) : Int := if s = 42 ∨ s = 47 then 3 else if s = 43 ∨ s = 45 then 2 else if s = 60 ∨ s = 61 ∨ s = 62 then 1 else if s = 256 then 4 else 0
/-- how many brackets wait among the first n -/
def cnp (h : aH) : Nat → Int
  | 0 => 0
  | n + 1 => cnp h n + (if gi h 18 n = 40 then 1 else 0)
theorem cnp_eq {h h' : aH} : ∀ (n : Nat), (∀ j, j < n → gi h' 18 j = gi h 18 j) → cnp h' n = cnp h n
  | 0, _ => rfl
  | n + 1, e => by
    unfold cnp
    rw [cnp_eq n (fun j hj => e j (by omega)), e n (by omega)]
/-- the reader's order: waits, brackets, and that all that waits binds or is a bracket -/
def RI (h : aH) (i : Int) : Prop := 0 ≤ gi h 17 1 ∧ gi h 17 1 ≤ i ∧ cnp h (gi h 17 1).toNat = gi h 17 2 ∧ ∀ j : Nat, (j : Int) < gi h 17 1 → gi h 18 j = 40 ∨ 1 ≤ rk (gi h 18 j)
theorem rk_r (s : Int) : 0 ≤ rk s ∧ rk s ≤ 4 := by
  unfold rk
  repeat' split
  all_goals omega
theorem rk_40 {s : Int} (h : 1 ≤ rk s) : s ≠ 40 := by
  rintro rfl
  exact absurd h (by decide)
theorem ctX5_rank {SP : CT} (hSP : MONO SP) {h : aH} {s : Int} (hs : r32 s) : CLd SP 1 mX5_rank [.int (I s)] h 0 0 (fun rv h' => h' = h ∧ rv = some (.int (I (rk s)))) := by
  refine x_met _ rfl (Nat.le_of_ble_eq_true rfl) (fun K hK => ?_)
  have hmono := MONO_CLd hSP 0
  refine x_iload_n 1 hK rfl rfl rfl ?_
  refine x_lsw hK rfl (by omega) (l := [(42, 79), (43, 77), (45, 77), (47, 79), (60, 75), (61, 75), (62, 75), (256, 81)]) rfl ?_
  rw [Op.lookupswitch.offset_cons]
  by_cases e1_0 : (42 : Int) = s
  · rw [if_pos e1_0]
    show K 80 _ _ _ _ _
    refine x_iconst 81 hK rfl rfl ?_
    refine x_iret hK rfl ⟨rfl, ?_⟩
    have e9 : rk s = 3 := by
      unfold rk
      repeat' split
      all_goals omega
    rw [e9]
  rw [if_neg e1_0]
  rw [Op.lookupswitch.offset_cons]
  by_cases e1_1 : (43 : Int) = s
  · rw [if_pos e1_1]
    show K 78 _ _ _ _ _
    refine x_iconst 79 hK rfl rfl ?_
    refine x_iret hK rfl ⟨rfl, ?_⟩
    have e9 : rk s = 2 := by
      unfold rk
      repeat' split
      all_goals omega
    rw [e9]
  rw [if_neg e1_1]
  rw [Op.lookupswitch.offset_cons]
  by_cases e1_2 : (45 : Int) = s
  · rw [if_pos e1_2]
    show K 78 _ _ _ _ _
    refine x_iconst 79 hK rfl rfl ?_
    refine x_iret hK rfl ⟨rfl, ?_⟩
    have e9 : rk s = 2 := by
      unfold rk
      repeat' split
      all_goals omega
    rw [e9]
  rw [if_neg e1_2]
  rw [Op.lookupswitch.offset_cons]
  by_cases e1_3 : (47 : Int) = s
  · rw [if_pos e1_3]
    show K 80 _ _ _ _ _
    refine x_iconst 81 hK rfl rfl ?_
    refine x_iret hK rfl ⟨rfl, ?_⟩
    have e9 : rk s = 3 := by
      unfold rk
      repeat' split
      all_goals omega
    rw [e9]
  rw [if_neg e1_3]
  rw [Op.lookupswitch.offset_cons]
  by_cases e1_4 : (60 : Int) = s
  · rw [if_pos e1_4]
    show K 76 _ _ _ _ _
    refine x_iconst 77 hK rfl rfl ?_
    refine x_iret hK rfl ⟨rfl, ?_⟩
    have e9 : rk s = 1 := by
      unfold rk
      repeat' split
      all_goals omega
    rw [e9]
  rw [if_neg e1_4]
  rw [Op.lookupswitch.offset_cons]
  by_cases e1_5 : (61 : Int) = s
  · rw [if_pos e1_5]
    show K 76 _ _ _ _ _
    refine x_iconst 77 hK rfl rfl ?_
    refine x_iret hK rfl ⟨rfl, ?_⟩
    have e9 : rk s = 1 := by
      unfold rk
      repeat' split
      all_goals omega
    rw [e9]
  rw [if_neg e1_5]
  rw [Op.lookupswitch.offset_cons]
  by_cases e1_6 : (62 : Int) = s
  · rw [if_pos e1_6]
    show K 76 _ _ _ _ _
    refine x_iconst 77 hK rfl rfl ?_
    refine x_iret hK rfl ⟨rfl, ?_⟩
    have e9 : rk s = 1 := by
      unfold rk
      repeat' split
      all_goals omega
    rw [e9]
  rw [if_neg e1_6]
  rw [Op.lookupswitch.offset_cons]
  by_cases e1_7 : (256 : Int) = s
  · rw [if_pos e1_7]
    show K 82 _ _ _ _ _
    refine x_iconst 83 hK rfl rfl ?_
    refine x_iret hK rfl ⟨rfl, ?_⟩
    have e9 : rk s = 4 := by
      unfold rk
      repeat' split
      all_goals omega
    rw [e9]
  rw [if_neg e1_7]
  show K 84 _ _ _ _ _
  refine x_iconst 85 hK rfl rfl ?_
  refine x_iret hK rfl ⟨rfl, ?_⟩
  have e9 : rk s = 0 := by
    unfold rk
    repeat' split
    all_goals omega
  rw [e9]
theorem ctX5_hold {SP : CT} (hSP : MONO SP) {sh : List (Nat × Nat)} {h : aH} (hG : GD gE gRL sh h) {v : Int} (hv : r32 v) (hw : 0 ≤ gi h 17 1 ∧ gi h 17 1 < 40) : CLd SP 1 mX5_hold [.ref 17, .int (I v)] h 0 0 (fun rv h' => rv = none ∧ GD gE gRL sh h' ∧ FRM gRL [(0, 11, 1, 1), (0, 12, 0, 39)] h h' ∧ gi h' 17 1 = gi h 17 1 + 1 ∧ gi h' 18 (gi h 17 1).toNat = v ∧ ∀ j, j ≠ (gi h 17 1).toNat → gi h' 18 j = gi h 18 j) := by
  refine x_met _ rfl (Nat.le_of_ble_eq_true rfl) (fun K hK => ?_)
  have hmono := MONO_CLd hSP 0
  refine x_aload_n 1 hK rfl rfl rfl ?_
  refine x_getE 4 hK rfl (Or.inl rfl) rfl (sp_17 (h := h) hG) (e := (gi h 17 1)) (rfl) ?_
  refine x_bipush 6 hK rfl rfl rfl ?_
  refine x_if_icmp_ge 29 9 hK rfl rfl rfl (by omega) (by omega) (fun c4 => ?_) (fun c4 => ?_)
  · omega
  · refine x_aload_n 10 hK rfl rfl rfl ?_
    refine x_getR 13 hK rfl rfl (sp_17 (h := h) hG) (rf_17_0 (h := h) hG) ?_
    refine x_aload_n 14 hK rfl rfl rfl ?_
    refine x_getE 17 hK rfl (Or.inl rfl) rfl (sp_17 (h := h) hG) (e := (gi h 17 1)) (rfl) ?_
    refine x_iload_n 18 hK rfl rfl rfl ?_
    refine x_iastore 19 hK rfl rfl (sp_18 (h := h) hG) (by omega) (by omega) (by omega) ?_
    refine x_aload_n 20 hK rfl rfl rfl ?_
    refine x_dup 21 hK rfl rfl rfl ?_
    refine x_getE 24 hK rfl (Or.inl rfl) rfl (sp_17 (h := h) hG) (e := (gi h 17 1)) (gi_a (by decide) _) ?_
    refine x_iconst 25 hK rfl rfl ?_
    refine x_iadd 26 hK rfl rfl ?_
    refine x_putI 29 hK rfl rfl (sp_17 (h := h) hG) ?_
    exact x_vret hK rfl ⟨rfl, GD_w1 (GD_wn (hG) (r := 12) rfl rfl) (r := 11) rfl (by omega) rfl (by omega) (by omega), FRM_w (FRM_wn 0 39 (FRM.rf) (r := 12) rfl rfl rfl (by omega) (by omega)) (r := 11) rfl rfl, gi_same (by omega), (gi_a (by decide) _).trans (gi_same hv), fun j hj => (gi_a (by decide) _).trans (gi_k hj _)⟩
theorem ctX5_release {SP : CT} (hSP : MONO SP) {sh : List (Nat × Nat)} {h : aH} (hG : GD gE gRL sh h) {r i : Int} {b : Nat} (hX : XI h) (hr : 1 ≤ r ∧ r ≤ 4) (hb : gRL[b]? = some 8) (hI : RI h i) (hi : i ≤ 40) : CLd SP 3 mX5_release [.ref 17, .int (I r), .ref b] h 0 0 (fun rv h' => rv = none ∧ GD gE gRL sh h' ∧ FRM gRL [(0, 8, 1, 1), (0, 9, 0, 39), (0, 11, 1, 1)] h h' ∧ RI h' i ∧ gi h' 17 2 = gi h 17 2 ∧ (gi h' 17 1 = 0 ∨ rk (gi h' 18 (gi h' 17 1 - 1).toNat) < r)) := by
  refine x_met _ rfl (Nat.le_of_ble_eq_true rfl) (fun K hK => ?_)
  have hmono := MONO_CLd hSP 2
  have loop : ∀ (m : Nat) (h1 : aH), ((gi h1 17 1).toNat = m) → RI h1 i → gi h1 17 2 = gi h 17 2 → GD gE gRL sh h1 → FRM gRL [(0, 8, 1, 1), (0, 9, 0, 39), (0, 11, 1, 1)] h h1 → K 0 [(0, .ref 17), (1, .int (I r)), (2, .ref b)] [] h1 0 0 := by
    intro m
    induction m using Nat.strongRecOn with
    | ind m ih =>
    intro h1 hm hI1 hd hG1 hF
    have hI2 := hI1
    obtain ⟨i1, i2, i3, i4⟩ := hI1
    have hX1 : XI h1 := xOk_ok rfl h h1 hF hX
    have gr := gi_r h1
    refine x_aload_n 1 hK rfl rfl rfl ?_
    refine x_getE 4 hK rfl (Or.inl rfl) rfl (sp_17 (h := h1) hG1) (e := (gi h1 17 1)) (rfl) ?_
    refine x_if_le 52 7 hK rfl rfl rfl (by omega) (fun c3 => ?_) (fun c3 => ?_)
    · refine x_vret hK rfl ⟨rfl, hG1, hF, hI2, hd, by omega⟩
    · refine x_aload_n 8 hK rfl rfl rfl ?_
      refine x_getR 11 hK rfl rfl (sp_17 (h := h1) hG1) (rf_17_0 (h := h1) hG1) ?_
      refine x_aload_n 12 hK rfl rfl rfl ?_
      refine x_getE 15 hK rfl (Or.inl rfl) rfl (sp_17 (h := h1) hG1) (e := (gi h1 17 1)) (rfl) ?_
      refine x_iconst 16 hK rfl rfl ?_
      refine x_isub 17 hK rfl rfl ?_
      refine x_ialoadE 18 hK rfl rfl (sp_18 (h := h1) hG1) (by omega) (by omega) (by omega) (e' := (gi h1 18 ((gi h1 17 1) - 1).toNat)) (rfl) ?_
      have rr := rk_r (gi h1 18 (gi h1 17 1 - 1).toNat)
      refine x_callS 21 hK hmono rfl (Or.inl rfl) rfl [.int (I (gi h1 18 ((gi h1 17 1) - 1).toNat))] [] rfl rfl (Nat.le_of_ble_eq_true rfl) (Nat.le_of_ble_eq_true rfl) (CLd_le (Nat.le_of_ble_eq_true rfl) (ctX5_rank hSP (gr 18 _))) ?_
      rintro v9 h9 ⟨e9, rfl⟩
      rw [e9]
      clear e9
      refine x_iload_n 22 hK rfl rfl rfl ?_
      refine x_if_icmp_lt 52 25 hK rfl rfl rfl (by omega) (by omega) (fun c14 => ?_) (fun c14 => ?_)
      · refine x_vret hK rfl ⟨rfl, hG1, hF, hI2, hd, by omega⟩
      · refine x_aload_n 26 hK rfl rfl rfl ?_
        refine x_dup 27 hK rfl rfl rfl ?_
        refine x_getE 30 hK rfl (Or.inl rfl) rfl (sp_17 (h := h1) hG1) (e := (gi h1 17 1)) (rfl) ?_
        refine x_iconst 31 hK rfl rfl ?_
        refine x_isub 32 hK rfl rfl ?_
        refine x_putI 35 hK rfl rfl (sp_17 (h := h1) hG1) ?_
        refine x_aload_n 36 hK rfl rfl rfl ?_
        refine x_aload_n 37 hK rfl rfl rfl ?_
        refine x_getR 40 hK rfl rfl (sp_17 (h := h1) hG1) (rf_17_0 (h := h1) hG1) ?_
        refine x_aload_n 41 hK rfl rfl rfl ?_
        refine x_getE 44 hK rfl (Or.inl rfl) rfl (sp_17 (h := h1) hG1) (e := ((gi h1 17 1) - 1)) (gi_same (by omega)) ?_
        refine x_ialoadE 45 hK rfl rfl (sp_18 (h := h1) hG1) (by omega) (by omega) (by omega) (e' := (gi h1 18 ((gi h1 17 1) - 1).toNat)) (gi_a (by decide) _) ?_
        refine x_ineg 46 hK rfl rfl ?_
        have e2 : gi (wI h1 17 1 (gi h1 17 1 - 1)) 17 1 = gi h1 17 1 - 1 := gi_same (by omega)
        have hG2 : GD gE gRL sh (wI h1 17 1 (gi h1 17 1 - 1)) := GD_w1 (hG1) (r := 11) rfl (by omega) rfl (by omega) (by omega)
        have hX2 : XI (wI h1 17 1 (gi h1 17 1 - 1)) := xOk_ok (M := [(0, 8, 1, 1), (0, 9, 0, 39), (0, 11, 1, 1)]) rfl h1 _ (FRM_w (FRM.rf) (r := 11) rfl rfl) hX1
        refine x_callV 49 hK hmono rfl rfl [.ref b, .int (I (-(gi h1 18 ((gi h1 17 1) - 1).toNat)))] [] rfl rfl (Nat.le_of_ble_eq_true rfl) (Nat.le_of_ble_eq_true rfl) rfl (shx (h := h1) hG1 hb rfl) (CLd_le (Nat.le_of_ble_eq_true rfl) (kX4_add_0 hSP [.ref b, .int (I (-(gi h1 18 ((gi h1 17 1) - 1).toNat)))] _ hX2 ⟨gv_r (by decide) hb, ⟨_, rfl, i32_lo _, i32_hi _, trivial⟩, trivial⟩ hG2 gov_n)) ?_
        rintro v9 h9 ⟨hG9, hF9, o9, m9, q9, -, -⟩
        have e9 : v9 = none := by
          simp only [sX4_add_0, List.mem_cons, List.not_mem_nil, or_false] at m9
          first | (rcases m9 with rfl | rfl <;> exact QS_v q9) | (rw [m9] at q9; exact QS_v q9)
        subst e9
        have w9 : gi h9 17 1 = gi h1 17 1 - 1 := (FRM_gi hF9 (r := 11) rfl rfl).trans e2
        have d9 : gi h9 17 2 = gi h1 17 2 := (FRM_gi hF9 (r := 11) rfl rfl).trans (gi_k (by decide) _)
        have g9 : ∀ j, gi h9 18 j = gi h1 18 j := fun j => (FRM_gi hF9 (r := 12) rfl rfl).trans (gi_a (by decide) _)
        refine x_goto 0 hK rfl rfl ?_
        refine ih _ (by omega) h9 rfl ⟨by omega, by omega, ?_, fun j hj => ?_⟩ (d9.trans hd) hG9 (hF.trans (FRM.trans (FRM_w FRM.rf (r := 11) rfl rfl) (hF9.mono rfl)))
        · rw [d9, ← i3, cnp_eq _ (fun j _ => g9 j), w9]
          have e5 : (gi h1 17 1).toNat = (gi h1 17 1 - 1).toNat + 1 := by omega
          rw [e5]
          show _ = cnp h1 _ + _
          rw [if_neg (rk_40 (by omega))]
          omega
        · rw [g9]; exact i4 j (by omega)
  exact loop _ h rfl hI rfl hG FRM.rf
theorem RI_hold {h h' : aH} {i v : Int} (hI : RI h i) (h1 : gi h' 17 1 = gi h 17 1 + 1) (h2 : gi h' 18 (gi h 17 1).toNat = v) (h3 : ∀ j, j ≠ (gi h 17 1).toNat → gi h' 18 j = gi h 18 j) (hd : gi h' 17 2 = gi h 17 2 + (if v = 40 then 1 else 0)) (hv : v = 40 ∨ 1 ≤ rk v) : RI h' (i + 1) := by
  obtain ⟨i1, i2, i3, i4⟩ := hI
  have e5 : (gi h' 17 1).toNat = (gi h 17 1).toNat + 1 := by omega
  refine ⟨by omega, by omega, ?_, fun j hj => ?_⟩
  · rw [e5]
    show cnp h' _ + _ = _
    rw [cnp_eq _ (fun j hj => h3 j (by omega)), h2, i3, hd]
  · by_cases e : j = (gi h 17 1).toNat
    · rw [e, h2]; exact hv
    · rw [h3 j e]; exact i4 j (by omega)
theorem RI_same {h h' : aH} {i j : Int} (hI : RI h i) (hij : i ≤ j) (h1 : gi h' 17 1 = gi h 17 1) (h2 : gi h' 17 2 = gi h 17 2) (h3 : ∀ j, gi h' 18 j = gi h 18 j) : RI h' j := by
  obtain ⟨i1, i2, i3, i4⟩ := hI
  refine ⟨by omega, by omega, ?_, fun k hk => ?_⟩
  · rw [h1, h2, cnp_eq _ (fun k _ => h3 k)]; exact i3
  · rw [h3]; exact i4 k (by omega)
theorem ctX5_takeThing {SP : CT} (hSP : MONO SP) {sh : List (Nat × Nat)} {h : aH} (hG : GD gE gRL sh h) {i : Int} {b : Nat} (hX : XI h) (hb : gRL[b]? = some 8) (hI : RI h i) (hi : i < 40) : CLd SP 6 mX5_takeThing [.ref 17, .ref 1, .ref b] h 0 0 (fun rv h' => (∃ e, rv = some (.int (I e)) ∧ (e = 0 ∨ e = 1)) ∧ GD gE gRL sh h' ∧ FRM gRL [(0, 1, 2, 2), (0, 1, 5, 5), (0, 8, 1, 1), (0, 9, 0, 39), (0, 11, 1, 4), (0, 12, 0, 39)] h h' ∧ RI h' (i + 1)) := by
  refine x_met _ rfl (Nat.le_of_ble_eq_true rfl) (fun K hK => ?_)
  have hmono := MONO_CLd hSP 5
  have hI2 := hI
  obtain ⟨i1, i2, i3, i4⟩ := hI
  have fr1 := fx_r hG (gi h 1 2)
  have gd := gri 0 4 hG (a := 17) (r := 11) (k := 2) rfl rfl
  refine x_aload_n 1 hK rfl rfl rfl ?_
  refine x_callV 4 hK hmono rfl rfl [.ref 1] [] rfl rfl (Nat.le_of_ble_eq_true rfl) (Nat.le_of_ble_eq_true rfl) rfl (sp_1 (h := h) hG) (CLd_le (Nat.le_of_ble_eq_true rfl) (ctX9_next hSP hG)) ?_
  rintro v9 h9 ⟨e9, rfl⟩
  rw [e9]
  clear e9
  generalize fx h (gi h 1 2) = s at *
  refine x_istore_n 5 hK rfl rfl [(3, .int (I s)), (0, .ref 17), (1, .ref 1), (2, .ref b)] rfl ?_
  refine x_iload_n 6 hK rfl rfl rfl ?_
  refine x_callS 9 hK hmono rfl (Or.inr rfl) rfl [.int (I s)] [] rfl rfl (Nat.le_of_ble_eq_true rfl) (Nat.le_of_ble_eq_true rfl) (CLd_le (Nat.le_of_ble_eq_true rfl) (ctX10_isDigit hSP (by omega))) ?_
  rintro v9 h9 ⟨e9, ⟨rfl, d1, d2⟩ | ⟨rfl, d1⟩⟩ <;> rw [e9] <;> clear e9
  · refine x_if_eq 28 12 hK rfl rfl rfl (by omega) (fun c => by omega) (fun _ => ?_)
    refine x_aload_n 13 hK rfl rfl rfl ?_
    refine x_aload_n 14 hK rfl rfl rfl ?_
    refine x_iconst 15 hK rfl rfl ?_
    refine x_callV 18 hK hmono rfl rfl [.ref 1, .int (I 3)] [.ref b] rfl rfl (Nat.le_of_ble_eq_true rfl) (Nat.le_of_ble_eq_true rfl) rfl (sp_1 (h := h) hG) (CLd_le (Nat.le_of_ble_eq_true rfl) (ctX9_takeNumber hSP hG (by omega))) ?_
    rintro v9 h9 ⟨⟨w, rfl, -, hw⟩, hG9, hF9, -⟩
    have hX9 : XI h9 := xOk_ok rfl h h9 hF9 hX
    refine x_callV 21 hK hmono rfl rfl [.ref b, .int (I w)] [] rfl rfl (Nat.le_of_ble_eq_true rfl) (Nat.le_of_ble_eq_true rfl) rfl (shx (h := h9) hG9 hb rfl) (CLd_le (Nat.le_of_ble_eq_true rfl) (kX4_add_0 hSP [.ref b, .int (I w)] _ hX9 ⟨gv_r (by decide) hb, ⟨_, rfl, i32_lo _, i32_hi _, trivial⟩, trivial⟩ hG9 gov_n)) ?_
    rintro v8 h8 ⟨hG8, hF8, o8, m8, q8, -, -⟩
    have e8 : v8 = none := by
      simp only [sX4_add_0, List.mem_cons, List.not_mem_nil, or_false] at m8
      first | (rcases m8 with rfl | rfl <;> exact QS_v q8) | (rw [m8] at q8; exact QS_v q8)
    subst e8
    have w8 : ∀ k, gi h8 17 k = gi h 17 k := fun k => (FRM_gi hF8 (r := 11) rfl rfl).trans (FRM_gi hF9 (r := 11) rfl rfl)
    have z8 : ∀ k, gi h8 18 k = gi h 18 k := fun k => (FRM_gi hF8 (r := 12) rfl rfl).trans (FRM_gi hF9 (r := 12) rfl rfl)
    replace hF8 : FRM gRL [(0, 1, 2, 2), (0, 1, 5, 5), (0, 8, 1, 1), (0, 9, 0, 39), (0, 11, 1, 4), (0, 12, 0, 39)] h h8 := (hF9.mono rfl).trans (hF8.mono rfl)
    refine x_aload_n 22 hK rfl rfl rfl ?_
    refine x_iconst 23 hK rfl rfl ?_
    refine x_putZ 26 hK rfl rfl (sp_17 (h := h8) hG8) (by omega) ?_
    refine x_iconst 27 hK rfl rfl ?_
    have y1 : ∀ k, gi (wI h8 17 4 0) 18 k = gi h8 18 k := fun k => gi_a (by decide) _
    have y2 : gi (wI h8 17 4 0) 17 1 = gi h8 17 1 := gi_k (by decide) _
    have y3 : gi (wI h8 17 4 0) 17 2 = gi h8 17 2 := gi_k (by decide) _
    exact x_zret hK rfl (by omega) ⟨⟨_, rfl, by omega⟩, GD_w1 (hG8) (r := 11) rfl (by omega) rfl (by omega) (by omega), FRM_w (hF8) (r := 11) rfl rfl, RI_same hI2 (by omega) (y2.trans (w8 1)) (y3.trans (w8 2)) fun k => (y1 k).trans (z8 k)⟩
  · refine x_if_eq 28 12 hK rfl rfl rfl (by omega) (fun _ => ?_) (fun c => by omega)
    refine x_iload_n 29 hK rfl rfl rfl ?_
    refine x_bipush 31 hK rfl rfl rfl ?_
    refine x_if_icmp_eq 52 34 hK rfl rfl rfl (by omega) (by omega) (fun c20 => ?_) (fun c20 => ?_)
    · refine x_aload_n 53 hK rfl rfl rfl ?_
      refine x_iload_n 54 hK rfl rfl rfl ?_
      refine x_ineg 55 hK rfl rfl ?_
      refine x_callV 58 hK hmono rfl rfl [.ref b, .int (I (-s))] [] rfl rfl (Nat.le_of_ble_eq_true rfl) (Nat.le_of_ble_eq_true rfl) rfl (shx (h := h) hG hb rfl) (CLd_le (Nat.le_of_ble_eq_true rfl) (kX4_add_0 hSP [.ref b, .int (I (-s))] _ hX ⟨gv_r (by decide) hb, ⟨_, rfl, i32_lo _, i32_hi _, trivial⟩, trivial⟩ hG gov_n)) ?_
      rintro v8 h8 ⟨hG8, hF8, o8, m8, q8, -, -⟩
      have e8 : v8 = none := by
        simp only [sX4_add_0, List.mem_cons, List.not_mem_nil, or_false] at m8
        first | (rcases m8 with rfl | rfl <;> exact QS_v q8) | (rw [m8] at q8; exact QS_v q8)
      subst e8
      have w8 : ∀ k, gi h8 17 k = gi h 17 k := fun k => FRM_gi hF8 (r := 11) rfl rfl
      have z8 : ∀ k, gi h8 18 k = gi h 18 k := fun k => FRM_gi hF8 (r := 12) rfl rfl
      replace hF8 : FRM gRL [(0, 1, 2, 2), (0, 1, 5, 5), (0, 8, 1, 1), (0, 9, 0, 39), (0, 11, 1, 4), (0, 12, 0, 39)] h h8 := hF8.mono rfl
      refine x_aload_n 59 hK rfl rfl rfl ?_
      refine x_iconst 60 hK rfl rfl ?_
      refine x_putZ 63 hK rfl rfl (sp_17 (h := h8) hG8) (by omega) ?_
      refine x_goto 133 hK rfl rfl ?_
      refine x_aload_n 134 hK rfl rfl rfl ?_
      refine x_dup 135 hK rfl rfl rfl ?_
      refine x_getE 138 hK rfl (Or.inl rfl) rfl (sp_1 (h := h8) hG8) (e := (gi h8 1 2)) (gi_a (by decide) _) ?_
      refine x_iconst 139 hK rfl rfl ?_
      refine x_iadd 140 hK rfl rfl ?_
      refine x_putI 143 hK rfl rfl (sp_1 (h := h8) hG8) ?_
      refine x_iconst 144 hK rfl rfl ?_
      have y1 : ∀ k, gi (wI (wI h8 17 4 0) 1 2 ((gi h8 1 2) + 1)) 18 k = gi h8 18 k := fun k => (gi_a (by decide) _).trans (gi_a (by decide) _)
      have y2 : gi (wI (wI h8 17 4 0) 1 2 ((gi h8 1 2) + 1)) 17 1 = gi h8 17 1 := (gi_a (by decide) _).trans (gi_k (by decide) _)
      have y3 : gi (wI (wI h8 17 4 0) 1 2 ((gi h8 1 2) + 1)) 17 2 = gi h8 17 2 := (gi_a (by decide) _).trans (gi_k (by decide) _)
      exact x_zret hK rfl (by omega) ⟨⟨_, rfl, by omega⟩, GD_w0 (GD_w1 (hG8) (r := 11) rfl (by omega) rfl (by omega) (by omega)) (r := 1) rfl rfl, FRM_w (FRM_w (hF8) (r := 11) rfl rfl) (r := 1) rfl rfl, RI_same hI2 (by omega) (y2.trans (w8 1)) (y3.trans (w8 2)) fun k => (y1 k).trans (z8 k)⟩
    · refine x_iload_n 35 hK rfl rfl rfl ?_
      refine x_bipush 37 hK rfl rfl rfl ?_
      refine x_if_icmp_eq 52 40 hK rfl rfl rfl (by omega) (by omega) (fun c39 => ?_) (fun c39 => ?_)
      · refine x_aload_n 53 hK rfl rfl rfl ?_
        refine x_iload_n 54 hK rfl rfl rfl ?_
        refine x_ineg 55 hK rfl rfl ?_
        refine x_callV 58 hK hmono rfl rfl [.ref b, .int (I (-s))] [] rfl rfl (Nat.le_of_ble_eq_true rfl) (Nat.le_of_ble_eq_true rfl) rfl (shx (h := h) hG hb rfl) (CLd_le (Nat.le_of_ble_eq_true rfl) (kX4_add_0 hSP [.ref b, .int (I (-s))] _ hX ⟨gv_r (by decide) hb, ⟨_, rfl, i32_lo _, i32_hi _, trivial⟩, trivial⟩ hG gov_n)) ?_
        rintro v8 h8 ⟨hG8, hF8, o8, m8, q8, -, -⟩
        have e8 : v8 = none := by
          simp only [sX4_add_0, List.mem_cons, List.not_mem_nil, or_false] at m8
          first | (rcases m8 with rfl | rfl <;> exact QS_v q8) | (rw [m8] at q8; exact QS_v q8)
        subst e8
        have w8 : ∀ k, gi h8 17 k = gi h 17 k := fun k => FRM_gi hF8 (r := 11) rfl rfl
        have z8 : ∀ k, gi h8 18 k = gi h 18 k := fun k => FRM_gi hF8 (r := 12) rfl rfl
        replace hF8 : FRM gRL [(0, 1, 2, 2), (0, 1, 5, 5), (0, 8, 1, 1), (0, 9, 0, 39), (0, 11, 1, 4), (0, 12, 0, 39)] h h8 := hF8.mono rfl
        refine x_aload_n 59 hK rfl rfl rfl ?_
        refine x_iconst 60 hK rfl rfl ?_
        refine x_putZ 63 hK rfl rfl (sp_17 (h := h8) hG8) (by omega) ?_
        refine x_goto 133 hK rfl rfl ?_
        refine x_aload_n 134 hK rfl rfl rfl ?_
        refine x_dup 135 hK rfl rfl rfl ?_
        refine x_getE 138 hK rfl (Or.inl rfl) rfl (sp_1 (h := h8) hG8) (e := (gi h8 1 2)) (gi_a (by decide) _) ?_
        refine x_iconst 139 hK rfl rfl ?_
        refine x_iadd 140 hK rfl rfl ?_
        refine x_putI 143 hK rfl rfl (sp_1 (h := h8) hG8) ?_
        refine x_iconst 144 hK rfl rfl ?_
        have y1 : ∀ k, gi (wI (wI h8 17 4 0) 1 2 ((gi h8 1 2) + 1)) 18 k = gi h8 18 k := fun k => (gi_a (by decide) _).trans (gi_a (by decide) _)
        have y2 : gi (wI (wI h8 17 4 0) 1 2 ((gi h8 1 2) + 1)) 17 1 = gi h8 17 1 := (gi_a (by decide) _).trans (gi_k (by decide) _)
        have y3 : gi (wI (wI h8 17 4 0) 1 2 ((gi h8 1 2) + 1)) 17 2 = gi h8 17 2 := (gi_a (by decide) _).trans (gi_k (by decide) _)
        exact x_zret hK rfl (by omega) ⟨⟨_, rfl, by omega⟩, GD_w0 (GD_w1 (hG8) (r := 11) rfl (by omega) rfl (by omega) (by omega)) (r := 1) rfl rfl, FRM_w (FRM_w (hF8) (r := 11) rfl rfl) (r := 1) rfl rfl, RI_same hI2 (by omega) (y2.trans (w8 1)) (y3.trans (w8 2)) fun k => (y1 k).trans (z8 k)⟩
      · refine x_iload_n 41 hK rfl rfl rfl ?_
        refine x_bipush 43 hK rfl rfl rfl ?_
        refine x_if_icmp_eq 52 46 hK rfl rfl rfl (by omega) (by omega) (fun c58 => ?_) (fun c58 => ?_)
        · refine x_aload_n 53 hK rfl rfl rfl ?_
          refine x_iload_n 54 hK rfl rfl rfl ?_
          refine x_ineg 55 hK rfl rfl ?_
          refine x_callV 58 hK hmono rfl rfl [.ref b, .int (I (-s))] [] rfl rfl (Nat.le_of_ble_eq_true rfl) (Nat.le_of_ble_eq_true rfl) rfl (shx (h := h) hG hb rfl) (CLd_le (Nat.le_of_ble_eq_true rfl) (kX4_add_0 hSP [.ref b, .int (I (-s))] _ hX ⟨gv_r (by decide) hb, ⟨_, rfl, i32_lo _, i32_hi _, trivial⟩, trivial⟩ hG gov_n)) ?_
          rintro v8 h8 ⟨hG8, hF8, o8, m8, q8, -, -⟩
          have e8 : v8 = none := by
            simp only [sX4_add_0, List.mem_cons, List.not_mem_nil, or_false] at m8
            first | (rcases m8 with rfl | rfl <;> exact QS_v q8) | (rw [m8] at q8; exact QS_v q8)
          subst e8
          have w8 : ∀ k, gi h8 17 k = gi h 17 k := fun k => FRM_gi hF8 (r := 11) rfl rfl
          have z8 : ∀ k, gi h8 18 k = gi h 18 k := fun k => FRM_gi hF8 (r := 12) rfl rfl
          replace hF8 : FRM gRL [(0, 1, 2, 2), (0, 1, 5, 5), (0, 8, 1, 1), (0, 9, 0, 39), (0, 11, 1, 4), (0, 12, 0, 39)] h h8 := hF8.mono rfl
          refine x_aload_n 59 hK rfl rfl rfl ?_
          refine x_iconst 60 hK rfl rfl ?_
          refine x_putZ 63 hK rfl rfl (sp_17 (h := h8) hG8) (by omega) ?_
          refine x_goto 133 hK rfl rfl ?_
          refine x_aload_n 134 hK rfl rfl rfl ?_
          refine x_dup 135 hK rfl rfl rfl ?_
          refine x_getE 138 hK rfl (Or.inl rfl) rfl (sp_1 (h := h8) hG8) (e := (gi h8 1 2)) (gi_a (by decide) _) ?_
          refine x_iconst 139 hK rfl rfl ?_
          refine x_iadd 140 hK rfl rfl ?_
          refine x_putI 143 hK rfl rfl (sp_1 (h := h8) hG8) ?_
          refine x_iconst 144 hK rfl rfl ?_
          have y1 : ∀ k, gi (wI (wI h8 17 4 0) 1 2 ((gi h8 1 2) + 1)) 18 k = gi h8 18 k := fun k => (gi_a (by decide) _).trans (gi_a (by decide) _)
          have y2 : gi (wI (wI h8 17 4 0) 1 2 ((gi h8 1 2) + 1)) 17 1 = gi h8 17 1 := (gi_a (by decide) _).trans (gi_k (by decide) _)
          have y3 : gi (wI (wI h8 17 4 0) 1 2 ((gi h8 1 2) + 1)) 17 2 = gi h8 17 2 := (gi_a (by decide) _).trans (gi_k (by decide) _)
          exact x_zret hK rfl (by omega) ⟨⟨_, rfl, by omega⟩, GD_w0 (GD_w1 (hG8) (r := 11) rfl (by omega) rfl (by omega) (by omega)) (r := 1) rfl rfl, FRM_w (FRM_w (hF8) (r := 11) rfl rfl) (r := 1) rfl rfl, RI_same hI2 (by omega) (y2.trans (w8 1)) (y3.trans (w8 2)) fun k => (y1 k).trans (z8 k)⟩
        · refine x_iload_n 47 hK rfl rfl rfl ?_
          refine x_bipush 49 hK rfl rfl rfl ?_
          refine x_if_icmp_ne 66 52 hK rfl rfl rfl (by omega) (by omega) (fun c77 => ?_) (fun c77 => ?_)
          · refine x_iload_n 67 hK rfl rfl rfl ?_
            refine x_bipush 69 hK rfl rfl rfl ?_
            refine x_if_icmp_ne 82 72 hK rfl rfl rfl (by omega) (by omega) (fun c80 => ?_) (fun c80 => ?_)
            · refine x_iload_n 83 hK rfl rfl rfl ?_
              refine x_bipush 85 hK rfl rfl rfl ?_
              refine x_if_icmp_ne 131 88 hK rfl rfl rfl (by omega) (by omega) (fun c83 => ?_) (fun c83 => ?_)
              · refine x_iconst 132 hK rfl rfl ?_
                exact x_zret hK rfl (by omega) ⟨⟨_, rfl, by omega⟩, hG, FRM.rf, RI_same hI2 (by omega) rfl rfl fun _ => rfl⟩
              · refine x_aload_n 89 hK rfl rfl rfl ?_
                refine x_getE 92 hK rfl (Or.inl rfl) rfl (sp_17 (h := h) hG) (e := (gi h 17 2)) (rfl) ?_
                refine x_iconst 93 hK rfl rfl ?_
                refine x_if_icmp_ge 131 96 hK rfl rfl rfl (by omega) (by omega) (fun c89 => ?_) (fun c89 => ?_)
                · refine x_iconst 132 hK rfl rfl ?_
                  exact x_zret hK rfl (by omega) ⟨⟨_, rfl, by omega⟩, hG, FRM.rf, RI_same hI2 (by omega) rfl rfl fun _ => rfl⟩
                · refine x_aload_n 97 hK rfl rfl rfl ?_
                  refine x_dup 98 hK rfl rfl rfl ?_
                  refine x_getE 101 hK rfl (Or.inl rfl) rfl (sp_17 (h := h) hG) (e := (gi h 17 2)) (rfl) ?_
                  refine x_iconst 102 hK rfl rfl ?_
                  refine x_iadd 103 hK rfl rfl ?_
                  refine x_putI 106 hK rfl rfl (sp_17 (h := h) hG) ?_
                  refine x_aload_n 107 hK rfl rfl rfl ?_
                  refine x_dup 108 hK rfl rfl rfl ?_
                  refine x_getE 111 hK rfl (Or.inl rfl) rfl (sp_17 (h := h) hG) (e := (gi h 17 3)) (gi_k (by decide) _) ?_
                  refine x_iconst 112 hK rfl rfl ?_
                  refine x_aload_n 113 hK rfl rfl rfl ?_
                  refine x_getE 116 hK rfl (Or.inl rfl) rfl (sp_17 (h := h) hG) (e := ((gi h 17 2) + 1)) (gi_same (by omega)) ?_
                  refine x_ishlX 117 hK rfl rfl (fun q116 rq116 => ?_)
                  refine x_iconst 118 hK rfl rfl ?_
                  refine x_ixorX 119 hK rfl rfl (fun q118 rq118 => ?_)
                  refine x_iandX 120 hK rfl rfl (fun q119 rq119 => ?_)
                  refine x_putI 123 hK rfl rfl (sp_17 (h := h) hG) ?_
                  refine x_aload_n 124 hK rfl rfl rfl ?_
                  refine x_iload_n 125 hK rfl rfl rfl ?_
                  have hG5 : GD gE gRL sh (wI (wI h 17 2 ((gi h 17 2) + 1)) 17 3 q119) := GD_w0 (GD_w1 (hG) (r := 11) rfl (by omega) rfl (by omega) (by omega)) (r := 11) rfl rfl
                  have hw5 : gi (wI (wI h 17 2 ((gi h 17 2) + 1)) 17 3 q119) 17 1 = gi h 17 1 := (gi_k (by decide) _).trans (gi_k (by decide) _)
                  have z5 : ∀ k, gi (wI (wI h 17 2 ((gi h 17 2) + 1)) 17 3 q119) 18 k = gi h 18 k := fun k => (gi_a (by decide) _).trans (gi_a (by decide) _)
                  have hF5 : FRM gRL [(0, 1, 2, 2), (0, 1, 5, 5), (0, 8, 1, 1), (0, 9, 0, 39), (0, 11, 1, 4), (0, 12, 0, 39)] h (wI (wI h 17 2 ((gi h 17 2) + 1)) 17 3 q119) := FRM_w (FRM_w (FRM.rf) (r := 11) rfl rfl) (r := 11) rfl rfl
                  refine x_callV 128 hK hmono rfl rfl [.ref 17, .int (I s)] [] rfl rfl (Nat.le_of_ble_eq_true rfl) (Nat.le_of_ble_eq_true rfl) rfl (sp_17 (h := h) hG) (CLd_le (Nat.le_of_ble_eq_true rfl) (ctX5_hold hSP hG5 (by omega) (by rw [hw5]; omega))) ?_
                  rintro v8 h8 ⟨rfl, hG8, hF8, a8, b8, c8⟩
                  have d8 : gi h8 17 2 = _ := (FRM_gi hF8 (r := 11) rfl rfl).trans ((gi_k (by decide) _).trans (gi_same (by omega)))
                  rw [hw5] at a8 b8 c8
                  replace hF8 : FRM gRL [(0, 1, 2, 2), (0, 1, 5, 5), (0, 8, 1, 1), (0, 9, 0, 39), (0, 11, 1, 4), (0, 12, 0, 39)] h h8 := hF5.trans (hF8.mono rfl)
                  refine x_goto 133 hK rfl rfl ?_
                  refine x_aload_n 134 hK rfl rfl rfl ?_
                  refine x_dup 135 hK rfl rfl rfl ?_
                  refine x_getE 138 hK rfl (Or.inl rfl) rfl (sp_1 (h := h8) hG8) (e := (gi h8 1 2)) (rfl) ?_
                  refine x_iconst 139 hK rfl rfl ?_
                  refine x_iadd 140 hK rfl rfl ?_
                  refine x_putI 143 hK rfl rfl (sp_1 (h := h8) hG8) ?_
                  refine x_iconst 144 hK rfl rfl ?_
                  have y1 : ∀ k, gi (wI h8 1 2 ((gi h8 1 2) + 1)) 18 k = gi h8 18 k := fun k => gi_a (by decide) _
                  have y2 : gi (wI h8 1 2 ((gi h8 1 2) + 1)) 17 1 = gi h8 17 1 := gi_a (by decide) _
                  have y3 : gi (wI h8 1 2 ((gi h8 1 2) + 1)) 17 2 = gi h8 17 2 := gi_a (by decide) _
                  exact x_zret hK rfl (by omega) ⟨⟨_, rfl, by omega⟩, GD_w0 (hG8) (r := 1) rfl rfl, FRM_w (hF8) (r := 1) rfl rfl, RI_same (RI_hold hI2 a8 b8 (fun j hj => (c8 j hj).trans (z5 j)) (d8.trans (by first | (rw [if_pos (by omega)]; done) | (rw [if_neg (by omega), Int.add_zero]; done))) (by first | exact Or.inr (by decide) | exact Or.inl (by omega))) (by omega) y2 y3 y1⟩
            · refine x_aload_n 73 hK rfl rfl rfl ?_
              refine x_sipush 76 hK rfl rfl rfl ?_
              have hG5 : GD gE gRL sh h := hG
              have hw5 : gi h 17 1 = gi h 17 1 := rfl
              have z5 : ∀ k, gi h 18 k = gi h 18 k := fun k => rfl
              have hF5 : FRM gRL [(0, 1, 2, 2), (0, 1, 5, 5), (0, 8, 1, 1), (0, 9, 0, 39), (0, 11, 1, 4), (0, 12, 0, 39)] h h := FRM.rf
              refine x_callV 79 hK hmono rfl rfl [.ref 17, .int (I 256)] [] rfl rfl (Nat.le_of_ble_eq_true rfl) (Nat.le_of_ble_eq_true rfl) rfl (sp_17 (h := h) hG) (CLd_le (Nat.le_of_ble_eq_true rfl) (ctX5_hold hSP hG5 (by omega) (by rw [hw5]; omega))) ?_
              rintro v8 h8 ⟨rfl, hG8, hF8, a8, b8, c8⟩
              have d8 : gi h8 17 2 = _ := (FRM_gi hF8 (r := 11) rfl rfl).trans (rfl)
              rw [hw5] at a8 b8 c8
              replace hF8 : FRM gRL [(0, 1, 2, 2), (0, 1, 5, 5), (0, 8, 1, 1), (0, 9, 0, 39), (0, 11, 1, 4), (0, 12, 0, 39)] h h8 := hF5.trans (hF8.mono rfl)
              refine x_goto 133 hK rfl rfl ?_
              refine x_aload_n 134 hK rfl rfl rfl ?_
              refine x_dup 135 hK rfl rfl rfl ?_
              refine x_getE 138 hK rfl (Or.inl rfl) rfl (sp_1 (h := h8) hG8) (e := (gi h8 1 2)) (rfl) ?_
              refine x_iconst 139 hK rfl rfl ?_
              refine x_iadd 140 hK rfl rfl ?_
              refine x_putI 143 hK rfl rfl (sp_1 (h := h8) hG8) ?_
              refine x_iconst 144 hK rfl rfl ?_
              have y1 : ∀ k, gi (wI h8 1 2 ((gi h8 1 2) + 1)) 18 k = gi h8 18 k := fun k => gi_a (by decide) _
              have y2 : gi (wI h8 1 2 ((gi h8 1 2) + 1)) 17 1 = gi h8 17 1 := gi_a (by decide) _
              have y3 : gi (wI h8 1 2 ((gi h8 1 2) + 1)) 17 2 = gi h8 17 2 := gi_a (by decide) _
              exact x_zret hK rfl (by omega) ⟨⟨_, rfl, by omega⟩, GD_w0 (hG8) (r := 1) rfl rfl, FRM_w (hF8) (r := 1) rfl rfl, RI_same (RI_hold hI2 a8 b8 (fun j hj => (c8 j hj).trans (z5 j)) (d8.trans (by first | (rw [if_pos (by omega)]; done) | (rw [if_neg (by omega), Int.add_zero]; done))) (by first | exact Or.inr (by decide) | exact Or.inl (by omega))) (by omega) y2 y3 y1⟩
          · refine x_aload_n 53 hK rfl rfl rfl ?_
            refine x_iload_n 54 hK rfl rfl rfl ?_
            refine x_ineg 55 hK rfl rfl ?_
            refine x_callV 58 hK hmono rfl rfl [.ref b, .int (I (-s))] [] rfl rfl (Nat.le_of_ble_eq_true rfl) (Nat.le_of_ble_eq_true rfl) rfl (shx (h := h) hG hb rfl) (CLd_le (Nat.le_of_ble_eq_true rfl) (kX4_add_0 hSP [.ref b, .int (I (-s))] _ hX ⟨gv_r (by decide) hb, ⟨_, rfl, i32_lo _, i32_hi _, trivial⟩, trivial⟩ hG gov_n)) ?_
            rintro v8 h8 ⟨hG8, hF8, o8, m8, q8, -, -⟩
            have e8 : v8 = none := by
              simp only [sX4_add_0, List.mem_cons, List.not_mem_nil, or_false] at m8
              first | (rcases m8 with rfl | rfl <;> exact QS_v q8) | (rw [m8] at q8; exact QS_v q8)
            subst e8
            have w8 : ∀ k, gi h8 17 k = gi h 17 k := fun k => FRM_gi hF8 (r := 11) rfl rfl
            have z8 : ∀ k, gi h8 18 k = gi h 18 k := fun k => FRM_gi hF8 (r := 12) rfl rfl
            replace hF8 : FRM gRL [(0, 1, 2, 2), (0, 1, 5, 5), (0, 8, 1, 1), (0, 9, 0, 39), (0, 11, 1, 4), (0, 12, 0, 39)] h h8 := hF8.mono rfl
            refine x_aload_n 59 hK rfl rfl rfl ?_
            refine x_iconst 60 hK rfl rfl ?_
            refine x_putZ 63 hK rfl rfl (sp_17 (h := h8) hG8) (by omega) ?_
            refine x_goto 133 hK rfl rfl ?_
            refine x_aload_n 134 hK rfl rfl rfl ?_
            refine x_dup 135 hK rfl rfl rfl ?_
            refine x_getE 138 hK rfl (Or.inl rfl) rfl (sp_1 (h := h8) hG8) (e := (gi h8 1 2)) (gi_a (by decide) _) ?_
            refine x_iconst 139 hK rfl rfl ?_
            refine x_iadd 140 hK rfl rfl ?_
            refine x_putI 143 hK rfl rfl (sp_1 (h := h8) hG8) ?_
            refine x_iconst 144 hK rfl rfl ?_
            have y1 : ∀ k, gi (wI (wI h8 17 4 0) 1 2 ((gi h8 1 2) + 1)) 18 k = gi h8 18 k := fun k => (gi_a (by decide) _).trans (gi_a (by decide) _)
            have y2 : gi (wI (wI h8 17 4 0) 1 2 ((gi h8 1 2) + 1)) 17 1 = gi h8 17 1 := (gi_a (by decide) _).trans (gi_k (by decide) _)
            have y3 : gi (wI (wI h8 17 4 0) 1 2 ((gi h8 1 2) + 1)) 17 2 = gi h8 17 2 := (gi_a (by decide) _).trans (gi_k (by decide) _)
            exact x_zret hK rfl (by omega) ⟨⟨_, rfl, by omega⟩, GD_w0 (GD_w1 (hG8) (r := 11) rfl (by omega) rfl (by omega) (by omega)) (r := 1) rfl rfl, FRM_w (FRM_w (hF8) (r := 11) rfl rfl) (r := 1) rfl rfl, RI_same hI2 (by omega) (y2.trans (w8 1)) (y3.trans (w8 2)) fun k => (y1 k).trans (z8 k)⟩
theorem ctX5_takeOperator {SP : CT} (hSP : MONO SP) {sh : List (Nat × Nat)} {h : aH} (hG : GD gE gRL sh h) {i : Int} {b : Nat} (hX : XI h) (hb : gRL[b]? = some 8) (hI : RI h i) (hi : i < 40) : CLd SP 6 mX5_takeOperator [.ref 17, .ref 1, .ref b] h 0 0 (fun rv h' => (∃ e, rv = some (.int (I e)) ∧ (e = 0 ∨ e = 1)) ∧ GD gE gRL sh h' ∧ FRM gRL [(0, 1, 2, 2), (0, 1, 5, 5), (0, 8, 1, 1), (0, 9, 0, 39), (0, 11, 1, 4), (0, 12, 0, 39)] h h' ∧ RI h' (i + 1)) := by
  refine x_met _ rfl (Nat.le_of_ble_eq_true rfl) (fun K hK => ?_)
  have hmono := MONO_CLd hSP 5
  have hI2 := hI
  obtain ⟨i1, i2, i3, i4⟩ := hI
  have fr1 := fx_r hG (gi h 1 2)
  have gd := gri 0 4 hG (a := 17) (r := 11) (k := 2) rfl rfl
  refine x_aload_n 1 hK rfl rfl rfl ?_
  refine x_callV 4 hK hmono rfl rfl [.ref 1] [] rfl rfl (Nat.le_of_ble_eq_true rfl) (Nat.le_of_ble_eq_true rfl) rfl (sp_1 (h := h) hG) (CLd_le (Nat.le_of_ble_eq_true rfl) (ctX9_next hSP hG)) ?_
  rintro v9 h9 ⟨e9, rfl⟩
  rw [e9]
  clear e9
  generalize fx h (gi h 1 2) = s at *
  have rr := rk_r s
  refine x_istore_n 5 hK rfl rfl [(3, .int (I s)), (0, .ref 17), (1, .ref 1), (2, .ref b)] rfl ?_
  refine x_iload_n 6 hK rfl rfl rfl ?_
  refine x_callS 9 hK hmono rfl (Or.inl rfl) rfl [.int (I s)] [] rfl rfl (Nat.le_of_ble_eq_true rfl) (Nat.le_of_ble_eq_true rfl) (CLd_le (Nat.le_of_ble_eq_true rfl) (ctX5_rank hSP (by omega))) ?_
  rintro v9 h9 ⟨e9, rfl⟩
  rw [e9]
  clear e9
  refine x_istore 11 hK rfl rfl [(4, .int (I (rk s))), (3, .int (I s)), (0, .ref 17), (1, .ref 1), (2, .ref b)] rfl ?_
  refine x_iload_n 12 hK rfl rfl rfl ?_
  refine x_bipush 14 hK rfl rfl rfl ?_
  refine x_if_icmp_ne 53 17 hK rfl rfl rfl (by omega) (by omega) (fun c9 => ?_) (fun c9 => ?_)
  · refine x_iload 55 hK rfl rfl rfl ?_
    refine x_if_eq 79 58 hK rfl rfl rfl (by omega) (fun c11 => ?_) (fun c11 => ?_)
    · refine x_iconst 80 hK rfl rfl ?_
      exact x_zret hK rfl (by omega) ⟨⟨_, rfl, by omega⟩, hG, FRM.rf, RI_same hI2 (by omega) rfl rfl fun _ => rfl⟩
    · refine x_iload 60 hK rfl rfl rfl ?_
      refine x_iconst 61 hK rfl rfl ?_
      refine x_if_icmp_ne 81 64 hK rfl rfl rfl (by omega) (by omega) (fun c16 => ?_) (fun c16 => ?_)
      · refine x_aload_n 82 hK rfl rfl rfl ?_
        refine x_dup 83 hK rfl rfl rfl ?_
        refine x_getE 86 hK rfl (Or.inl rfl) rfl (sp_17 (h := h) hG) (e := (gi h 17 3)) (rfl) ?_
        refine x_iload 88 hK rfl rfl rfl ?_
        refine x_iconst 89 hK rfl rfl ?_
        refine x_if_icmp_ne 101 92 hK rfl rfl rfl (by omega) (by omega) (fun c22 => ?_) (fun c22 => ?_)
        · refine x_iconst 102 hK rfl rfl ?_
          refine x_iorX 103 hK rfl rfl (fun q102 rq102 => ?_)
          refine x_putI 106 hK rfl rfl (sp_17 (h := h) hG) ?_
          refine x_aload_n 107 hK rfl rfl rfl ?_
          refine x_iload 109 hK rfl rfl rfl ?_
          refine x_aload_n 110 hK rfl rfl rfl ?_
          have hG5 : GD gE gRL sh (wI h 17 3 q102) := GD_w0 (hG) (r := 11) rfl rfl
          have hF5 : FRM gRL [(0, 1, 2, 2), (0, 1, 5, 5), (0, 8, 1, 1), (0, 9, 0, 39), (0, 11, 1, 4), (0, 12, 0, 39)] h (wI h 17 3 q102) := FRM_w (FRM.rf) (r := 11) rfl rfl
          have hX5 : XI (wI h 17 3 q102) := xOk_ok rfl h _ hF5 hX
          have y5 : gi (wI h 17 3 q102) 17 2 = gi h 17 2 := gi_k (by decide) _
          have hI5 : RI (wI h 17 3 q102) i := RI_same hI2 (by omega) (gi_k (by decide) _) y5 fun k => gi_a (by decide) _
          refine x_callV 113 hK hmono rfl rfl [.ref 17, .int (I (rk s)), .ref b] [] rfl rfl (Nat.le_of_ble_eq_true rfl) (Nat.le_of_ble_eq_true rfl) rfl (sp_17 (h := h) hG) (CLd_le (Nat.le_of_ble_eq_true rfl) (ctX5_release hSP hG5 hX5 (by omega) hb hI5 (by omega))) ?_
          rintro v8 h8 ⟨rfl, hG8, hF8, hI8, d8, s8⟩
          rw [y5] at d8
          replace hF8 : FRM gRL [(0, 1, 2, 2), (0, 1, 5, 5), (0, 8, 1, 1), (0, 9, 0, 39), (0, 11, 1, 4), (0, 12, 0, 39)] h h8 := hF5.trans (hF8.mono rfl)
          have hI8b := hI8
          obtain ⟨j1, j2, j3, j4⟩ := hI8
          refine x_aload_n 114 hK rfl rfl rfl ?_
          refine x_iload_n 115 hK rfl rfl rfl ?_
          refine x_callV 118 hK hmono rfl rfl [.ref 17, .int (I s)] [] rfl rfl (Nat.le_of_ble_eq_true rfl) (Nat.le_of_ble_eq_true rfl) rfl (sp_17 (h := h8) hG8) (CLd_le (Nat.le_of_ble_eq_true rfl) (ctX5_hold hSP hG8 (by omega) (by omega))) ?_
          rintro v7 h7 ⟨rfl, hG7, hF7, a7, b7, c7⟩
          have d7 : gi h7 17 2 = gi h8 17 2 := FRM_gi hF7 (r := 11) rfl rfl
          have hI7 : RI h7 (i + 1) := RI_hold hI8b a7 b7 c7 (by rw [d7, if_neg (rk_40 (by omega)), Int.add_zero]) (Or.inr (by omega))
          replace hF7 : FRM gRL [(0, 1, 2, 2), (0, 1, 5, 5), (0, 8, 1, 1), (0, 9, 0, 39), (0, 11, 1, 4), (0, 12, 0, 39)] h h7 := hF8.trans (hF7.mono rfl)
          refine x_aload_n 119 hK rfl rfl rfl ?_
          refine x_iconst 120 hK rfl rfl ?_
          refine x_putZ 123 hK rfl rfl (sp_17 (h := h7) hG7) (by omega) ?_
          refine x_aload_n 124 hK rfl rfl rfl ?_
          refine x_dup 125 hK rfl rfl rfl ?_
          refine x_getE 128 hK rfl (Or.inl rfl) rfl (sp_1 (h := h7) hG7) (e := (gi h7 1 2)) (gi_a (by decide) _) ?_
          refine x_iconst 129 hK rfl rfl ?_
          refine x_iadd 130 hK rfl rfl ?_
          refine x_putI 133 hK rfl rfl (sp_1 (h := h7) hG7) ?_
          refine x_iconst 134 hK rfl rfl ?_
          exact x_zret hK rfl (by omega) ⟨⟨_, rfl, by omega⟩, GD_w0 (GD_w1 (hG7) (r := 11) rfl (by omega) rfl (by omega) (by omega)) (r := 1) rfl rfl, FRM_w (FRM_w (hF7) (r := 11) rfl rfl) (r := 1) rfl rfl, RI_same hI7 (by omega) ((gi_a (by decide) _).trans (gi_k (by decide) _)) ((gi_a (by decide) _).trans (gi_k (by decide) _)) fun k => (gi_a (by decide) _).trans (gi_a (by decide) _)⟩
        · refine x_iconst 93 hK rfl rfl ?_
          refine x_aload_n 94 hK rfl rfl rfl ?_
          refine x_getE 97 hK rfl (Or.inl rfl) rfl (sp_17 (h := h) hG) (e := (gi h 17 2)) (rfl) ?_
          refine x_ishlX 98 hK rfl rfl (fun q97 rq97 => ?_)
          refine x_goto 102 hK rfl rfl ?_
          refine x_iorX 103 hK rfl rfl (fun q102 rq102 => ?_)
          refine x_putI 106 hK rfl rfl (sp_17 (h := h) hG) ?_
          refine x_aload_n 107 hK rfl rfl rfl ?_
          refine x_iload 109 hK rfl rfl rfl ?_
          refine x_aload_n 110 hK rfl rfl rfl ?_
          have hG5 : GD gE gRL sh (wI h 17 3 q102) := GD_w0 (hG) (r := 11) rfl rfl
          have hF5 : FRM gRL [(0, 1, 2, 2), (0, 1, 5, 5), (0, 8, 1, 1), (0, 9, 0, 39), (0, 11, 1, 4), (0, 12, 0, 39)] h (wI h 17 3 q102) := FRM_w (FRM.rf) (r := 11) rfl rfl
          have hX5 : XI (wI h 17 3 q102) := xOk_ok rfl h _ hF5 hX
          have y5 : gi (wI h 17 3 q102) 17 2 = gi h 17 2 := gi_k (by decide) _
          have hI5 : RI (wI h 17 3 q102) i := RI_same hI2 (by omega) (gi_k (by decide) _) y5 fun k => gi_a (by decide) _
          refine x_callV 113 hK hmono rfl rfl [.ref 17, .int (I (rk s)), .ref b] [] rfl rfl (Nat.le_of_ble_eq_true rfl) (Nat.le_of_ble_eq_true rfl) rfl (sp_17 (h := h) hG) (CLd_le (Nat.le_of_ble_eq_true rfl) (ctX5_release hSP hG5 hX5 (by omega) hb hI5 (by omega))) ?_
          rintro v8 h8 ⟨rfl, hG8, hF8, hI8, d8, s8⟩
          rw [y5] at d8
          replace hF8 : FRM gRL [(0, 1, 2, 2), (0, 1, 5, 5), (0, 8, 1, 1), (0, 9, 0, 39), (0, 11, 1, 4), (0, 12, 0, 39)] h h8 := hF5.trans (hF8.mono rfl)
          have hI8b := hI8
          obtain ⟨j1, j2, j3, j4⟩ := hI8
          refine x_aload_n 114 hK rfl rfl rfl ?_
          refine x_iload_n 115 hK rfl rfl rfl ?_
          refine x_callV 118 hK hmono rfl rfl [.ref 17, .int (I s)] [] rfl rfl (Nat.le_of_ble_eq_true rfl) (Nat.le_of_ble_eq_true rfl) rfl (sp_17 (h := h8) hG8) (CLd_le (Nat.le_of_ble_eq_true rfl) (ctX5_hold hSP hG8 (by omega) (by omega))) ?_
          rintro v7 h7 ⟨rfl, hG7, hF7, a7, b7, c7⟩
          have d7 : gi h7 17 2 = gi h8 17 2 := FRM_gi hF7 (r := 11) rfl rfl
          have hI7 : RI h7 (i + 1) := RI_hold hI8b a7 b7 c7 (by rw [d7, if_neg (rk_40 (by omega)), Int.add_zero]) (Or.inr (by omega))
          replace hF7 : FRM gRL [(0, 1, 2, 2), (0, 1, 5, 5), (0, 8, 1, 1), (0, 9, 0, 39), (0, 11, 1, 4), (0, 12, 0, 39)] h h7 := hF8.trans (hF7.mono rfl)
          refine x_aload_n 119 hK rfl rfl rfl ?_
          refine x_iconst 120 hK rfl rfl ?_
          refine x_putZ 123 hK rfl rfl (sp_17 (h := h7) hG7) (by omega) ?_
          refine x_aload_n 124 hK rfl rfl rfl ?_
          refine x_dup 125 hK rfl rfl rfl ?_
          refine x_getE 128 hK rfl (Or.inl rfl) rfl (sp_1 (h := h7) hG7) (e := (gi h7 1 2)) (gi_a (by decide) _) ?_
          refine x_iconst 129 hK rfl rfl ?_
          refine x_iadd 130 hK rfl rfl ?_
          refine x_putI 133 hK rfl rfl (sp_1 (h := h7) hG7) ?_
          refine x_iconst 134 hK rfl rfl ?_
          exact x_zret hK rfl (by omega) ⟨⟨_, rfl, by omega⟩, GD_w0 (GD_w1 (hG7) (r := 11) rfl (by omega) rfl (by omega) (by omega)) (r := 1) rfl rfl, FRM_w (FRM_w (hF7) (r := 11) rfl rfl) (r := 1) rfl rfl, RI_same hI7 (by omega) ((gi_a (by decide) _).trans (gi_k (by decide) _)) ((gi_a (by decide) _).trans (gi_k (by decide) _)) fun k => (gi_a (by decide) _).trans (gi_a (by decide) _)⟩
      · refine x_aload_n 65 hK rfl rfl rfl ?_
        refine x_getE 68 hK rfl (Or.inl rfl) rfl (sp_17 (h := h) hG) (e := (gi h 17 3)) (rfl) ?_
        refine x_aload_n 69 hK rfl rfl rfl ?_
        refine x_getE 72 hK rfl (Or.inl rfl) rfl (sp_17 (h := h) hG) (e := (gi h 17 2)) (rfl) ?_
        refine x_ishrX 73 hK rfl rfl (fun q72 rq72 => ?_)
        refine x_iconst 74 hK rfl rfl ?_
        refine x_iandX 75 hK rfl rfl (fun q74 rq74 => ?_)
        refine x_iconst 76 hK rfl rfl ?_
        refine x_if_icmp_ne 81 79 hK rfl rfl rfl (by omega) (by omega) (fun c77 => ?_) (fun c77 => ?_)
        · refine x_aload_n 82 hK rfl rfl rfl ?_
          refine x_dup 83 hK rfl rfl rfl ?_
          refine x_getE 86 hK rfl (Or.inl rfl) rfl (sp_17 (h := h) hG) (e := (gi h 17 3)) (rfl) ?_
          refine x_iload 88 hK rfl rfl rfl ?_
          refine x_iconst 89 hK rfl rfl ?_
          refine x_if_icmp_ne 101 92 hK rfl rfl rfl (by omega) (by omega) (fun c83 => ?_) (fun c83 => ?_)
          · refine x_iconst 102 hK rfl rfl ?_
            refine x_iorX 103 hK rfl rfl (fun q102 rq102 => ?_)
            refine x_putI 106 hK rfl rfl (sp_17 (h := h) hG) ?_
            refine x_aload_n 107 hK rfl rfl rfl ?_
            refine x_iload 109 hK rfl rfl rfl ?_
            refine x_aload_n 110 hK rfl rfl rfl ?_
            have hG5 : GD gE gRL sh (wI h 17 3 q102) := GD_w0 (hG) (r := 11) rfl rfl
            have hF5 : FRM gRL [(0, 1, 2, 2), (0, 1, 5, 5), (0, 8, 1, 1), (0, 9, 0, 39), (0, 11, 1, 4), (0, 12, 0, 39)] h (wI h 17 3 q102) := FRM_w (FRM.rf) (r := 11) rfl rfl
            have hX5 : XI (wI h 17 3 q102) := xOk_ok rfl h _ hF5 hX
            have y5 : gi (wI h 17 3 q102) 17 2 = gi h 17 2 := gi_k (by decide) _
            have hI5 : RI (wI h 17 3 q102) i := RI_same hI2 (by omega) (gi_k (by decide) _) y5 fun k => gi_a (by decide) _
            refine x_callV 113 hK hmono rfl rfl [.ref 17, .int (I (rk s)), .ref b] [] rfl rfl (Nat.le_of_ble_eq_true rfl) (Nat.le_of_ble_eq_true rfl) rfl (sp_17 (h := h) hG) (CLd_le (Nat.le_of_ble_eq_true rfl) (ctX5_release hSP hG5 hX5 (by omega) hb hI5 (by omega))) ?_
            rintro v8 h8 ⟨rfl, hG8, hF8, hI8, d8, s8⟩
            rw [y5] at d8
            replace hF8 : FRM gRL [(0, 1, 2, 2), (0, 1, 5, 5), (0, 8, 1, 1), (0, 9, 0, 39), (0, 11, 1, 4), (0, 12, 0, 39)] h h8 := hF5.trans (hF8.mono rfl)
            have hI8b := hI8
            obtain ⟨j1, j2, j3, j4⟩ := hI8
            refine x_aload_n 114 hK rfl rfl rfl ?_
            refine x_iload_n 115 hK rfl rfl rfl ?_
            refine x_callV 118 hK hmono rfl rfl [.ref 17, .int (I s)] [] rfl rfl (Nat.le_of_ble_eq_true rfl) (Nat.le_of_ble_eq_true rfl) rfl (sp_17 (h := h8) hG8) (CLd_le (Nat.le_of_ble_eq_true rfl) (ctX5_hold hSP hG8 (by omega) (by omega))) ?_
            rintro v7 h7 ⟨rfl, hG7, hF7, a7, b7, c7⟩
            have d7 : gi h7 17 2 = gi h8 17 2 := FRM_gi hF7 (r := 11) rfl rfl
            have hI7 : RI h7 (i + 1) := RI_hold hI8b a7 b7 c7 (by rw [d7, if_neg (rk_40 (by omega)), Int.add_zero]) (Or.inr (by omega))
            replace hF7 : FRM gRL [(0, 1, 2, 2), (0, 1, 5, 5), (0, 8, 1, 1), (0, 9, 0, 39), (0, 11, 1, 4), (0, 12, 0, 39)] h h7 := hF8.trans (hF7.mono rfl)
            refine x_aload_n 119 hK rfl rfl rfl ?_
            refine x_iconst 120 hK rfl rfl ?_
            refine x_putZ 123 hK rfl rfl (sp_17 (h := h7) hG7) (by omega) ?_
            refine x_aload_n 124 hK rfl rfl rfl ?_
            refine x_dup 125 hK rfl rfl rfl ?_
            refine x_getE 128 hK rfl (Or.inl rfl) rfl (sp_1 (h := h7) hG7) (e := (gi h7 1 2)) (gi_a (by decide) _) ?_
            refine x_iconst 129 hK rfl rfl ?_
            refine x_iadd 130 hK rfl rfl ?_
            refine x_putI 133 hK rfl rfl (sp_1 (h := h7) hG7) ?_
            refine x_iconst 134 hK rfl rfl ?_
            exact x_zret hK rfl (by omega) ⟨⟨_, rfl, by omega⟩, GD_w0 (GD_w1 (hG7) (r := 11) rfl (by omega) rfl (by omega) (by omega)) (r := 1) rfl rfl, FRM_w (FRM_w (hF7) (r := 11) rfl rfl) (r := 1) rfl rfl, RI_same hI7 (by omega) ((gi_a (by decide) _).trans (gi_k (by decide) _)) ((gi_a (by decide) _).trans (gi_k (by decide) _)) fun k => (gi_a (by decide) _).trans (gi_a (by decide) _)⟩
          · refine x_iconst 93 hK rfl rfl ?_
            refine x_aload_n 94 hK rfl rfl rfl ?_
            refine x_getE 97 hK rfl (Or.inl rfl) rfl (sp_17 (h := h) hG) (e := (gi h 17 2)) (rfl) ?_
            refine x_ishlX 98 hK rfl rfl (fun q97 rq97 => ?_)
            refine x_goto 102 hK rfl rfl ?_
            refine x_iorX 103 hK rfl rfl (fun q102 rq102 => ?_)
            refine x_putI 106 hK rfl rfl (sp_17 (h := h) hG) ?_
            refine x_aload_n 107 hK rfl rfl rfl ?_
            refine x_iload 109 hK rfl rfl rfl ?_
            refine x_aload_n 110 hK rfl rfl rfl ?_
            have hG5 : GD gE gRL sh (wI h 17 3 q102) := GD_w0 (hG) (r := 11) rfl rfl
            have hF5 : FRM gRL [(0, 1, 2, 2), (0, 1, 5, 5), (0, 8, 1, 1), (0, 9, 0, 39), (0, 11, 1, 4), (0, 12, 0, 39)] h (wI h 17 3 q102) := FRM_w (FRM.rf) (r := 11) rfl rfl
            have hX5 : XI (wI h 17 3 q102) := xOk_ok rfl h _ hF5 hX
            have y5 : gi (wI h 17 3 q102) 17 2 = gi h 17 2 := gi_k (by decide) _
            have hI5 : RI (wI h 17 3 q102) i := RI_same hI2 (by omega) (gi_k (by decide) _) y5 fun k => gi_a (by decide) _
            refine x_callV 113 hK hmono rfl rfl [.ref 17, .int (I (rk s)), .ref b] [] rfl rfl (Nat.le_of_ble_eq_true rfl) (Nat.le_of_ble_eq_true rfl) rfl (sp_17 (h := h) hG) (CLd_le (Nat.le_of_ble_eq_true rfl) (ctX5_release hSP hG5 hX5 (by omega) hb hI5 (by omega))) ?_
            rintro v8 h8 ⟨rfl, hG8, hF8, hI8, d8, s8⟩
            rw [y5] at d8
            replace hF8 : FRM gRL [(0, 1, 2, 2), (0, 1, 5, 5), (0, 8, 1, 1), (0, 9, 0, 39), (0, 11, 1, 4), (0, 12, 0, 39)] h h8 := hF5.trans (hF8.mono rfl)
            have hI8b := hI8
            obtain ⟨j1, j2, j3, j4⟩ := hI8
            refine x_aload_n 114 hK rfl rfl rfl ?_
            refine x_iload_n 115 hK rfl rfl rfl ?_
            refine x_callV 118 hK hmono rfl rfl [.ref 17, .int (I s)] [] rfl rfl (Nat.le_of_ble_eq_true rfl) (Nat.le_of_ble_eq_true rfl) rfl (sp_17 (h := h8) hG8) (CLd_le (Nat.le_of_ble_eq_true rfl) (ctX5_hold hSP hG8 (by omega) (by omega))) ?_
            rintro v7 h7 ⟨rfl, hG7, hF7, a7, b7, c7⟩
            have d7 : gi h7 17 2 = gi h8 17 2 := FRM_gi hF7 (r := 11) rfl rfl
            have hI7 : RI h7 (i + 1) := RI_hold hI8b a7 b7 c7 (by rw [d7, if_neg (rk_40 (by omega)), Int.add_zero]) (Or.inr (by omega))
            replace hF7 : FRM gRL [(0, 1, 2, 2), (0, 1, 5, 5), (0, 8, 1, 1), (0, 9, 0, 39), (0, 11, 1, 4), (0, 12, 0, 39)] h h7 := hF8.trans (hF7.mono rfl)
            refine x_aload_n 119 hK rfl rfl rfl ?_
            refine x_iconst 120 hK rfl rfl ?_
            refine x_putZ 123 hK rfl rfl (sp_17 (h := h7) hG7) (by omega) ?_
            refine x_aload_n 124 hK rfl rfl rfl ?_
            refine x_dup 125 hK rfl rfl rfl ?_
            refine x_getE 128 hK rfl (Or.inl rfl) rfl (sp_1 (h := h7) hG7) (e := (gi h7 1 2)) (gi_a (by decide) _) ?_
            refine x_iconst 129 hK rfl rfl ?_
            refine x_iadd 130 hK rfl rfl ?_
            refine x_putI 133 hK rfl rfl (sp_1 (h := h7) hG7) ?_
            refine x_iconst 134 hK rfl rfl ?_
            exact x_zret hK rfl (by omega) ⟨⟨_, rfl, by omega⟩, GD_w0 (GD_w1 (hG7) (r := 11) rfl (by omega) rfl (by omega) (by omega)) (r := 1) rfl rfl, FRM_w (FRM_w (hF7) (r := 11) rfl rfl) (r := 1) rfl rfl, RI_same hI7 (by omega) ((gi_a (by decide) _).trans (gi_k (by decide) _)) ((gi_a (by decide) _).trans (gi_k (by decide) _)) fun k => (gi_a (by decide) _).trans (gi_a (by decide) _)⟩
        · refine x_iconst 80 hK rfl rfl ?_
          exact x_zret hK rfl (by omega) ⟨⟨_, rfl, by omega⟩, hG, FRM.rf, RI_same hI2 (by omega) rfl rfl fun _ => rfl⟩
  · refine x_aload_n 18 hK rfl rfl rfl ?_
    refine x_getE 21 hK rfl (Or.inl rfl) rfl (sp_17 (h := h) hG) (e := (gi h 17 2)) (rfl) ?_
    refine x_if_le 53 24 hK rfl rfl rfl (by omega) (fun c134 => ?_) (fun c134 => ?_)
    · refine x_iload 55 hK rfl rfl rfl ?_
      refine x_if_eq 79 58 hK rfl rfl rfl (by omega) (fun c136 => ?_) (fun c136 => ?_)
      · refine x_iconst 80 hK rfl rfl ?_
        exact x_zret hK rfl (by omega) ⟨⟨_, rfl, by omega⟩, hG, FRM.rf, RI_same hI2 (by omega) rfl rfl fun _ => rfl⟩
      · refine x_iload 60 hK rfl rfl rfl ?_
        refine x_iconst 61 hK rfl rfl ?_
        refine x_if_icmp_ne 81 64 hK rfl rfl rfl (by omega) (by omega) (fun c141 => ?_) (fun c141 => ?_)
        · refine x_aload_n 82 hK rfl rfl rfl ?_
          refine x_dup 83 hK rfl rfl rfl ?_
          refine x_getE 86 hK rfl (Or.inl rfl) rfl (sp_17 (h := h) hG) (e := (gi h 17 3)) (rfl) ?_
          refine x_iload 88 hK rfl rfl rfl ?_
          refine x_iconst 89 hK rfl rfl ?_
          refine x_if_icmp_ne 101 92 hK rfl rfl rfl (by omega) (by omega) (fun c147 => ?_) (fun c147 => ?_)
          · refine x_iconst 102 hK rfl rfl ?_
            refine x_iorX 103 hK rfl rfl (fun q102 rq102 => ?_)
            refine x_putI 106 hK rfl rfl (sp_17 (h := h) hG) ?_
            refine x_aload_n 107 hK rfl rfl rfl ?_
            refine x_iload 109 hK rfl rfl rfl ?_
            refine x_aload_n 110 hK rfl rfl rfl ?_
            have hG5 : GD gE gRL sh (wI h 17 3 q102) := GD_w0 (hG) (r := 11) rfl rfl
            have hF5 : FRM gRL [(0, 1, 2, 2), (0, 1, 5, 5), (0, 8, 1, 1), (0, 9, 0, 39), (0, 11, 1, 4), (0, 12, 0, 39)] h (wI h 17 3 q102) := FRM_w (FRM.rf) (r := 11) rfl rfl
            have hX5 : XI (wI h 17 3 q102) := xOk_ok rfl h _ hF5 hX
            have y5 : gi (wI h 17 3 q102) 17 2 = gi h 17 2 := gi_k (by decide) _
            have hI5 : RI (wI h 17 3 q102) i := RI_same hI2 (by omega) (gi_k (by decide) _) y5 fun k => gi_a (by decide) _
            refine x_callV 113 hK hmono rfl rfl [.ref 17, .int (I (rk s)), .ref b] [] rfl rfl (Nat.le_of_ble_eq_true rfl) (Nat.le_of_ble_eq_true rfl) rfl (sp_17 (h := h) hG) (CLd_le (Nat.le_of_ble_eq_true rfl) (ctX5_release hSP hG5 hX5 (by omega) hb hI5 (by omega))) ?_
            rintro v8 h8 ⟨rfl, hG8, hF8, hI8, d8, s8⟩
            rw [y5] at d8
            replace hF8 : FRM gRL [(0, 1, 2, 2), (0, 1, 5, 5), (0, 8, 1, 1), (0, 9, 0, 39), (0, 11, 1, 4), (0, 12, 0, 39)] h h8 := hF5.trans (hF8.mono rfl)
            have hI8b := hI8
            obtain ⟨j1, j2, j3, j4⟩ := hI8
            refine x_aload_n 114 hK rfl rfl rfl ?_
            refine x_iload_n 115 hK rfl rfl rfl ?_
            refine x_callV 118 hK hmono rfl rfl [.ref 17, .int (I s)] [] rfl rfl (Nat.le_of_ble_eq_true rfl) (Nat.le_of_ble_eq_true rfl) rfl (sp_17 (h := h8) hG8) (CLd_le (Nat.le_of_ble_eq_true rfl) (ctX5_hold hSP hG8 (by omega) (by omega))) ?_
            rintro v7 h7 ⟨rfl, hG7, hF7, a7, b7, c7⟩
            have d7 : gi h7 17 2 = gi h8 17 2 := FRM_gi hF7 (r := 11) rfl rfl
            have hI7 : RI h7 (i + 1) := RI_hold hI8b a7 b7 c7 (by rw [d7, if_neg (rk_40 (by omega)), Int.add_zero]) (Or.inr (by omega))
            replace hF7 : FRM gRL [(0, 1, 2, 2), (0, 1, 5, 5), (0, 8, 1, 1), (0, 9, 0, 39), (0, 11, 1, 4), (0, 12, 0, 39)] h h7 := hF8.trans (hF7.mono rfl)
            refine x_aload_n 119 hK rfl rfl rfl ?_
            refine x_iconst 120 hK rfl rfl ?_
            refine x_putZ 123 hK rfl rfl (sp_17 (h := h7) hG7) (by omega) ?_
            refine x_aload_n 124 hK rfl rfl rfl ?_
            refine x_dup 125 hK rfl rfl rfl ?_
            refine x_getE 128 hK rfl (Or.inl rfl) rfl (sp_1 (h := h7) hG7) (e := (gi h7 1 2)) (gi_a (by decide) _) ?_
            refine x_iconst 129 hK rfl rfl ?_
            refine x_iadd 130 hK rfl rfl ?_
            refine x_putI 133 hK rfl rfl (sp_1 (h := h7) hG7) ?_
            refine x_iconst 134 hK rfl rfl ?_
            exact x_zret hK rfl (by omega) ⟨⟨_, rfl, by omega⟩, GD_w0 (GD_w1 (hG7) (r := 11) rfl (by omega) rfl (by omega) (by omega)) (r := 1) rfl rfl, FRM_w (FRM_w (hF7) (r := 11) rfl rfl) (r := 1) rfl rfl, RI_same hI7 (by omega) ((gi_a (by decide) _).trans (gi_k (by decide) _)) ((gi_a (by decide) _).trans (gi_k (by decide) _)) fun k => (gi_a (by decide) _).trans (gi_a (by decide) _)⟩
          · refine x_iconst 93 hK rfl rfl ?_
            refine x_aload_n 94 hK rfl rfl rfl ?_
            refine x_getE 97 hK rfl (Or.inl rfl) rfl (sp_17 (h := h) hG) (e := (gi h 17 2)) (rfl) ?_
            refine x_ishlX 98 hK rfl rfl (fun q97 rq97 => ?_)
            refine x_goto 102 hK rfl rfl ?_
            refine x_iorX 103 hK rfl rfl (fun q102 rq102 => ?_)
            refine x_putI 106 hK rfl rfl (sp_17 (h := h) hG) ?_
            refine x_aload_n 107 hK rfl rfl rfl ?_
            refine x_iload 109 hK rfl rfl rfl ?_
            refine x_aload_n 110 hK rfl rfl rfl ?_
            have hG5 : GD gE gRL sh (wI h 17 3 q102) := GD_w0 (hG) (r := 11) rfl rfl
            have hF5 : FRM gRL [(0, 1, 2, 2), (0, 1, 5, 5), (0, 8, 1, 1), (0, 9, 0, 39), (0, 11, 1, 4), (0, 12, 0, 39)] h (wI h 17 3 q102) := FRM_w (FRM.rf) (r := 11) rfl rfl
            have hX5 : XI (wI h 17 3 q102) := xOk_ok rfl h _ hF5 hX
            have y5 : gi (wI h 17 3 q102) 17 2 = gi h 17 2 := gi_k (by decide) _
            have hI5 : RI (wI h 17 3 q102) i := RI_same hI2 (by omega) (gi_k (by decide) _) y5 fun k => gi_a (by decide) _
            refine x_callV 113 hK hmono rfl rfl [.ref 17, .int (I (rk s)), .ref b] [] rfl rfl (Nat.le_of_ble_eq_true rfl) (Nat.le_of_ble_eq_true rfl) rfl (sp_17 (h := h) hG) (CLd_le (Nat.le_of_ble_eq_true rfl) (ctX5_release hSP hG5 hX5 (by omega) hb hI5 (by omega))) ?_
            rintro v8 h8 ⟨rfl, hG8, hF8, hI8, d8, s8⟩
            rw [y5] at d8
            replace hF8 : FRM gRL [(0, 1, 2, 2), (0, 1, 5, 5), (0, 8, 1, 1), (0, 9, 0, 39), (0, 11, 1, 4), (0, 12, 0, 39)] h h8 := hF5.trans (hF8.mono rfl)
            have hI8b := hI8
            obtain ⟨j1, j2, j3, j4⟩ := hI8
            refine x_aload_n 114 hK rfl rfl rfl ?_
            refine x_iload_n 115 hK rfl rfl rfl ?_
            refine x_callV 118 hK hmono rfl rfl [.ref 17, .int (I s)] [] rfl rfl (Nat.le_of_ble_eq_true rfl) (Nat.le_of_ble_eq_true rfl) rfl (sp_17 (h := h8) hG8) (CLd_le (Nat.le_of_ble_eq_true rfl) (ctX5_hold hSP hG8 (by omega) (by omega))) ?_
            rintro v7 h7 ⟨rfl, hG7, hF7, a7, b7, c7⟩
            have d7 : gi h7 17 2 = gi h8 17 2 := FRM_gi hF7 (r := 11) rfl rfl
            have hI7 : RI h7 (i + 1) := RI_hold hI8b a7 b7 c7 (by rw [d7, if_neg (rk_40 (by omega)), Int.add_zero]) (Or.inr (by omega))
            replace hF7 : FRM gRL [(0, 1, 2, 2), (0, 1, 5, 5), (0, 8, 1, 1), (0, 9, 0, 39), (0, 11, 1, 4), (0, 12, 0, 39)] h h7 := hF8.trans (hF7.mono rfl)
            refine x_aload_n 119 hK rfl rfl rfl ?_
            refine x_iconst 120 hK rfl rfl ?_
            refine x_putZ 123 hK rfl rfl (sp_17 (h := h7) hG7) (by omega) ?_
            refine x_aload_n 124 hK rfl rfl rfl ?_
            refine x_dup 125 hK rfl rfl rfl ?_
            refine x_getE 128 hK rfl (Or.inl rfl) rfl (sp_1 (h := h7) hG7) (e := (gi h7 1 2)) (gi_a (by decide) _) ?_
            refine x_iconst 129 hK rfl rfl ?_
            refine x_iadd 130 hK rfl rfl ?_
            refine x_putI 133 hK rfl rfl (sp_1 (h := h7) hG7) ?_
            refine x_iconst 134 hK rfl rfl ?_
            exact x_zret hK rfl (by omega) ⟨⟨_, rfl, by omega⟩, GD_w0 (GD_w1 (hG7) (r := 11) rfl (by omega) rfl (by omega) (by omega)) (r := 1) rfl rfl, FRM_w (FRM_w (hF7) (r := 11) rfl rfl) (r := 1) rfl rfl, RI_same hI7 (by omega) ((gi_a (by decide) _).trans (gi_k (by decide) _)) ((gi_a (by decide) _).trans (gi_k (by decide) _)) fun k => (gi_a (by decide) _).trans (gi_a (by decide) _)⟩
        · refine x_aload_n 65 hK rfl rfl rfl ?_
          refine x_getE 68 hK rfl (Or.inl rfl) rfl (sp_17 (h := h) hG) (e := (gi h 17 3)) (rfl) ?_
          refine x_aload_n 69 hK rfl rfl rfl ?_
          refine x_getE 72 hK rfl (Or.inl rfl) rfl (sp_17 (h := h) hG) (e := (gi h 17 2)) (rfl) ?_
          refine x_ishrX 73 hK rfl rfl (fun q72 rq72 => ?_)
          refine x_iconst 74 hK rfl rfl ?_
          refine x_iandX 75 hK rfl rfl (fun q74 rq74 => ?_)
          refine x_iconst 76 hK rfl rfl ?_
          refine x_if_icmp_ne 81 79 hK rfl rfl rfl (by omega) (by omega) (fun c202 => ?_) (fun c202 => ?_)
          · refine x_aload_n 82 hK rfl rfl rfl ?_
            refine x_dup 83 hK rfl rfl rfl ?_
            refine x_getE 86 hK rfl (Or.inl rfl) rfl (sp_17 (h := h) hG) (e := (gi h 17 3)) (rfl) ?_
            refine x_iload 88 hK rfl rfl rfl ?_
            refine x_iconst 89 hK rfl rfl ?_
            refine x_if_icmp_ne 101 92 hK rfl rfl rfl (by omega) (by omega) (fun c208 => ?_) (fun c208 => ?_)
            · refine x_iconst 102 hK rfl rfl ?_
              refine x_iorX 103 hK rfl rfl (fun q102 rq102 => ?_)
              refine x_putI 106 hK rfl rfl (sp_17 (h := h) hG) ?_
              refine x_aload_n 107 hK rfl rfl rfl ?_
              refine x_iload 109 hK rfl rfl rfl ?_
              refine x_aload_n 110 hK rfl rfl rfl ?_
              have hG5 : GD gE gRL sh (wI h 17 3 q102) := GD_w0 (hG) (r := 11) rfl rfl
              have hF5 : FRM gRL [(0, 1, 2, 2), (0, 1, 5, 5), (0, 8, 1, 1), (0, 9, 0, 39), (0, 11, 1, 4), (0, 12, 0, 39)] h (wI h 17 3 q102) := FRM_w (FRM.rf) (r := 11) rfl rfl
              have hX5 : XI (wI h 17 3 q102) := xOk_ok rfl h _ hF5 hX
              have y5 : gi (wI h 17 3 q102) 17 2 = gi h 17 2 := gi_k (by decide) _
              have hI5 : RI (wI h 17 3 q102) i := RI_same hI2 (by omega) (gi_k (by decide) _) y5 fun k => gi_a (by decide) _
              refine x_callV 113 hK hmono rfl rfl [.ref 17, .int (I (rk s)), .ref b] [] rfl rfl (Nat.le_of_ble_eq_true rfl) (Nat.le_of_ble_eq_true rfl) rfl (sp_17 (h := h) hG) (CLd_le (Nat.le_of_ble_eq_true rfl) (ctX5_release hSP hG5 hX5 (by omega) hb hI5 (by omega))) ?_
              rintro v8 h8 ⟨rfl, hG8, hF8, hI8, d8, s8⟩
              rw [y5] at d8
              replace hF8 : FRM gRL [(0, 1, 2, 2), (0, 1, 5, 5), (0, 8, 1, 1), (0, 9, 0, 39), (0, 11, 1, 4), (0, 12, 0, 39)] h h8 := hF5.trans (hF8.mono rfl)
              have hI8b := hI8
              obtain ⟨j1, j2, j3, j4⟩ := hI8
              refine x_aload_n 114 hK rfl rfl rfl ?_
              refine x_iload_n 115 hK rfl rfl rfl ?_
              refine x_callV 118 hK hmono rfl rfl [.ref 17, .int (I s)] [] rfl rfl (Nat.le_of_ble_eq_true rfl) (Nat.le_of_ble_eq_true rfl) rfl (sp_17 (h := h8) hG8) (CLd_le (Nat.le_of_ble_eq_true rfl) (ctX5_hold hSP hG8 (by omega) (by omega))) ?_
              rintro v7 h7 ⟨rfl, hG7, hF7, a7, b7, c7⟩
              have d7 : gi h7 17 2 = gi h8 17 2 := FRM_gi hF7 (r := 11) rfl rfl
              have hI7 : RI h7 (i + 1) := RI_hold hI8b a7 b7 c7 (by rw [d7, if_neg (rk_40 (by omega)), Int.add_zero]) (Or.inr (by omega))
              replace hF7 : FRM gRL [(0, 1, 2, 2), (0, 1, 5, 5), (0, 8, 1, 1), (0, 9, 0, 39), (0, 11, 1, 4), (0, 12, 0, 39)] h h7 := hF8.trans (hF7.mono rfl)
              refine x_aload_n 119 hK rfl rfl rfl ?_
              refine x_iconst 120 hK rfl rfl ?_
              refine x_putZ 123 hK rfl rfl (sp_17 (h := h7) hG7) (by omega) ?_
              refine x_aload_n 124 hK rfl rfl rfl ?_
              refine x_dup 125 hK rfl rfl rfl ?_
              refine x_getE 128 hK rfl (Or.inl rfl) rfl (sp_1 (h := h7) hG7) (e := (gi h7 1 2)) (gi_a (by decide) _) ?_
              refine x_iconst 129 hK rfl rfl ?_
              refine x_iadd 130 hK rfl rfl ?_
              refine x_putI 133 hK rfl rfl (sp_1 (h := h7) hG7) ?_
              refine x_iconst 134 hK rfl rfl ?_
              exact x_zret hK rfl (by omega) ⟨⟨_, rfl, by omega⟩, GD_w0 (GD_w1 (hG7) (r := 11) rfl (by omega) rfl (by omega) (by omega)) (r := 1) rfl rfl, FRM_w (FRM_w (hF7) (r := 11) rfl rfl) (r := 1) rfl rfl, RI_same hI7 (by omega) ((gi_a (by decide) _).trans (gi_k (by decide) _)) ((gi_a (by decide) _).trans (gi_k (by decide) _)) fun k => (gi_a (by decide) _).trans (gi_a (by decide) _)⟩
            · refine x_iconst 93 hK rfl rfl ?_
              refine x_aload_n 94 hK rfl rfl rfl ?_
              refine x_getE 97 hK rfl (Or.inl rfl) rfl (sp_17 (h := h) hG) (e := (gi h 17 2)) (rfl) ?_
              refine x_ishlX 98 hK rfl rfl (fun q97 rq97 => ?_)
              refine x_goto 102 hK rfl rfl ?_
              refine x_iorX 103 hK rfl rfl (fun q102 rq102 => ?_)
              refine x_putI 106 hK rfl rfl (sp_17 (h := h) hG) ?_
              refine x_aload_n 107 hK rfl rfl rfl ?_
              refine x_iload 109 hK rfl rfl rfl ?_
              refine x_aload_n 110 hK rfl rfl rfl ?_
              have hG5 : GD gE gRL sh (wI h 17 3 q102) := GD_w0 (hG) (r := 11) rfl rfl
              have hF5 : FRM gRL [(0, 1, 2, 2), (0, 1, 5, 5), (0, 8, 1, 1), (0, 9, 0, 39), (0, 11, 1, 4), (0, 12, 0, 39)] h (wI h 17 3 q102) := FRM_w (FRM.rf) (r := 11) rfl rfl
              have hX5 : XI (wI h 17 3 q102) := xOk_ok rfl h _ hF5 hX
              have y5 : gi (wI h 17 3 q102) 17 2 = gi h 17 2 := gi_k (by decide) _
              have hI5 : RI (wI h 17 3 q102) i := RI_same hI2 (by omega) (gi_k (by decide) _) y5 fun k => gi_a (by decide) _
              refine x_callV 113 hK hmono rfl rfl [.ref 17, .int (I (rk s)), .ref b] [] rfl rfl (Nat.le_of_ble_eq_true rfl) (Nat.le_of_ble_eq_true rfl) rfl (sp_17 (h := h) hG) (CLd_le (Nat.le_of_ble_eq_true rfl) (ctX5_release hSP hG5 hX5 (by omega) hb hI5 (by omega))) ?_
              rintro v8 h8 ⟨rfl, hG8, hF8, hI8, d8, s8⟩
              rw [y5] at d8
              replace hF8 : FRM gRL [(0, 1, 2, 2), (0, 1, 5, 5), (0, 8, 1, 1), (0, 9, 0, 39), (0, 11, 1, 4), (0, 12, 0, 39)] h h8 := hF5.trans (hF8.mono rfl)
              have hI8b := hI8
              obtain ⟨j1, j2, j3, j4⟩ := hI8
              refine x_aload_n 114 hK rfl rfl rfl ?_
              refine x_iload_n 115 hK rfl rfl rfl ?_
              refine x_callV 118 hK hmono rfl rfl [.ref 17, .int (I s)] [] rfl rfl (Nat.le_of_ble_eq_true rfl) (Nat.le_of_ble_eq_true rfl) rfl (sp_17 (h := h8) hG8) (CLd_le (Nat.le_of_ble_eq_true rfl) (ctX5_hold hSP hG8 (by omega) (by omega))) ?_
              rintro v7 h7 ⟨rfl, hG7, hF7, a7, b7, c7⟩
              have d7 : gi h7 17 2 = gi h8 17 2 := FRM_gi hF7 (r := 11) rfl rfl
              have hI7 : RI h7 (i + 1) := RI_hold hI8b a7 b7 c7 (by rw [d7, if_neg (rk_40 (by omega)), Int.add_zero]) (Or.inr (by omega))
              replace hF7 : FRM gRL [(0, 1, 2, 2), (0, 1, 5, 5), (0, 8, 1, 1), (0, 9, 0, 39), (0, 11, 1, 4), (0, 12, 0, 39)] h h7 := hF8.trans (hF7.mono rfl)
              refine x_aload_n 119 hK rfl rfl rfl ?_
              refine x_iconst 120 hK rfl rfl ?_
              refine x_putZ 123 hK rfl rfl (sp_17 (h := h7) hG7) (by omega) ?_
              refine x_aload_n 124 hK rfl rfl rfl ?_
              refine x_dup 125 hK rfl rfl rfl ?_
              refine x_getE 128 hK rfl (Or.inl rfl) rfl (sp_1 (h := h7) hG7) (e := (gi h7 1 2)) (gi_a (by decide) _) ?_
              refine x_iconst 129 hK rfl rfl ?_
              refine x_iadd 130 hK rfl rfl ?_
              refine x_putI 133 hK rfl rfl (sp_1 (h := h7) hG7) ?_
              refine x_iconst 134 hK rfl rfl ?_
              exact x_zret hK rfl (by omega) ⟨⟨_, rfl, by omega⟩, GD_w0 (GD_w1 (hG7) (r := 11) rfl (by omega) rfl (by omega) (by omega)) (r := 1) rfl rfl, FRM_w (FRM_w (hF7) (r := 11) rfl rfl) (r := 1) rfl rfl, RI_same hI7 (by omega) ((gi_a (by decide) _).trans (gi_k (by decide) _)) ((gi_a (by decide) _).trans (gi_k (by decide) _)) fun k => (gi_a (by decide) _).trans (gi_a (by decide) _)⟩
          · refine x_iconst 80 hK rfl rfl ?_
            exact x_zret hK rfl (by omega) ⟨⟨_, rfl, by omega⟩, hG, FRM.rf, RI_same hI2 (by omega) rfl rfl fun _ => rfl⟩
    · refine x_aload_n 25 hK rfl rfl rfl ?_
      refine x_iconst 26 hK rfl rfl ?_
      refine x_aload_n 27 hK rfl rfl rfl ?_
      have hG5 : GD gE gRL sh h := hG
      have hF5 : FRM gRL [(0, 1, 2, 2), (0, 1, 5, 5), (0, 8, 1, 1), (0, 9, 0, 39), (0, 11, 1, 4), (0, 12, 0, 39)] h h := FRM.rf
      have hX5 : XI h := xOk_ok rfl h _ hF5 hX
      have y5 : gi h 17 2 = gi h 17 2 := rfl
      have hI5 : RI h i := RI_same hI2 (by omega) (rfl) y5 fun k => rfl
      refine x_callV 30 hK hmono rfl rfl [.ref 17, .int (I 1), .ref b] [] rfl rfl (Nat.le_of_ble_eq_true rfl) (Nat.le_of_ble_eq_true rfl) rfl (sp_17 (h := h) hG) (CLd_le (Nat.le_of_ble_eq_true rfl) (ctX5_release hSP hG5 hX5 (by omega) hb hI5 (by omega))) ?_
      rintro v8 h8 ⟨rfl, hG8, hF8, hI8, d8, s8⟩
      rw [y5] at d8
      replace hF8 : FRM gRL [(0, 1, 2, 2), (0, 1, 5, 5), (0, 8, 1, 1), (0, 9, 0, 39), (0, 11, 1, 4), (0, 12, 0, 39)] h h8 := hF5.trans (hF8.mono rfl)
      have hI8b := hI8
      obtain ⟨j1, j2, j3, j4⟩ := hI8
      refine x_aload_n 31 hK rfl rfl rfl ?_
      refine x_dup 32 hK rfl rfl rfl ?_
      refine x_getE 35 hK rfl (Or.inl rfl) rfl (sp_17 (h := h8) hG8) (e := (gi h8 17 1)) (rfl) ?_
      refine x_iconst 36 hK rfl rfl ?_
      refine x_isub 37 hK rfl rfl ?_
      refine x_putI 40 hK rfl rfl (sp_17 (h := h8) hG8) ?_
      refine x_aload_n 41 hK rfl rfl rfl ?_
      refine x_dup 42 hK rfl rfl rfl ?_
      refine x_getE 45 hK rfl (Or.inl rfl) rfl (sp_17 (h := h8) hG8) (e := (gi h8 17 2)) (gi_k (by decide) _) ?_
      refine x_iconst 46 hK rfl rfl ?_
      refine x_isub 47 hK rfl rfl ?_
      refine x_putI 50 hK rfl rfl (sp_17 (h := h8) hG8) ?_
      refine x_goto 123 hK rfl rfl ?_
      refine x_aload_n 124 hK rfl rfl rfl ?_
      refine x_dup 125 hK rfl rfl rfl ?_
      refine x_getE 128 hK rfl (Or.inl rfl) rfl (sp_1 (h := h8) hG8) (e := (gi h8 1 2)) ((gi_a (by decide) _).trans (gi_a (by decide) _)) ?_
      refine x_iconst 129 hK rfl rfl ?_
      refine x_iadd 130 hK rfl rfl ?_
      refine x_putI 133 hK rfl rfl (sp_1 (h := h8) hG8) ?_
      refine x_iconst 134 hK rfl rfl ?_
      have e1 : gi h8 17 1 ≠ 0 := fun z => by
        rw [z] at j3
        have : cnp h8 (0 : Int).toNat = 0 := rfl
        omega
      have e5 : (gi h8 17 1).toNat = (gi h8 17 1 - 1).toNat + 1 := by omega
      have e6 := j4 (gi h8 17 1 - 1).toNat (by omega)
      have e7 : gi h8 18 (gi h8 17 1 - 1).toNat = 40 := by omega
      rw [e5] at j3
      have j3 : cnp h8 _ + _ = _ := j3
      rw [if_pos e7] at j3
      have y1 : ∀ k, gi (wI (wI (wI h8 17 1 ((gi h8 17 1) - 1)) 17 2 ((gi h8 17 2) - 1)) 1 2 ((gi h8 1 2) + 1)) 18 k = gi h8 18 k := fun k => (gi_a (by decide) _).trans ((gi_a (by decide) _).trans (gi_a (by decide) _))
      have y2 : gi (wI (wI (wI h8 17 1 ((gi h8 17 1) - 1)) 17 2 ((gi h8 17 2) - 1)) 1 2 ((gi h8 1 2) + 1)) 17 1 = gi h8 17 1 - 1 := (gi_a (by decide) _).trans ((gi_k (by decide) _).trans (gi_same (by omega)))
      have y3 : gi (wI (wI (wI h8 17 1 ((gi h8 17 1) - 1)) 17 2 ((gi h8 17 2) - 1)) 1 2 ((gi h8 1 2) + 1)) 17 2 = gi h8 17 2 - 1 := (gi_a (by decide) _).trans (gi_same (by omega))
      refine x_zret hK rfl (by omega) ⟨⟨_, rfl, by omega⟩, GD_w0 (GD_w1 (GD_w1 (hG8) (r := 11) rfl (by omega) rfl (by omega) (by omega)) (r := 11) rfl (by omega) rfl (by omega) (by omega)) (r := 1) rfl rfl, FRM_w (FRM_w (FRM_w (hF8) (r := 11) rfl rfl) (r := 11) rfl rfl) (r := 1) rfl rfl, by omega, by omega, ?_, fun j hj => ?_⟩
      · rw [y2, y3, cnp_eq _ (fun j _ => y1 j)]; omega
      · rw [y1]; exact j4 j (by omega)
theorem ctX5_readFrom {SP : CT} (hSP : MONO SP) {sh : List (Nat × Nat)} {h : aH} (hG : GD gE gRL sh h) {b : Nat} (hX : XI h) (hb : gRL[b]? = some 8) : CLd SP 8 mX5_readFrom [.ref 17, .ref 1, .ref b] h 0 0 (fun rv h' => (∃ e, rv = some (.int (I e))) ∧ GD gE gRL sh h' ∧ FRM gRL [(0, 1, 2, 2), (0, 1, 5, 5), (0, 8, 1, 1), (0, 9, 0, 39), (0, 11, 1, 4), (0, 12, 0, 39)] h h') := by
  refine x_met _ rfl (Nat.le_of_ble_eq_true rfl) (fun K hK => ?_)
  have hmono := MONO_CLd hSP 7
  have loop : ∀ (m : Nat) (k : Int) (h1 : aH) (ls : List (Nat × Value)), ((40 - k).toNat = m) → 0 ≤ k → k ≤ 40 → lk ls 0 = some (.ref 17) → lk ls 1 = some (.ref 1) → lk ls 2 = some (.ref b) → lk ls 3 = some (.int (I k)) → RI h1 k → GD gE gRL sh h1 → FRM gRL [(0, 1, 2, 2), (0, 1, 5, 5), (0, 8, 1, 1), (0, 9, 0, 39), (0, 11, 1, 4), (0, 12, 0, 39)] h h1 → K 27 ls [] h1 0 0 := by
    intro m
    induction m using Nat.strongRecOn with
    | ind m ih =>
    intro k h1 ls hm h0 hk l0 l1 l2 l3 hI1 hG1 hF
    have hX1 : XI h1 := xOk_ok rfl h h1 hF hX
    have gw := gri 0 1 hG1 (a := 17) (r := 11) (k := 4) rfl rfl
    have gd := gri 0 4 hG1 (a := 17) (r := 11) (k := 2) rfl rfl
    refine x_iload_n 28 hK rfl rfl l3 ?_
    refine x_bipush 30 hK rfl rfl rfl ?_
    refine x_if_icmp_ge 80 33 hK rfl rfl rfl (by omega) (by omega) (fun c3 => ?_) (fun c3 => ?_)
    · refine x_aload_n 81 hK rfl rfl l0 ?_
      refine x_getE 84 hK rfl (Or.inr rfl) rfl (sp_17 (h := h1) hG1) (e := (gi h1 17 4)) (rfl) ?_
      refine x_if_ne 94 87 hK rfl rfl rfl (by omega) (fun c6 => ?_) (fun c6 => ?_)
      · refine x_aload_n 95 hK rfl rfl l1 ?_
        refine x_getE 98 hK rfl (Or.inl rfl) rfl (sp_1 (h := h1) hG1) (e := (gi h1 1 2)) (rfl) ?_
        exact x_iret hK rfl ⟨⟨_, rfl⟩, hG1, hF⟩
      · refine x_aload_n 88 hK rfl rfl l0 ?_
        refine x_getE 91 hK rfl (Or.inl rfl) rfl (sp_17 (h := h1) hG1) (e := (gi h1 17 2)) (rfl) ?_
        refine x_if_le 99 94 hK rfl rfl rfl (by omega) (fun c12 => ?_) (fun c12 => ?_)
        · refine x_aload_n 100 hK rfl rfl l0 ?_
          refine x_iconst 101 hK rfl rfl ?_
          refine x_aload_n 102 hK rfl rfl l2 ?_
          refine x_callV 105 hK hmono rfl rfl [.ref 17, .int (I 1), .ref b] [] rfl rfl (Nat.le_of_ble_eq_true rfl) (Nat.le_of_ble_eq_true rfl) rfl (sp_17 (h := h1) hG1) (CLd_le (Nat.le_of_ble_eq_true rfl) (ctX5_release hSP hG1 hX1 (by omega) hb hI1 (by omega))) ?_
          rintro v8 h8 ⟨rfl, hG8, hF8, -⟩
          replace hF8 : FRM gRL [(0, 1, 2, 2), (0, 1, 5, 5), (0, 8, 1, 1), (0, 9, 0, 39), (0, 11, 1, 4), (0, 12, 0, 39)] h h8 := hF.trans (hF8.mono rfl)
          refine x_aload_n 106 hK rfl rfl l1 ?_
          refine x_callV 109 hK hmono rfl rfl [.ref 1] [] rfl rfl (Nat.le_of_ble_eq_true rfl) (Nat.le_of_ble_eq_true rfl) rfl (sp_1 (h := h8) hG8) (CLd_le (Nat.le_of_ble_eq_true rfl) (kX9_faultAtEnd_0 hSP [.ref 1] _ (xOk_ok rfl h h8 hF8 hX) ⟨gv_r (by decide) rfl, trivial⟩ hG8 gov_n)) ?_
          rintro v9 h9 ⟨hG9, hF9, o9, m9, q9, -, -⟩
          obtain ⟨w, hw, rfl⟩ := int_ans m9 rfl q9
          replace hF9 : FRM gRL [(0, 1, 2, 2), (0, 1, 5, 5), (0, 8, 1, 1), (0, 9, 0, 39), (0, 11, 1, 4), (0, 12, 0, 39)] h h9 := hF8.trans (hF9.mono rfl)
          exact x_iret hK rfl ⟨⟨_, rfl⟩, hG9, hF9⟩
        · refine x_aload_n 95 hK rfl rfl l1 ?_
          refine x_getE 98 hK rfl (Or.inl rfl) rfl (sp_1 (h := h1) hG1) (e := (gi h1 1 2)) (rfl) ?_
          exact x_iret hK rfl ⟨⟨_, rfl⟩, hG1, hF⟩
    · refine x_aload_n 34 hK rfl rfl l1 ?_
      refine x_callV 37 hK hmono rfl rfl [.ref 1] [] rfl rfl (Nat.le_of_ble_eq_true rfl) (Nat.le_of_ble_eq_true rfl) rfl (sp_1 (h := h1) hG1) (CLd_le (Nat.le_of_ble_eq_true rfl) (ctX9_ended hSP hG1)) ?_
      rintro v9 h9 ⟨e9, ⟨rfl, j1⟩ | ⟨rfl, j1⟩⟩ <;> rw [e9] <;> clear e9
      · refine x_if_ne 80 40 hK rfl rfl rfl (by omega) (fun _ => ?_) (fun c => by omega)
        refine x_aload_n 81 hK rfl rfl l0 ?_
        refine x_getE 84 hK rfl (Or.inr rfl) rfl (sp_17 (h := h1) hG1) (e := (gi h1 17 4)) (rfl) ?_
        refine x_if_ne 94 87 hK rfl rfl rfl (by omega) (fun c28 => ?_) (fun c28 => ?_)
        · refine x_aload_n 95 hK rfl rfl l1 ?_
          refine x_getE 98 hK rfl (Or.inl rfl) rfl (sp_1 (h := h1) hG1) (e := (gi h1 1 2)) (rfl) ?_
          exact x_iret hK rfl ⟨⟨_, rfl⟩, hG1, hF⟩
        · refine x_aload_n 88 hK rfl rfl l0 ?_
          refine x_getE 91 hK rfl (Or.inl rfl) rfl (sp_17 (h := h1) hG1) (e := (gi h1 17 2)) (rfl) ?_
          refine x_if_le 99 94 hK rfl rfl rfl (by omega) (fun c34 => ?_) (fun c34 => ?_)
          · refine x_aload_n 100 hK rfl rfl l0 ?_
            refine x_iconst 101 hK rfl rfl ?_
            refine x_aload_n 102 hK rfl rfl l2 ?_
            refine x_callV 105 hK hmono rfl rfl [.ref 17, .int (I 1), .ref b] [] rfl rfl (Nat.le_of_ble_eq_true rfl) (Nat.le_of_ble_eq_true rfl) rfl (sp_17 (h := h1) hG1) (CLd_le (Nat.le_of_ble_eq_true rfl) (ctX5_release hSP hG1 hX1 (by omega) hb hI1 (by omega))) ?_
            rintro v8 h8 ⟨rfl, hG8, hF8, -⟩
            replace hF8 : FRM gRL [(0, 1, 2, 2), (0, 1, 5, 5), (0, 8, 1, 1), (0, 9, 0, 39), (0, 11, 1, 4), (0, 12, 0, 39)] h h8 := hF.trans (hF8.mono rfl)
            refine x_aload_n 106 hK rfl rfl l1 ?_
            refine x_callV 109 hK hmono rfl rfl [.ref 1] [] rfl rfl (Nat.le_of_ble_eq_true rfl) (Nat.le_of_ble_eq_true rfl) rfl (sp_1 (h := h8) hG8) (CLd_le (Nat.le_of_ble_eq_true rfl) (kX9_faultAtEnd_0 hSP [.ref 1] _ (xOk_ok rfl h h8 hF8 hX) ⟨gv_r (by decide) rfl, trivial⟩ hG8 gov_n)) ?_
            rintro v9 h9 ⟨hG9, hF9, o9, m9, q9, -, -⟩
            obtain ⟨w, hw, rfl⟩ := int_ans m9 rfl q9
            replace hF9 : FRM gRL [(0, 1, 2, 2), (0, 1, 5, 5), (0, 8, 1, 1), (0, 9, 0, 39), (0, 11, 1, 4), (0, 12, 0, 39)] h h9 := hF8.trans (hF9.mono rfl)
            exact x_iret hK rfl ⟨⟨_, rfl⟩, hG9, hF9⟩
          · refine x_aload_n 95 hK rfl rfl l1 ?_
            refine x_getE 98 hK rfl (Or.inl rfl) rfl (sp_1 (h := h1) hG1) (e := (gi h1 1 2)) (rfl) ?_
            exact x_iret hK rfl ⟨⟨_, rfl⟩, hG1, hF⟩
      · refine x_if_ne 80 40 hK rfl rfl rfl (by omega) (fun c => by omega) (fun _ => ?_)
        refine x_aload_n 41 hK rfl rfl l0 ?_
        refine x_getE 44 hK rfl (Or.inr rfl) rfl (sp_17 (h := h1) hG1) (e := (gi h1 17 4)) (rfl) ?_
        refine x_if_eq 56 47 hK rfl rfl rfl (by omega) (fun c48 => ?_) (fun c48 => ?_)
        · refine x_aload_n 57 hK rfl rfl l0 ?_
          refine x_aload_n 58 hK rfl rfl l1 ?_
          refine x_aload_n 59 hK rfl rfl l2 ?_
          refine x_callV 62 hK hmono rfl rfl [.ref 17, .ref 1, .ref b] [] rfl rfl (Nat.le_of_ble_eq_true rfl) (Nat.le_of_ble_eq_true rfl) rfl (sp_17 (h := h1) hG1) (CLd_le (Nat.le_of_ble_eq_true rfl) (ctX5_takeOperator hSP hG1 hX1 hb hI1 (by omega))) ?_
          rintro v9 h9 ⟨⟨w, rfl, hw⟩, hG9, hF9, hI9⟩
          refine x_istore 64 hK rfl rfl _ rfl ?_
          refine x_iload 66 hK rfl rfl lk1_s ?_
          refine x_if_ne 74 69 hK rfl rfl rfl (by omega) (fun c55 => ?_) (fun c55 => ?_)
          · refine x_iinc 77 hK rfl rfl (lk1_n l3 (by decide) (Or.inl rfl)) _ rfl ?_
            refine x_goto 27 hK rfl rfl ?_
            exact ih _ (by omega) (k + 1) h9 _ rfl (by omega) (by omega) (lk1_n (lk1_n l0 (by decide) (Or.inl rfl)) (by decide) (Or.inl rfl)) (lk1_n (lk1_n l1 (by decide) (Or.inl rfl)) (by decide) (Or.inl rfl)) (lk1_n (lk1_n l2 (by decide) (Or.inl rfl)) (by decide) (Or.inl rfl)) lk1_s hI9 hG9 (hF.trans hF9)
          · refine x_aload_n 70 hK rfl rfl (lk1_n l1 (by decide) (Or.inl rfl)) ?_
            refine x_getE 73 hK rfl (Or.inl rfl) rfl (sp_1 (h := h9) hG9) (e := (gi h9 1 2)) (rfl) ?_
            exact x_iret hK rfl ⟨⟨_, rfl⟩, hG9, (hF.trans hF9)⟩
        · refine x_aload_n 48 hK rfl rfl l0 ?_
          refine x_aload_n 49 hK rfl rfl l1 ?_
          refine x_aload_n 50 hK rfl rfl l2 ?_
          refine x_callV 53 hK hmono rfl rfl [.ref 17, .ref 1, .ref b] [] rfl rfl (Nat.le_of_ble_eq_true rfl) (Nat.le_of_ble_eq_true rfl) rfl (sp_17 (h := h1) hG1) (CLd_le (Nat.le_of_ble_eq_true rfl) (ctX5_takeThing hSP hG1 hX1 hb hI1 (by omega))) ?_
          rintro v9 h9 ⟨⟨w, rfl, hw⟩, hG9, hF9, hI9⟩
          refine x_goto 62 hK rfl rfl ?_
          refine x_istore 64 hK rfl rfl _ rfl ?_
          refine x_iload 66 hK rfl rfl lk1_s ?_
          refine x_if_ne 74 69 hK rfl rfl rfl (by omega) (fun c69 => ?_) (fun c69 => ?_)
          · refine x_iinc 77 hK rfl rfl (lk1_n l3 (by decide) (Or.inl rfl)) _ rfl ?_
            refine x_goto 27 hK rfl rfl ?_
            exact ih _ (by omega) (k + 1) h9 _ rfl (by omega) (by omega) (lk1_n (lk1_n l0 (by decide) (Or.inl rfl)) (by decide) (Or.inl rfl)) (lk1_n (lk1_n l1 (by decide) (Or.inl rfl)) (by decide) (Or.inl rfl)) (lk1_n (lk1_n l2 (by decide) (Or.inl rfl)) (by decide) (Or.inl rfl)) lk1_s hI9 hG9 (hF.trans hF9)
          · refine x_aload_n 70 hK rfl rfl (lk1_n l1 (by decide) (Or.inl rfl)) ?_
            refine x_getE 73 hK rfl (Or.inl rfl) rfl (sp_1 (h := h9) hG9) (e := (gi h9 1 2)) (rfl) ?_
            exact x_iret hK rfl ⟨⟨_, rfl⟩, hG9, (hF.trans hF9)⟩
  have hbne : 17 ≠ b := fun z => by
    rw [← z] at hb
    exact absurd hb (by decide)
  refine x_aload_n 1 hK rfl rfl rfl ?_
  refine x_iconst 2 hK rfl rfl ?_
  refine x_putI 5 hK rfl rfl (shx (h := h) hG hb rfl) ?_
  refine x_aload_n 6 hK rfl rfl rfl ?_
  refine x_iconst 7 hK rfl rfl ?_
  refine x_putI 10 hK rfl rfl (sp_17 (h := h) hG) ?_
  refine x_aload_n 11 hK rfl rfl rfl ?_
  refine x_iconst 12 hK rfl rfl ?_
  refine x_putI 15 hK rfl rfl (sp_17 (h := h) hG) ?_
  refine x_aload_n 16 hK rfl rfl rfl ?_
  refine x_iconst 17 hK rfl rfl ?_
  refine x_putI 20 hK rfl rfl (sp_17 (h := h) hG) ?_
  refine x_aload_n 21 hK rfl rfl rfl ?_
  refine x_iconst 22 hK rfl rfl ?_
  refine x_putZ 25 hK rfl rfl (sp_17 (h := h) hG) (by omega) ?_
  refine x_iconst 26 hK rfl rfl ?_
  refine x_istore_n 27 hK rfl rfl [(3, .int (I 0)), (0, .ref 17), (1, .ref 1), (2, .ref b)] rfl ?_
  refine loop _ 0 _ _ rfl (by omega) (by omega) rfl rfl rfl rfl ⟨?_, ?_, ?_, fun j hj => ?_⟩ (GD_w1 (GD_w0 (GD_w1 (GD_w1 (GD_w1 (hG) (r := 8) hb (by omega) rfl (by omega) (by omega)) (r := 11) rfl (by omega) rfl (by omega) (by omega)) (r := 11) rfl (by omega) rfl (by omega) (by omega)) (r := 11) rfl rfl) (r := 11) rfl (by omega) rfl (by omega) (by omega)) (FRM_w (FRM_w (FRM_w (FRM_w (FRM_w (FRM.rf) (r := 8) hb rfl) (r := 11) rfl rfl) (r := 11) rfl rfl) (r := 11) rfl rfl) (r := 11) rfl rfl)
  · rw [show gi (wI (wI (wI (wI (wI h b 1 0) 17 1 0) 17 2 0) 17 3 0) 17 4 1) 17 1 = 0 from (gi_k (by decide) _).trans ((gi_k (by decide) _).trans ((gi_k (by decide) _).trans (gi_same (by omega))))]; omega
  · rw [show gi (wI (wI (wI (wI (wI h b 1 0) 17 1 0) 17 2 0) 17 3 0) 17 4 1) 17 1 = 0 from (gi_k (by decide) _).trans ((gi_k (by decide) _).trans ((gi_k (by decide) _).trans (gi_same (by omega))))]; omega
  · rw [show gi (wI (wI (wI (wI (wI h b 1 0) 17 1 0) 17 2 0) 17 3 0) 17 4 1) 17 1 = 0 from (gi_k (by decide) _).trans ((gi_k (by decide) _).trans ((gi_k (by decide) _).trans (gi_same (by omega)))), show gi (wI (wI (wI (wI (wI h b 1 0) 17 1 0) 17 2 0) 17 3 0) 17 4 1) 17 2 = 0 from (gi_k (by decide) _).trans ((gi_k (by decide) _).trans (gi_same (by omega)))]; rfl
  · rw [show gi (wI (wI (wI (wI (wI h b 1 0) 17 1 0) 17 2 0) 17 3 0) 17 4 1) 17 1 = 0 from (gi_k (by decide) _).trans ((gi_k (by decide) _).trans ((gi_k (by decide) _).trans (gi_same (by omega))))] at hj; omega
/-- what is said of the state's places -/
def clsB : Bool := (eG gE 61).all fun q => (Nat.beq q.1 1 && Nat.beq q.2.1 1 && decide (q.2.2 = (0, 8))) || (Nat.beq q.1 3 && Nat.beq q.2.1 3 && decide (q.2.2 = (0, 12))) || (List.range 12).any fun j => Nat.beq q.1 (6 + 3 * j) && Nat.beq q.2.1 (6 + 3 * j) && decide (q.2.2 = (-1, 1))
theorem clsB_t : clsB = true := by decide +kernel
theorem cls61 {q : Nat × Nat × Int × Int} (hq : q ∈ eG gE 61) : (q.1 = 1 ∧ q.2.1 = 1 ∧ q.2.2 = (0, 8)) ∨ (q.1 = 3 ∧ q.2.1 = 3 ∧ q.2.2 = (0, 12)) ∨ ∃ j, j < 12 ∧ q.1 = 6 + 3 * j ∧ q.2.1 = 6 + 3 * j ∧ q.2.2 = (-1, 1) := by
  have z := List.all_eq_true.mp clsB_t q hq
  simp only [Bool.or_eq_true, Bool.and_eq_true, Nat.beq_eq, decide_eq_true_eq] at z
  rcases z with (z | z) | z
  · exact Or.inl ⟨z.1.1, z.1.2, z.2⟩
  · exact Or.inr (Or.inl ⟨z.1.1, z.1.2, z.2⟩)
  · obtain ⟨j, hj, y⟩ := List.any_eq_true.mp z
    simp only [Bool.and_eq_true, Nat.beq_eq, decide_eq_true_eq] at y
    exact Or.inr (Or.inr ⟨j, List.mem_range.mp hj, y.1.1, y.1.2, y.2⟩)
def inB : Bool := (List.range 12).all fun j => decide ((6 + 3 * j, 6 + 3 * j, -1, 1) ∈ eG gE 61)
theorem inB_t : inB = true := by decide +kernel
theorem in61 {j : Nat} (hj : j < 12) : (6 + 3 * j, 6 + 3 * j, -1, 1) ∈ eG gE 61 := of_decide_eq_true (List.all_eq_true.mp inB_t j (List.mem_range.mpr hj))
/-- a place of the state is written: the lane, how many orders, their helms are bounded -/
theorem GD_st {sh : List (Nat × Nat)} {h : aH} {a r k : Nat} {e : Int} (hG : GD gE gRL sh h) (hr : gRL[a]? = some r) (h61 : eG gE r = eG gE 61) (h1 : k = 1 → 0 ≤ e ∧ e ≤ 8) (h3 : k = 3 → 0 ≤ e ∧ e ≤ 12) (hw : ∀ j, j < 12 → k = 6 + 3 * j → -1 ≤ e ∧ e ≤ 1) : GD gE gRL sh (wI h a k e) := by
  by_cases hc : k = 1 ∨ k = 3 ∨ ∃ j, j < 12 ∧ k = 6 + 3 * j
  · refine GD_w hG hr ?_ fun q hq l1 l2 => ?_
    · rcases hc with hc | hc | ⟨j, hj, hc⟩
      · have := h1 hc; omega
      · have := h3 hc; omega
      · have := hw j hj hc; omega
    rw [h61] at hq
    rcases cls61 hq with ⟨e1, e2, e3⟩ | ⟨e1, e2, e3⟩ | ⟨j, hj, e1, e2, e3⟩
    · rw [e3]; exact h1 (by omega)
    · rw [e3]; exact h3 (by omega)
    · rw [e3]; exact hw j hj (by omega)
  · refine GD_wX hG hr fun q hq l1 l2 => hc ?_
    rw [h61] at hq
    rcases cls61 hq with ⟨e1, e2, e3⟩ | ⟨e1, e2, e3⟩ | ⟨j, hj, e1, e2, e3⟩
    · exact Or.inl (by omega)
    · exact Or.inr (Or.inl (by omega))
    · exact Or.inr (Or.inr ⟨j, hj, by omega⟩)
theorem helm_ok {sh : List (Nat × Nat)} {h : aH} {a r : Nat} (hG : GD gE gRL sh h) (hr : gRL[a]? = some r) (h61 : eG gE r = eG gE 61) {j : Nat} (hj : j < 12) : -1 ≤ gi h a (6 + 3 * j) ∧ gi h a (6 + 3 * j) ≤ 1 :=
  hG.2.2.1 a r hr _ (by rw [h61]; exact in61 hj) _ (Nat.le_refl _) (Nat.le_refl _)
theorem ctX11_put {SP : CT} (hSP : MONO SP) {h : aH} {n : Int} (hn : r32 n) : CLd SP 1 mX11_put [.int (I n)] h 0 0 (fun rv h' => h' = h ∧ rv = some (.int (I (max 0 (min 8 n))))) := by
  refine x_met _ rfl (Nat.le_of_ble_eq_true rfl) (fun K hK => ?_)
  have hmono := MONO_CLd hSP 0
  refine x_iconst 1 hK rfl rfl ?_
  refine x_bipush 3 hK rfl rfl rfl ?_
  refine x_iload_n 4 hK rfl rfl rfl ?_
  refine x_min 7 hK rfl rfl (Nat.le_of_ble_eq_true rfl) (by omega) (by omega) ?_
  refine x_max 10 hK rfl rfl (Nat.le_of_ble_eq_true rfl) (by omega) (by omega) ?_
  exact x_iret hK rfl ⟨rfl, rfl⟩
theorem ctX11_doesDueT {SP : CT} (hSP : MONO SP) {sh : List (Nat × Nat)} {h : aH} (hG : GD gE gRL sh h) : CLd SP 4 mX11_doesDue [.ref 179] h 0 0 (fun rv h' => rv = none ∧ GD gE gRL sh h' ∧ FRM gRL [(0, 62, 1, 1), (0, 62, 3, 3), (0, 62, 5, 40)] h h') := by
  refine x_met _ rfl (Nat.le_of_ble_eq_true rfl) (fun K hK => ?_)
  have hmono := MONO_CLd hSP 3
  have gr0 := gi_r h 179 3
  have g3 := gri 0 12 hG (a := 179) (r := 62) (k := 3) rfl rfl
  have loop : ∀ (m : Nat) (k d : Int) (h1 : aH) (ls : List (Nat × Value)), ((gi h 179 3 - k).toNat = m) → 0 ≤ d → d ≤ k → k ≤ gi h 179 3 → lk ls 0 = some (.ref 179) → lk ls 1 = some (.int (I d)) → lk ls 2 = some (.int (I k)) → gi h1 179 3 = gi h 179 3 → GD gE gRL sh h1 → FRM gRL [(0, 62, 1, 1), (0, 62, 3, 3), (0, 62, 5, 40)] h h1 → K 4 ls [] h1 0 0 := by
    intro m
    induction m using Nat.strongRecOn with
    | ind m ih =>
    intro k d h1 ls hm h0 hd hk l0 l1 l2 hc hG1 hF
    have gr := gi_r h1 179
    have loop2 : ∀ (m : Nat) (i : Int) (h2 : aH) (ls : List (Nat × Value)), ((3 - i).toNat = m) → 0 ≤ i → i ≤ 3 → k < gi h 179 3 → lk ls 0 = some (.ref 179) → lk ls 1 = some (.int (I d)) → lk ls 2 = some (.int (I k)) → lk ls 3 = some (.int (I (5 + 3 * k))) → lk ls 4 = some (.int (I i)) → gi h2 179 3 = gi h 179 3 → GD gE gRL sh h2 → FRM gRL [(0, 62, 1, 1), (0, 62, 3, 3), (0, 62, 5, 40)] h h2 → K 49 ls [] h2 0 0 := by
      intro m2
      induction m2 using Nat.strongRecOn with
      | ind m2 ih2 =>
      intro i h2 ls hm2 i0 i3 hkk l0 l1 l2 l3 l4 hc2 hG2 hF2
      have gr2 := gi_r h2 179
      refine x_iload 51 hK rfl rfl l4 ?_
      refine x_iconst 52 hK rfl rfl ?_
      refine x_if_icmp_ge 77 55 hK rfl rfl rfl (by omega) (by omega) (fun c3 => ?_) (fun c3 => ?_)
      · refine x_iinc 80 hK rfl rfl l1 _ rfl ?_
        refine x_iinc 83 hK rfl rfl (lk1_n l2 (by decide) (Or.inl rfl)) _ rfl ?_
        refine x_goto 4 hK rfl rfl ?_
        exact ih _ (by omega) (k + 1) (d + 1) h2 _ rfl (by omega) (by omega) (by omega) (lk1_n (lk1_n l0 (by decide) (Or.inl rfl)) (by decide) (Or.inl rfl)) (lk1_n lk1_s (by decide) (Or.inl rfl)) lk1_s hc2 hG2 hF2
      · refine x_aload_n 56 hK rfl rfl l0 ?_
        refine x_iconst 57 hK rfl rfl ?_
        refine x_iconst 58 hK rfl rfl ?_
        refine x_iload_n 59 hK rfl rfl l1 ?_
        refine x_imul 60 hK rfl rfl ?_
        refine x_iadd 61 hK rfl rfl ?_
        refine x_iload 63 hK rfl rfl l4 ?_
        refine x_iadd 64 hK rfl rfl ?_
        refine x_aload_n 65 hK rfl rfl l0 ?_
        refine x_iload_n 66 hK rfl rfl l3 ?_
        refine x_iload 68 hK rfl rfl l4 ?_
        refine x_iadd 69 hK rfl rfl ?_
        refine x_ialoadE 70 hK rfl rfl (sp_179 (h := h2) hG2) (by omega) (by omega) (by omega) (e' := (gi h2 179 ((5 + 3 * k) + i).toNat)) (rfl) ?_
        refine x_iastore 71 hK rfl rfl (sp_179 (h := h2) hG2) (by omega) (by omega) (by omega) ?_
        refine x_iinc 74 hK rfl rfl l4 _ rfl ?_
        refine x_goto 49 hK rfl rfl ?_
        have hne : (((5 + (3 * d)) + i)).toNat ≠ 3 := by omega
        refine ih2 _ (by omega) (i + 1) _ _ rfl (by omega) (by omega) hkk (lk1_n l0 (by decide) (Or.inl rfl)) (lk1_n l1 (by decide) (Or.inl rfl)) (lk1_n l2 (by decide) (Or.inl rfl)) (lk1_n l3 (by decide) (Or.inl rfl)) lk1_s ((gi_k (fun z => hne z.symm) _).trans hc2) (GD_st hG2 (r := 62) rfl rfl (fun z => by omega) (fun z => by omega) fun j hj z => ?_) (FRM_wn 5 40 hF2 (r := 62) rfl rfl rfl (by omega) (by omega))
        have e6 : ((5 + 3 * k) + i).toNat = 6 + 3 * k.toNat := by omega
        rw [e6]
        exact helm_ok hG2 (r := 62) rfl rfl (by omega)
    refine x_iload_n 5 hK rfl rfl l2 ?_
    refine x_aload_n 6 hK rfl rfl l0 ?_
    refine x_iconst 7 hK rfl rfl ?_
    refine x_ialoadE 8 hK rfl rfl (sp_179 (h := h1) hG1) (by omega) (by omega) (by omega) (e' := gi h 179 3) hc ?_
    refine x_if_icmp_ge 86 11 hK rfl rfl rfl (by first | omega | exact gr _) (by first | omega | exact gr _) (fun c5 => ?_) (fun c5 => ?_)
    · refine x_aload_n 87 hK rfl rfl l0 ?_
      refine x_iconst 88 hK rfl rfl ?_
      refine x_iload_n 89 hK rfl rfl l1 ?_
      refine x_iastore 90 hK rfl rfl (sp_179 (h := h1) hG1) (by first | omega | exact gr _) (by first | omega | exact gr _) (by first | omega | exact gr _) ?_
      exact x_vret hK rfl ⟨rfl, GD_st hG1 (r := 62) rfl rfl (fun z => by omega) (fun z => by omega) (fun j hj z => by omega), FRM_w hF (r := 62) rfl rfl⟩
    · refine x_iconst 12 hK rfl rfl ?_
      refine x_iconst 13 hK rfl rfl ?_
      refine x_iload_n 14 hK rfl rfl l2 ?_
      refine x_imul 15 hK rfl rfl ?_
      refine x_iadd 16 hK rfl rfl ?_
      refine x_istore_n 17 hK rfl rfl _ rfl ?_
      refine x_aload_n 18 hK rfl rfl (lk1_n l0 (by decide) (Or.inl rfl)) ?_
      refine x_iload_n 19 hK rfl rfl lk1_s ?_
      refine x_iconst 20 hK rfl rfl ?_
      refine x_iadd 21 hK rfl rfl ?_
      refine x_ialoadE 22 hK rfl rfl (sp_179 (h := h1) hG1) (by first | omega | exact gr _) (by first | omega | exact gr _) (by first | omega | exact gr _) (e' := (gi h1 179 ((5 + (3 * k)) + 0).toNat)) (rfl) ?_
      refine x_aload_n 23 hK rfl rfl (lk1_n l0 (by decide) (Or.inl rfl)) ?_
      refine x_iconst 24 hK rfl rfl ?_
      refine x_ialoadE 25 hK rfl rfl (sp_179 (h := h1) hG1) (by first | omega | exact gr _) (by first | omega | exact gr _) (by first | omega | exact gr _) (e' := (gi h1 179 0)) (rfl) ?_
      refine x_if_icmp_ne 46 28 hK rfl rfl rfl (by first | omega | exact gr _) (by first | omega | exact gr _) (fun c25 => ?_) (fun c25 => ?_)
      · refine x_iconst 47 hK rfl rfl ?_
        refine x_istore 49 hK rfl rfl _ rfl ?_
        exact loop2 _ 0 h1 _ rfl (by omega) (by omega) (by omega) (lk1_n (lk1_n l0 (by decide) (Or.inl rfl)) (by decide) (Or.inl rfl)) (lk1_n (lk1_n l1 (by decide) (Or.inl rfl)) (by decide) (Or.inl rfl)) (lk1_n (lk1_n l2 (by decide) (Or.inl rfl)) (by decide) (Or.inl rfl)) (lk1_n lk1_s (by decide) (Or.inl rfl)) lk1_s hc hG1 hF
      · refine x_aload_n 29 hK rfl rfl (lk1_n l0 (by decide) (Or.inl rfl)) ?_
        refine x_iconst 30 hK rfl rfl ?_
        refine x_aload_n 31 hK rfl rfl (lk1_n l0 (by decide) (Or.inl rfl)) ?_
        refine x_iconst 32 hK rfl rfl ?_
        refine x_ialoadE 33 hK rfl rfl (sp_179 (h := h1) hG1) (by first | omega | exact gr _) (by first | omega | exact gr _) (by first | omega | exact gr _) (e' := (gi h1 179 1)) (rfl) ?_
        refine x_aload_n 34 hK rfl rfl (lk1_n l0 (by decide) (Or.inl rfl)) ?_
        refine x_iload_n 35 hK rfl rfl lk1_s ?_
        refine x_iconst 36 hK rfl rfl ?_
        refine x_iadd 37 hK rfl rfl ?_
        refine x_ialoadE 38 hK rfl rfl (sp_179 (h := h1) hG1) (by first | omega | exact gr _) (by first | omega | exact gr _) (by first | omega | exact gr _) (e' := (gi h1 179 ((5 + (3 * k)) + 1).toNat)) (rfl) ?_
        refine x_iadd 39 hK rfl rfl ?_
        have gl := gri 0 8 hG1 (a := 179) (r := 62) (k := 1) rfl rfl
        have gh := helm_ok hG1 (a := 179) (r := 62) rfl rfl (j := k.toNat) (by omega)
        rw [show 6 + 3 * k.toNat = ((5 + 3 * k) + 1).toNat by omega] at gh
        refine x_callS 42 hK hmono rfl (Or.inl rfl) rfl [.int (I ((gi h1 179 1) + (gi h1 179 ((5 + (3 * k)) + 1).toNat)))] [.int (I 1), .ref 179] rfl rfl (Nat.le_of_ble_eq_true rfl) (Nat.le_of_ble_eq_true rfl) (CLd_le (Nat.le_of_ble_eq_true rfl) (ctX11_put hSP (by omega))) ?_
        rintro v9 h9 ⟨e9, rfl⟩
        rw [e9]
        clear e9
        refine x_iastore 43 hK rfl rfl (sp_179 (h := h1) hG1) (by first | omega | exact gr _) (by first | omega | exact gr _) (by first | omega | exact gr _) ?_
        refine x_goto 80 hK rfl rfl ?_
        refine x_iinc 83 hK rfl rfl (lk1_n l2 (by decide) (Or.inl rfl)) _ rfl ?_
        refine x_goto 4 hK rfl rfl ?_
        refine ih _ (by omega) (k + 1) d _ _ rfl (by omega) (by omega) (by omega) (lk1_n (lk1_n l0 (by decide) (Or.inl rfl)) (by decide) (Or.inl rfl)) (lk1_n (lk1_n l1 (by decide) (Or.inl rfl)) (by decide) (Or.inl rfl)) lk1_s ((gi_k (by decide) _).trans hc) (GD_st hG1 (r := 62) rfl rfl (fun z => by omega) (fun z => by omega) fun j hj z => by omega) (FRM_w hF (r := 62) rfl rfl)
  refine x_iconst 1 hK rfl rfl ?_
  refine x_istore_n 2 hK rfl rfl [(1, .int (I 0)), (0, .ref 179)] rfl ?_
  refine x_iconst 3 hK rfl rfl ?_
  refine x_istore_n 4 hK rfl rfl [(2, .int (I 0)), (1, .int (I 0)), (0, .ref 179)] rfl ?_
  exact loop _ 0 0 h _ rfl (by omega) (by omega) (by omega) rfl rfl rfl rfl hG FRM.rf
