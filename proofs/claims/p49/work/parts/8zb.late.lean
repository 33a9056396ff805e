section
/-! LATE -/
theorem dlA_12 (h : aH) (t : Int) : dlA h (t + 12) = dlA h t := by
  have e : askF h (t + 12) = askF h t := by
    funext q
    unfold askF
    rw [show (t + 12) % 12 = t % 12 by omega]
  unfold dlA
  rw [e]
/-- when an order of STEP k from now is done -/
noncomputable def dnF (h : aH) (t : Int) (k : Nat) : Int := (k : Int) + dlA h (t + k)
theorem dnF_b (h : aH) (t : Int) (k : Nat) : (k : Int) + 1 ≤ dnF h t k ∧ dnF h t k ≤ k + 12 := by
  have := dlA_b h (t + k)
  unfold dnF
  omega
theorem dnF_12 (h : aH) (t : Int) (k : Nat) : dnF h t (k + 12) = dnF h t k + 12 := by
  unfold dnF
  rw [show t + ((k + 12 : Nat) : Int) = t + (k : Int) + 12 by omega, dlA_12]
  omega
/-- it is overtaken by one of those from STEP a on, n of them -/
noncomputable def ovF (f : Nat → Int) (v : Int) (a : Int) : Nat → Bool
  | 0 => false
  | n + 1 => ovF f v a n || decide (f (a + n).toNat < v)
theorem ovF_s {f : Nat → Int} {v a i : Int} (h : a ≤ i) : ovF f v a (i + 1 - a).toNat = (ovF f v a (i - a).toNat || decide (f i.toNat < v)) := by
  rw [show (i + 1 - a).toNat = (i - a).toNat + 1 by omega]
  show (ovF f v a (i - a).toNat || decide (f (a + ((i - a).toNat : Int)).toNat < v)) = _
  rw [show a + ((i - a).toNat : Int) = i by omega]
theorem ovF_t {f : Nat → Int} {v a : Int} : ∀ {n m : Nat}, n ≤ m → ovF f v a n = true → ovF f v a m = true
  | n, 0, h, e => by
    have : n = 0 := by omega
    rw [this] at e
    exact e
  | n, m + 1, h, e => by
    by_cases c : n = m + 1
    · rw [← c]; exact e
    · show (ovF f v a m || _) = true
      rw [ovF_t (show n ≤ m by omega) e]
      rfl
/-- how many of the first i -/
noncomputable def ltF (f : Nat → Int) (n : Int) : Nat → Int
  | 0 => 0
  | i + 1 => ltF f n i + b2i (ovF f (f i) (i + 1) (n - (i + 1)).toNat)
theorem ltF_s {f : Nat → Int} {n i : Int} (h : 0 ≤ i) : ltF f n (i + 1).toNat = ltF f n i.toNat + b2i (ovF f (f i.toNat) (i + 1) (n - (i + 1)).toNat) := by
  rw [tn_s h]
  show ltF f n i.toNat + b2i (ovF f (f i.toNat) ((i.toNat : Int) + 1) (n - ((i.toNat : Int) + 1)).toNat) = _
  rw [show ((i.toNat : Nat) : Int) = i by omega]
theorem ltF_b (f : Nat → Int) (n : Int) : ∀ i : Nat, 0 ≤ ltF f n i ∧ ltF f n i ≤ i
  | 0 => ⟨Int.le_refl _, Int.le_refl _⟩
  | i + 1 => by
    have := ltF_b f n i
    have z : 0 ≤ b2i (ovF f (f i) (i + 1) (n - (i + 1)).toNat) ∧ b2i (ovF f (f i) (i + 1) (n - (i + 1)).toNat) ≤ 1 := by cases ovF f (f i) (i + 1) (n - (i + 1)).toNat <;> decide
    show 0 ≤ ltF f n i + b2i _ ∧ ltF f n i + b2i _ ≤ ((i + 1 : Nat) : Int)
    omega
theorem b2i_01 (b : Bool) : 0 ≤ b2i b ∧ b2i b ≤ 1 := by cases b <;> decide
set_option maxRecDepth 4000 in
theorem ctX10_lookAheadF {SP : CT} (hSP : MONO SP) {sh : List (Nat × Nat)} {h : aH} (hG : GD gE gRL sh h) {s u : Nat} (hP : PT h) (hX : XI h) (hD : DR h s u) (h0 : 0 ≤ (gi h 23 0) ∧ (gi h 23 0) ≤ 1000000) (hml : ∀ j : Nat, (j : Int) < gi h 19 0 → 0 ≤ gi h 20 j ∧ gi h 20 j ≤ 999) : CLd SP 7 mX10_lookAhead [.ref 0] h 0 0 (fun rv h' => rv = none ∧ GD gE gRL sh h' ∧ FRM gRL [(0, 8, 3, 3), (0, 10, 0, 39), (0, 41, 5, 5), (0, 42, 0, 29), (0, 43, 0, 30)] h h' ∧ ∀ j : Nat, j < 30 → gi h' 128 j = dnF h (gi h 23 0) j) := by
  refine x_met _ rfl (Nat.le_of_ble_eq_true rfl) (fun K hK => ?_)
  have hmono := MONO_CLd hSP 6
  have hD2 := hD
  obtain ⟨h5, hu, pS, pL, ⟨c0, c1, c2⟩, r0, r1, r2⟩ := hD2
  have g19 := gri 0 16 hG (a := 19) (r := 13) (k := 0) rfl rfl
  have tm := tm2 (gi h 171 5)
  have rocks : ∀ (mz : Nat) (i : Int) (h4 : aH) (ls : List (Nat × Value)), ((gi h 19 0 - i).toNat = mz) → (0 ≤ i ∧ i ≤ gi h 19 0) → (∀ j : Nat, j < 30 → gi h4 128 j = dnF h (gi h 23 0) j) → lk ls 0 = some (.ref 0) → lk ls 1 = some (.int (I i)) → GD gE gRL sh h4 → FRM gRL [(0, 8, 3, 3), (0, 10, 0, 39), (0, 41, 5, 5), (0, 42, 0, 29), (0, 43, 0, 30)] h h4 → K 100 ls [] h4 0 0 := by
    intro mz
    induction mz using Nat.strongRecOn with
    | ind mz ih =>
    intro i h4 ls hm i0 dn l0 l1 hG4 hF4
    have gm := fun z : i < gi h 19 0 => hml i.toNat (by omega)
    have gl2 := fun z : i < gi h 19 0 => grn 0 8 hG (a := 21) (r := 15) (k := i.toNat) rfl rfl (by omega)
    refine x_iload_n 101 hK rfl rfl l1 ?_
    refine x_aload_n 102 hK rfl rfl l0 ?_
    refine x_getR 105 hK rfl rfl (sp_0 (h := h4) hG4) (rf_0_7 (h := h4) hG4) ?_
    have g579 := gri (0) (16) hG (a := 19) (r := 13) (k := 0) rfl rfl
    refine x_getE 108 hK rfl (Or.inl rfl) rfl (sp_19 (h := h4) hG4) (e := (gi h 19 0)) (FRM_gi hF4 (r := 13) rfl rfl) ?_
    refine x_if_icmp_ge 169 111 hK rfl rfl rfl (by omega) (by omega) (fun c5 => ?_) (fun c5 => ?_)
    · exact x_vret hK rfl ⟨rfl, hG4, hF4, dn⟩
    · have gm2 := gm (by omega)
      have gl3 := gl2 (by omega)
      refine x_aload_n 112 hK rfl rfl l0 ?_
      refine x_getR 115 hK rfl rfl (sp_0 (h := h4) hG4) (rf_0_7 (h := h4) hG4) ?_
      refine x_getR 118 hK rfl rfl (sp_19 (h := h4) hG4) (rf_19_1 (h := h4) hG4) ?_
      refine x_iload_n 119 hK rfl rfl l1 ?_
      have g580 := gi_r h 20 i.toNat
      refine x_ialoadE 120 hK rfl rfl (sp_20 (h := h4) hG4) (by omega) (by omega) (by omega) (e' := (gi h 20 i.toNat)) (FRM_gi hF4 (r := 14) rfl rfl) ?_
      refine x_aload_n 121 hK rfl rfl l0 ?_
      refine x_getR 124 hK rfl rfl (sp_0 (h := h4) hG4) (rf_0_10 (h := h4) hG4) ?_
      have g581 := gi_r h 23 0
      refine x_getE 127 hK rfl (Or.inl rfl) rfl (sp_23 (h := h4) hG4) (e := (gi h 23 0)) (FRM_gi hF4 (r := 17) rfl rfl) ?_
      refine x_isub 128 hK rfl rfl ?_
      refine x_istore_n 129 hK rfl rfl _ rfl ?_
      refine x_iload_n 130 hK rfl rfl lk1_s ?_
      refine x_iconst 131 hK rfl rfl ?_
      refine x_if_icmp_lt 163 134 hK rfl rfl rfl (by omega) (by omega) (fun c20 => ?_) (fun c20 => ?_)
      · refine x_iinc 166 hK rfl rfl (lk1_n l1 (by decide) (Or.inl rfl)) _ rfl ?_
        refine x_goto 100 hK rfl rfl ?_
        exact ih _ (by omega) (i + 1) _ _ rfl (by omega) (fun j hj => (rfl).trans (dn j hj)) (lk1_n (lk1_n l0 (by decide) (Or.inl rfl)) (by decide) (Or.inl rfl)) lk1_s (hG4) (hF4)
      · refine x_iload_n 135 hK rfl rfl lk1_s ?_
        refine x_bipush 137 hK rfl rfl rfl ?_
        refine x_if_icmp_gt 163 140 hK rfl rfl rfl (by omega) (by omega) (fun c26 => ?_) (fun c26 => ?_)
        · refine x_iinc 166 hK rfl rfl (lk1_n l1 (by decide) (Or.inl rfl)) _ rfl ?_
          refine x_goto 100 hK rfl rfl ?_
          exact ih _ (by omega) (i + 1) _ _ rfl (by omega) (fun j hj => (rfl).trans (dn j hj)) (lk1_n (lk1_n l0 (by decide) (Or.inl rfl)) (by decide) (Or.inl rfl)) lk1_s (hG4) (hF4)
        · refine x_aload_n 141 hK rfl rfl (lk1_n l0 (by decide) (Or.inl rfl)) ?_
          refine x_getR 144 hK rfl rfl (sp_0 (h := h4) hG4) (rf_0_13 (h := h4) hG4) ?_
          refine x_getR 147 hK rfl rfl (sp_127 (h := h4) hG4) (rf_127_1 (h := h4) hG4) ?_
          refine x_iload_n 148 hK rfl rfl lk1_s ?_
          refine x_dup2 149 hK rfl rfl rfl rfl ?_
          have g582 := gi_r h4 129 ((gi h 20 i.toNat) - (gi h 23 0)).toNat
          refine x_ialoadE 150 hK rfl rfl (sp_129 (h := h4) hG4) (by omega) (by omega) (by omega) (e' := (gi h4 129 ((gi h 20 i.toNat) - (gi h 23 0)).toNat)) (rfl) ?_
          refine x_iconst 151 hK rfl rfl ?_
          refine x_aload_n 152 hK rfl rfl (lk1_n l0 (by decide) (Or.inl rfl)) ?_
          refine x_getR 155 hK rfl rfl (sp_0 (h := h4) hG4) (rf_0_7 (h := h4) hG4) ?_
          refine x_getR 158 hK rfl rfl (sp_19 (h := h4) hG4) (rf_19_2 (h := h4) hG4) ?_
          refine x_iload_n 159 hK rfl rfl (lk1_n l1 (by decide) (Or.inl rfl)) ?_
          have g583 := grn (0) (8) hG (a := 21) (r := 15) (k := i.toNat) rfl rfl (by omega)
          refine x_ialoadE 160 hK rfl rfl (sp_21 (h := h4) hG4) (by omega) (by omega) (by omega) (e' := (gi h 21 i.toNat)) (FRM_gi hF4 (r := 15) rfl rfl) ?_
          refine x_ishlX 161 hK rfl rfl (fun q42 rq42 => ?_)
          refine x_iorX 162 hK rfl rfl (fun q43 rq43 => ?_)
          refine x_iastore 163 hK rfl rfl (sp_129 (h := h4) hG4) (by omega) (by omega) (by omega) ?_
          refine x_iinc 166 hK rfl rfl (lk1_n l1 (by decide) (Or.inl rfl)) _ rfl ?_
          refine x_goto 100 hK rfl rfl ?_
          exact ih _ (by omega) (i + 1) _ _ rfl (by omega) (fun j hj => (gi_a (by decide) _).trans (dn j hj)) (lk1_n (lk1_n l0 (by decide) (Or.inl rfl)) (by decide) (Or.inl rfl)) lk1_s (GD_wn (hG4) (r := 43) rfl rfl) (FRM_wn 0 30 (hF4) (r := 43) rfl rfl rfl (by omega) (by omega))
  have done : ∀ (mz : Nat) (i : Int) (h4 : aH) (ls : List (Nat × Value)), ((30 - i).toNat = mz) → (0 ≤ i ∧ i ≤ 30) → (∀ j : Nat, (j : Int) < i → gi h4 128 j = dnF h (gi h 23 0) j) → lk ls 0 = some (.ref 0) → lk ls 1 = some (.int (I i)) → GD gE gRL sh h4 → FRM gRL [(0, 8, 3, 3), (0, 10, 0, 39), (0, 41, 5, 5), (0, 42, 0, 29), (0, 43, 0, 30)] h h4 → K 27 ls [] h4 0 0 := by
    intro mz
    induction mz using Nat.strongRecOn with
    | ind mz ih =>
    intro i h4 ls hm i0 dn l0 l1 hG4 hF4
    have hD4 : DR h4 s u := DR_F hF4 rfl hD
    have dl4 : dlA h4 = dlA h := funext fun z => dlA_F hF4 rfl z
    have n4 : gi h4 23 0 = (gi h 23 0) := FRM_gi hF4 (r := 17) rfl rfl
    have db12 := dnF_b h (gi h 23 0) (i - 12).toNat
    refine x_iload_n 28 hK rfl rfl l1 ?_
    refine x_bipush 30 hK rfl rfl rfl ?_
    refine x_if_icmp_ge 87 33 hK rfl rfl rfl (by omega) (by omega) (fun c3 => ?_) (fun c3 => ?_)
    · refine x_aload_n 88 hK rfl rfl l0 ?_
      refine x_getR 91 hK rfl rfl (sp_0 (h := h4) hG4) (rf_0_13 (h := h4) hG4) ?_
      refine x_getR 94 hK rfl rfl (sp_127 (h := h4) hG4) (rf_127_1 (h := h4) hG4) ?_
      refine x_iconst 95 hK rfl rfl ?_
      refine x_callS 98 hK hmono rfl (Or.inl rfl) rfl [.ref 129, .int (I 0)] [] rfl rfl (Nat.le_of_ble_eq_true rfl) (Nat.le_of_ble_eq_true rfl) (CLd_le (Nat.le_of_ble_eq_true rfl) (kJ7_fill_53178_0 hSP [.ref 129, .int (I 0)] _ (xOk_ok rfl _ h4 hF4 hX) ⟨gv_r (by decide) rfl, ⟨_, rfl, Int.le_refl _, Int.le_refl _, trivial⟩, trivial⟩ hG4 gov_n)) ?_
      rintro v584 h584 ⟨hG584, hF584, o584, m584, q584, z584, -⟩
      obtain rfl := List.mem_singleton.mp m584
      obtain rfl := QS_v q584
      refine x_iconst 99 hK rfl rfl ?_
      refine x_istore_n 100 hK rfl rfl _ rfl ?_
      exact rocks _ 0 _ _ rfl (by omega) (fun j hj => (FRM_gi hF584 (r := 42) rfl rfl).trans (dn j (by omega))) (lk1_n l0 (by decide) (Or.inl rfl)) lk1_s (hG584) ((hF4).trans ((hF584).mono rfl))
    · refine x_aload_n 34 hK rfl rfl l0 ?_
      refine x_getR 37 hK rfl rfl (sp_0 (h := h4) hG4) (rf_0_13 (h := h4) hG4) ?_
      refine x_getR 40 hK rfl rfl (sp_127 (h := h4) hG4) (rf_127_0 (h := h4) hG4) ?_
      refine x_iload_n 41 hK rfl rfl l1 ?_
      refine x_iload_n 42 hK rfl rfl l1 ?_
      refine x_bipush 44 hK rfl rfl rfl ?_
      refine x_if_icmp_ge 65 47 hK rfl rfl rfl (by omega) (by omega) (fun c18 => ?_) (fun c18 => ?_)
      · refine x_aload_n 66 hK rfl rfl l0 ?_
        refine x_getR 69 hK rfl rfl (sp_0 (h := h4) hG4) (rf_0_13 (h := h4) hG4) ?_
        refine x_getR 72 hK rfl rfl (sp_127 (h := h4) hG4) (rf_127_0 (h := h4) hG4) ?_
        refine x_iload_n 73 hK rfl rfl l1 ?_
        refine x_bipush 75 hK rfl rfl rfl ?_
        refine x_isub 76 hK rfl rfl ?_
        refine x_ialoadE 77 hK rfl rfl (sp_128 (h := h4) hG4) (by omega) (by omega) (by omega) (e' := (dnF h (gi h 23 0) (i - 12).toNat)) ((dn (i - 12).toNat (by omega))) ?_
        refine x_bipush 79 hK rfl rfl rfl ?_
        refine x_iadd 80 hK rfl rfl ?_
        refine x_iastore 81 hK rfl rfl (sp_128 (h := h4) hG4) (by omega) (by omega) (by omega) ?_
        refine x_iinc 84 hK rfl rfl l1 _ rfl ?_
        refine x_goto 27 hK rfl rfl ?_
        have dn2 : ∀ j : Nat, (j : Int) < i + 1 → gi (wI h4 128 i.toNat ((dnF h (gi h 23 0) (i - 12).toNat) + 12)) 128 j = dnF h (gi h 23 0) j := fun j hj => by
          by_cases q : j = i.toNat
          · rw [q]
            refine (gi_same (by omega)).trans ?_
            rw [show i.toNat = (i - 12).toNat + 12 by omega, dnF_12]
          · exact ((gi_k (by omega) _)).trans (dn j (by omega))
        exact ih _ (by omega) (i + 1) _ _ rfl (by omega) (dn2) (lk1_n l0 (by decide) (Or.inl rfl)) lk1_s (GD_wn (hG4) (r := 42) rfl rfl) (FRM_wn 0 29 (hF4) (r := 42) rfl rfl rfl (by omega) (by omega))
      · refine x_iload_n 48 hK rfl rfl l1 ?_
        refine x_aload_n 49 hK rfl rfl l0 ?_
        refine x_aload_n 50 hK rfl rfl l0 ?_
        refine x_getR 53 hK rfl rfl (sp_0 (h := h4) hG4) (rf_0_10 (h := h4) hG4) ?_
        have g585 := gi_r h 23 0
        refine x_getE 56 hK rfl (Or.inl rfl) rfl (sp_23 (h := h4) hG4) (e := (gi h 23 0)) (n4) ?_
        refine x_iload_n 57 hK rfl rfl l1 ?_
        refine x_iadd 58 hK rfl rfl ?_
        refine x_callV 61 hK hmono rfl rfl [.ref 0, .int (I ((gi h 23 0) + i))] [.int (I i), .int (I i), .ref 128] rfl rfl (Nat.le_of_ble_eq_true rfl) (Nat.le_of_ble_eq_true rfl) rfl (sp_0 (h := h4) hG4) (CLd_le (Nat.le_of_ble_eq_true rfl) (ctX10_delayA hSP hG4 (show PT h4 from PT_F hF4 (by decide) hP) (show XI h4 from (xOk_ok rfl _ h4 hF4 hX)) hD4 (t := ((gi h 23 0) + i)) (by omega))) ?_
        rw [dl4]
        rintro v586 h586 ⟨rfl, hG586, hF586⟩
        have db := dlA_b h ((gi h 23 0) + i)
        refine x_iadd 62 hK rfl rfl ?_
        refine x_goto 80 hK rfl rfl ?_
        refine x_iastore 81 hK rfl rfl (sp_128 (h := h586) hG586) (by omega) (by omega) (by omega) ?_
        refine x_iinc 84 hK rfl rfl l1 _ rfl ?_
        refine x_goto 27 hK rfl rfl ?_
        have dn2 : ∀ j : Nat, (j : Int) < i + 1 → gi (wI h586 128 i.toNat (i + (dlA h ((gi h 23 0) + i)))) 128 j = dnF h (gi h 23 0) j := fun j hj => by
          by_cases q : j = i.toNat
          · rw [q]
            refine (gi_same (by omega)).trans ?_
            unfold dnF
            rw [show ((i.toNat : Nat) : Int) = i by omega]
          · exact ((gi_k (by omega) _).trans (FRM_gi hF586 (r := 42) rfl rfl)).trans (dn j (by omega))
        exact ih _ (by omega) (i + 1) _ _ rfl (by omega) (dn2) (lk1_n l0 (by decide) (Or.inl rfl)) lk1_s (GD_wn (hG586) (r := 42) rfl rfl) (FRM_wn 0 29 ((hF4).trans ((hF586).mono rfl)) (r := 42) rfl rfl rfl (by omega) (by omega))
  refine x_aload_n 1 hK rfl rfl rfl ?_
  refine x_getR 4 hK rfl rfl (sp_0 (h := h) hG) (rf_0_13 (h := h) hG) ?_
  refine x_aload_n 5 hK rfl rfl rfl ?_
  refine x_getR 8 hK rfl rfl (sp_0 (h := h) hG) (pS) ?_
  have g587 := gi_r h s 2
  refine x_getE 11 hK rfl (Or.inl rfl) rfl (shx (h := h) hG (r := 5) (ss_r h5).1 rfl) (e := (gi h s 2)) (rfl) ?_
  refine x_iconst 12 hK rfl rfl ?_
  refine x_irem 13 hK rfl rfl (gi_r _ _ _) (by omega) (by omega) (by omega) ?_
  rw [c2]
  generalize (gi h 171 5).tmod 2 = t at *
  refine x_iconst 14 hK rfl rfl ?_
  refine x_if_icmp_ne 21 17 hK rfl rfl rfl (by omega) (by omega) (fun c9 => ?_) (fun c9 => ?_)
  · refine x_iconst 22 hK rfl rfl ?_
    refine x_putZ 25 hK rfl rfl (sp_127 (h := h) hG) (by omega) ?_
    refine x_iconst 26 hK rfl rfl ?_
    refine x_istore_n 27 hK rfl rfl [(1, .int (I 0)), (0, .ref 0)] rfl ?_
    exact done _ 0 _ _ rfl (by omega) (fun j hj => absurd hj (by omega)) rfl rfl (GD_w1 (hG) (r := 41) rfl (by omega) rfl (by omega) (by omega)) (FRM_w ((FRM.rf : FRM gRL [(0, 8, 3, 3), (0, 10, 0, 39), (0, 41, 5, 5), (0, 42, 0, 29), (0, 43, 0, 30)] h h)) (r := 41) rfl rfl)
  · refine x_iconst 18 hK rfl rfl ?_
    refine x_goto 22 hK rfl rfl ?_
    refine x_putZ 25 hK rfl rfl (sp_127 (h := h) hG) (by omega) ?_
    refine x_iconst 26 hK rfl rfl ?_
    refine x_istore_n 27 hK rfl rfl [(1, .int (I 0)), (0, .ref 0)] rfl ?_
    exact done _ 0 _ _ rfl (by omega) (fun j hj => absurd hj (by omega)) rfl rfl (GD_w1 (hG) (r := 41) rfl (by omega) rfl (by omega) (by omega)) (FRM_w ((FRM.rf : FRM gRL [(0, 8, 3, 3), (0, 10, 0, 39), (0, 41, 5, 5), (0, 42, 0, 29), (0, 43, 0, 30)] h h)) (r := 41) rfl rfl)
set_option maxRecDepth 4000 in
theorem ctX0_isOvertakenF {SP : CT} (hSP : MONO SP) {sh : List (Nat × Nat)} {h : aH} (hG : GD gE gRL sh h) {f : Nat → Int} (hf : ∀ j : Nat, j < 30 → gi h 128 j = f j) {k n : Int} (hk : 0 ≤ k ∧ k < n) (hn : n ≤ 30) : CLd SP 1 mX0_isOvertaken [.ref 127, .int (I k), .int (I n)] h 0 0 (fun rv h' => h' = h ∧ rv = some (.int (I (b2i (ovF f (f k.toNat) (k + 1) (n - (k + 1)).toNat))))) := by
  refine x_met _ rfl (Nat.le_of_ble_eq_true rfl) (fun K hK => ?_)
  have hmono := MONO_CLd hSP 0
  have gf : ∀ j : Nat, j < 30 → r32 (f j) := fun j hj => by rw [← hf j hj]; exact gi_r _ _ _
  have gk := gf k.toNat (by omega)
  have loop : ∀ (mz : Nat) (i : Int) (ls : List (Nat × Value)), ((n - i).toNat = mz) → (k + 1 ≤ i ∧ i ≤ n) → (ovF f (f k.toNat) (k + 1) (i - (k + 1)).toNat = false) → lk ls 0 = some (.ref 127) → lk ls 1 = some (.int (I k)) → lk ls 2 = some (.int (I n)) → lk ls 3 = some (.int (I i)) → K 4 ls [] h 0 0 := by
    intro mz
    induction mz using Nat.strongRecOn with
    | ind mz ih =>
    intro i ls hm i0 no l0 l1 l2 l3
    have gi_ := fun z : i < n => gf i.toNat (by omega)
    refine x_iload_n 5 hK rfl rfl l3 ?_
    refine x_iload_n 6 hK rfl rfl l2 ?_
    refine x_if_icmp_ge 32 9 hK rfl rfl rfl (by omega) (by omega) (fun c3 => ?_) (fun c3 => ?_)
    · refine x_iconst 33 hK rfl rfl ?_
      rw [show (i - (k + 1)).toNat = (n - (k + 1)).toNat by omega] at no
      exact x_zret hK rfl (by omega) ⟨rfl, by rw [no]; rfl⟩
    · have gi2 := gi_ (by omega)
      refine x_aload_n 10 hK rfl rfl l0 ?_
      refine x_getR 13 hK rfl rfl (sp_127 (h := h) hG) (rf_127_0 (h := h) hG) ?_
      refine x_iload_n 14 hK rfl rfl l3 ?_
      refine x_ialoadE 15 hK rfl rfl (sp_128 (h := h) hG) (by omega) (by omega) (by omega) (e' := (f i.toNat)) ((hf i.toNat (by omega))) ?_
      refine x_aload_n 16 hK rfl rfl l0 ?_
      refine x_getR 19 hK rfl rfl (sp_127 (h := h) hG) (rf_127_0 (h := h) hG) ?_
      refine x_iload_n 20 hK rfl rfl l1 ?_
      refine x_ialoadE 21 hK rfl rfl (sp_128 (h := h) hG) (by omega) (by omega) (by omega) (e' := (f k.toNat)) ((hf k.toNat (by omega))) ?_
      refine x_if_icmp_ge 26 24 hK rfl rfl rfl (by omega) (by omega) (fun c15 => ?_) (fun c15 => ?_)
      · refine x_iinc 29 hK rfl rfl l3 _ rfl ?_
        refine x_goto 4 hK rfl rfl ?_
        exact ih _ (by omega) (i + 1) _ rfl (by omega) (by rw [ovF_s i0.1, no, decide_eq_false (show ¬ f i.toNat < (f k.toNat) by omega)]; rfl) (lk1_n l0 (by decide) (Or.inl rfl)) (lk1_n l1 (by decide) (Or.inl rfl)) (lk1_n l2 (by decide) (Or.inl rfl)) lk1_s
      · refine x_iconst 25 hK rfl rfl ?_
        have yes : ovF f (f k.toNat) (k + 1) (n - (k + 1)).toNat = true := ovF_t (n := (i + 1 - (k + 1)).toNat) (by omega) (by rw [ovF_s i0.1, decide_eq_true (show f i.toNat < (f k.toNat) by omega), Bool.or_true])
        exact x_zret hK rfl (by omega) ⟨rfl, by rw [yes]; rfl⟩
  refine x_iload_n 1 hK rfl rfl rfl ?_
  refine x_iconst 2 hK rfl rfl ?_
  refine x_iadd 3 hK rfl rfl ?_
  refine x_istore_n 4 hK rfl rfl [(3, .int (I (k + 1))), (0, .ref 127), (1, .int (I k)), (2, .int (I n))] rfl ?_
  exact loop _ (k + 1) _ rfl (by omega) (by rw [show k + 1 - (k + 1) = 0 by omega]; rfl) rfl rfl rfl rfl
set_option maxRecDepth 4000 in
theorem ctX10_lateF {SP : CT} (hSP : MONO SP) {sh : List (Nat × Nat)} {h : aH} (hG : GD gE gRL sh h) {s u : Nat} (hP : PT h) (hX : XI h) (hD : DR h s u) (h0 : 0 ≤ (gi h 23 0) ∧ (gi h 23 0) ≤ 1000000) (hml : ∀ j : Nat, (j : Int) < gi h 19 0 → 0 ≤ gi h 20 j ∧ gi h 20 j ≤ 999) {n : Int} (rn : r32 n) : CLd SP 9 mX10_late [.ref 0, .int (I n)] h 0 0 (fun rv h' => ((¬ (1 ≤ n ∧ n ≤ 30) ∧ rv = some (.int (I (-1))) ∧ h' = h) ∨ ((1 ≤ n ∧ n ≤ 30) ∧ rv = some (.int (I (ltF (dnF h (gi h 23 0)) n n.toNat))) ∧ gi h' 3 1 = n ∧ crow h' = (List.range n.toNat).map (dnF h (gi h 23 0)))) ∧ GD gE gRL sh h' ∧ FRM gRL [(0, 3, 1, 1), (0, 8, 3, 3), (0, 10, 0, 39), (0, 41, 5, 5), (0, 42, 0, 29), (0, 43, 0, 30), (1, 4, 0, 29)] h h') := by
  refine x_met _ rfl (Nat.le_of_ble_eq_true rfl) (fun K hK => ?_)
  have hmono := MONO_CLd hSP 8
  have loop : ∀ (mz : Nat) (c i : Int) (h4 : aH) (ls : List (Nat × Value)), ((n - i).toNat = mz) → (1 ≤ n ∧ n ≤ 30) → (0 ≤ i ∧ i ≤ n) → (c = ltF (dnF h (gi h 23 0)) n i.toNat) → (∀ j : Nat, j < 30 → gi h4 128 j = (dnF h (gi h 23 0)) j) → (gi h4 3 1 = i) → (crow h4 = (List.range i.toNat).map (dnF h (gi h 23 0))) → lk ls 0 = some (.ref 0) → lk ls 1 = some (.int (I n)) → lk ls 2 = some (.int (I c)) → lk ls 3 = some (.int (I i)) → GD gE gRL sh h4 → FRM gRL [(0, 3, 1, 1), (0, 8, 3, 3), (0, 10, 0, 39), (0, 41, 5, 5), (0, 42, 0, 29), (0, 43, 0, 30), (1, 4, 0, 29)] h h4 → K 28 ls [] h4 0 0 := by
    intro mz
    induction mz using Nat.strongRecOn with
    | ind mz ih =>
    intro c i h4 ls hm n0 i0 c0 dn r1 rw4 l0 l1 l2 l3 hG4 hF4
    have cb := ltF_b (dnF h (gi h 23 0)) n i.toNat
    have fb := dnF_b h (gi h 23 0) i.toNat
    refine x_iload_n 29 hK rfl rfl l3 ?_
    refine x_iload_n 30 hK rfl rfl l1 ?_
    refine x_if_icmp_ge 76 33 hK rfl rfl rfl (by omega) (by omega) (fun c3 => ?_) (fun c3 => ?_)
    · refine x_iload_n 77 hK rfl rfl l2 ?_
      obtain rfl : i = n := by omega
      exact x_iret hK rfl ⟨Or.inr ⟨n0, by rw [c0], r1, rw4⟩, hG4, hF4⟩
    · refine x_aload_n 34 hK rfl rfl l0 ?_
      refine x_getR 37 hK rfl rfl (sp_0 (h := h4) hG4) (rf_0_1 (h := h4) hG4) ?_
      refine x_aload_n 38 hK rfl rfl l0 ?_
      refine x_getR 41 hK rfl rfl (sp_0 (h := h4) hG4) (rf_0_13 (h := h4) hG4) ?_
      refine x_getR 44 hK rfl rfl (sp_127 (h := h4) hG4) (rf_127_0 (h := h4) hG4) ?_
      refine x_iload_n 45 hK rfl rfl l3 ?_
      refine x_ialoadE 46 hK rfl rfl (sp_128 (h := h4) hG4) (by omega) (by omega) (by omega) (e' := ((dnF h (gi h 23 0)) i.toNat)) ((dn i.toNat (by omega))) ?_
      refine x_i2l 47 hK rfl rfl (by omega) ?_
      have z589 : gi h4 3 1 = i := r1
      have z589r : crow h4 = ((List.range i.toNat).map (dnF h (gi h 23 0))) := rw4
      refine x_callV 50 hK hmono rfl rfl [.ref 3, .long (J ((dnF h (gi h 23 0)) i.toNat))] [] rfl rfl (Nat.le_of_ble_eq_true rfl) (Nat.le_of_ble_eq_true rfl) rfl (sp_3 (h := h4) hG4) (CLd_le (Nat.le_of_ble_eq_true rfl) (ctX3_add hSP hG4 (by omega) (by omega))) ?_
      rintro v588 h588 ⟨rfl, hG588, hF588, t588, s588⟩
      rw [z589] at t588
      rw [z589r] at s588
      refine x_iload_n 51 hK rfl rfl l2 ?_
      refine x_aload_n 52 hK rfl rfl l0 ?_
      refine x_getR 55 hK rfl rfl (sp_0 (h := h588) hG588) (rf_0_13 (h := h588) hG588) ?_
      refine x_iload_n 56 hK rfl rfl l3 ?_
      refine x_iload_n 57 hK rfl rfl l1 ?_
      refine x_callV 60 hK hmono rfl rfl [.ref 127, .int (I i), .int (I n)] [.int (I c)] rfl rfl (Nat.le_of_ble_eq_true rfl) (Nat.le_of_ble_eq_true rfl) rfl (sp_127 (h := h588) hG588) (CLd_le (Nat.le_of_ble_eq_true rfl) (ctX0_isOvertakenF hSP hG588 (f := (dnF h (gi h 23 0))) (fun j hj => (FRM_gi hF588 (r := 42) rfl rfl).trans (dn j hj)) (k := i) (n := n) (by omega) (by omega))) ?_
      rintro v9 h9 ⟨e9, rfl⟩
      rw [e9]
      clear e9
      have ob := b2i_01 (ovF (dnF h (gi h 23 0)) ((dnF h (gi h 23 0)) i.toNat) (i + 1) (n - (i + 1)).toNat)
      refine x_if_eq 67 63 hK rfl rfl rfl (by omega) (fun c21 => ?_) (fun c21 => ?_)
      · refine x_iconst 68 hK rfl rfl ?_
        refine x_iadd 69 hK rfl rfl ?_
        refine x_istore_n 70 hK rfl rfl _ rfl ?_
        refine x_iinc 73 hK rfl rfl (lk1_n l3 (by decide) (Or.inl rfl)) _ rfl ?_
        refine x_goto 28 hK rfl rfl ?_
        exact ih _ (by omega) (c + 0) (i + 1) _ _ rfl (n0) (by omega) (by rw [ltF_s i0.1, c0]; omega) (fun j hj => (FRM_gi hF588 (r := 42) rfl rfl).trans (dn j hj)) (t588) (by rw [s588, tn_s i0.1, List.range_succ, List.map_append]; rfl) (lk1_n (lk1_n l0 (by decide) (Or.inl rfl)) (by decide) (Or.inl rfl)) (lk1_n (lk1_n l1 (by decide) (Or.inl rfl)) (by decide) (Or.inl rfl)) (lk1_n lk1_s (by decide) (Or.inl rfl)) lk1_s (hG588) ((hF4).trans ((hF588).mono rfl))
      · refine x_iconst 64 hK rfl rfl ?_
        refine x_goto 68 hK rfl rfl ?_
        refine x_iadd 69 hK rfl rfl ?_
        refine x_istore_n 70 hK rfl rfl _ rfl ?_
        refine x_iinc 73 hK rfl rfl (lk1_n l3 (by decide) (Or.inl rfl)) _ rfl ?_
        refine x_goto 28 hK rfl rfl ?_
        exact ih _ (by omega) (c + 1) (i + 1) _ _ rfl (n0) (by omega) (by rw [ltF_s i0.1, c0]; omega) (fun j hj => (FRM_gi hF588 (r := 42) rfl rfl).trans (dn j hj)) (t588) (by rw [s588, tn_s i0.1, List.range_succ, List.map_append]; rfl) (lk1_n (lk1_n l0 (by decide) (Or.inl rfl)) (by decide) (Or.inl rfl)) (lk1_n (lk1_n l1 (by decide) (Or.inl rfl)) (by decide) (Or.inl rfl)) (lk1_n lk1_s (by decide) (Or.inl rfl)) lk1_s (hG588) ((hF4).trans ((hF588).mono rfl))
  refine x_iload_n 1 hK rfl rfl rfl ?_
  refine x_iconst 2 hK rfl rfl ?_
  refine x_if_icmp_lt 11 5 hK rfl rfl rfl (by omega) (by omega) (fun c3 => ?_) (fun c3 => ?_)
  · refine x_iconst 12 hK rfl rfl ?_
    exact x_iret hK rfl ⟨Or.inl ⟨by omega, rfl, rfl⟩, hG, FRM.rf⟩
  · refine x_iload_n 6 hK rfl rfl rfl ?_
    refine x_bipush 8 hK rfl rfl rfl ?_
    refine x_if_icmp_le 13 11 hK rfl rfl rfl (by omega) (by omega) (fun c8 => ?_) (fun c8 => ?_)
    · refine x_aload_n 14 hK rfl rfl rfl ?_
      refine x_callV 17 hK hmono rfl rfl [.ref 0] [] rfl rfl (Nat.le_of_ble_eq_true rfl) (Nat.le_of_ble_eq_true rfl) rfl (sp_0 (h := h) hG) (CLd_le (Nat.le_of_ble_eq_true rfl) (ctX10_lookAheadF hSP hG hP hX hD h0 hml)) ?_
      rintro v591 h591 ⟨rfl, hG591, hF591, dn591⟩
      refine x_aload_n 18 hK rfl rfl rfl ?_
      refine x_getR 21 hK rfl rfl (sp_0 (h := h591) hG591) (rf_0_1 (h := h591) hG591) ?_
      refine x_callV 24 hK hmono rfl rfl [.ref 3] [] rfl rfl (Nat.le_of_ble_eq_true rfl) (Nat.le_of_ble_eq_true rfl) rfl (sp_3 (h := h591) hG591) (CLd_le (Nat.le_of_ble_eq_true rfl) (ctX3_clear hSP hG591)) ?_
      rintro v592 h592 ⟨rfl, hG592, hF592, t592, s592⟩
      refine x_iconst 25 hK rfl rfl ?_
      refine x_istore_n 26 hK rfl rfl [(2, .int (I 0)), (0, .ref 0), (1, .int (I n))] rfl ?_
      refine x_iconst 27 hK rfl rfl ?_
      refine x_istore_n 28 hK rfl rfl [(3, .int (I 0)), (2, .int (I 0)), (0, .ref 0), (1, .int (I n))] rfl ?_
      exact loop _ 0 0 _ _ rfl (⟨by omega, by omega⟩) (by omega) (rfl) (fun j hj => (FRM_gi hF592 (r := 42) rfl rfl).trans (dn591 j hj)) (t592) (s592) rfl rfl rfl rfl (hG592) (((hF591).mono rfl).trans ((hF592).mono rfl))
    · refine x_iconst 12 hK rfl rfl ?_
      exact x_iret hK rfl ⟨Or.inl ⟨by omega, rfl, rfl⟩, hG, FRM.rf⟩
set_option maxRecDepth 4000 in
theorem ctX11_lateF {SP : CT} (hSP : MONO SP) {sh : List (Nat × Nat)} {h : aH} (hG : GD gE gRL sh h) (hX : XI h) {n : Int} (h0 : 0 ≤ gi h 178 0 ∧ gi h 178 0 ≤ 1000000) (rn : r32 n) : CLd SP 9 mX11_late [.ref 171, .int (I n)] h 0 0 (fun rv h' => ((¬ (1 ≤ n ∧ n ≤ 30) ∧ rv = some (.int (I (-1))) ∧ mrow h' = mrow h ∧ gi h' 171 1 = gi h 171 1) ∨ ((1 ≤ n ∧ n ≤ 30) ∧ rv = some (.int (I (ltF (dnF h (gi h 178 0)) n n.toNat))) ∧ mrow h' = (List.range n.toNat).map (dnF h (gi h 178 0)))) ∧ GD gE gRL sh h' ∧ FRM gRL [(0, 54, 0, 0), (0, 54, 1, 1), (0, 67, 0, 79), (0, 68, 0, 3), (1, 55, 0, 39)] h h') := by
  refine x_met _ rfl (Nat.le_of_ble_eq_true rfl) (fun K hK => ?_)
  have hmono := MONO_CLd hSP 8
  have loop : ∀ (mz : Nat) (c i : Int) (h4 : aH) (ls : List (Nat × Value)), ((n - i).toNat = mz) → (1 ≤ n ∧ n ≤ 30) → (0 ≤ i ∧ i ≤ n) → (c = ltF (dnF h (gi h 178 0)) n i.toNat) → (gi h4 171 1 = i) → (mrow h4 = (List.range i.toNat).map (dnF h (gi h 178 0))) → lk ls 0 = some (.ref 171) → lk ls 1 = some (.int (I n)) → lk ls 2 = some (.int (I c)) → lk ls 3 = some (.int (I i)) → GD gE gRL sh h4 → FRM gRL [(0, 54, 0, 0), (0, 54, 1, 1), (0, 67, 0, 79), (0, 68, 0, 3), (1, 55, 0, 39)] h h4 → K 28 ls [] h4 0 0 := by
    intro mz
    induction mz using Nat.strongRecOn with
    | ind mz ih =>
    intro c i h4 ls hm n0 i0 c0 r1 rw4 l0 l1 l2 l3 hG4 hF4
    have cb := ltF_b (dnF h (gi h 178 0)) n i.toNat
    have fb := dnF_b h (gi h 178 0) i.toNat
    have iho := ih
    have n4 : gi h4 178 0 = (gi h 178 0) := FRM_gi hF4 (r := 61) rfl rfl
    have inner : ∀ (mz : Nat) (v q j : Int) (h5 : aH) (ls : List (Nat × Value)), ((n - j).toNat = mz) → (v = (dnF h (gi h 178 0)) i.toNat) → (i < n) → (q = b2i (ovF (dnF h (gi h 178 0)) v (i + 1) (j - (i + 1)).toNat)) → (0 ≤ q ∧ q ≤ 1) → (i + 1 ≤ j ∧ j ≤ n) → (gi h5 171 1 = i) → (mrow h5 = (List.range i.toNat).map (dnF h (gi h 178 0))) → lk ls 0 = some (.ref 171) → lk ls 1 = some (.int (I n)) → lk ls 2 = some (.int (I c)) → lk ls 3 = some (.int (I i)) → lk ls 4 = some (.int (I v)) → lk ls 5 = some (.int (I q)) → lk ls 6 = some (.int (I j)) → GD gE gRL sh h5 → FRM gRL [(0, 54, 0, 0), (0, 54, 1, 1), (0, 67, 0, 79), (0, 68, 0, 3), (1, 55, 0, 39)] h h5 → K 57 ls [] h5 0 0 := by
      intro mz
      induction mz using Nat.strongRecOn with
      | ind mz ih =>
      intro v q j h5 ls hm v0 li q0 q1 j0 r15 rw5 l0 l1 l2 l3 l4 l5 l6 hG5 hF5
      have n5 : gi h5 178 0 = (gi h 178 0) := FRM_gi hF5 (r := 61) rfl rfl
      have fj := dnF_b h (gi h 178 0) j.toNat
      have ej : (dnF h (gi h 178 0)) j.toNat = j + dlA h ((gi h 178 0) + j) := by unfold dnF; rw [show ((j.toNat : Nat) : Int) = j by omega]
      refine x_iload 59 hK rfl rfl l6 ?_
      refine x_iload_n 60 hK rfl rfl l1 ?_
      refine x_if_icmp_ge 102 63 hK rfl rfl rfl (by omega) (by omega) (fun c3 => ?_) (fun c3 => ?_)
      · refine x_iload_n 103 hK rfl rfl l2 ?_
        refine x_iload 105 hK rfl rfl l5 ?_
        refine x_callS 108 hK hmono rfl (Or.inl rfl) rfl [.int (I q)] [.int (I c)] rfl rfl (Nat.le_of_ble_eq_true rfl) (Nat.le_of_ble_eq_true rfl) (CLd_le (Nat.le_of_ble_eq_true rfl) (ctX11_flag (by omega))) ?_
        rintro v9 h9 ⟨e9, rfl⟩
        rw [e9]
        clear e9
        refine x_iadd 109 hK rfl rfl ?_
        refine x_istore_n 110 hK rfl rfl _ rfl ?_
        refine x_aload_n 111 hK rfl rfl (lk1_n l0 (by decide) (Or.inl rfl)) ?_
        refine x_iload 113 hK rfl rfl (lk1_n l4 (by decide) (Or.inl rfl)) ?_
        refine x_i2l 114 hK rfl rfl (by omega) ?_
        have z595 : gi h5 171 1 = i := r15
        have z595r : mrow h5 = ((List.range i.toNat).map (dnF h (gi h 178 0))) := rw5
        refine x_callV 117 hK hmono rfl rfl [.ref 171, .long (J v)] [] rfl rfl (Nat.le_of_ble_eq_true rfl) (Nat.le_of_ble_eq_true rfl) rfl (sp_171 (h := h5) hG5) (CLd_le (Nat.le_of_ble_eq_true rfl) (ctX11_entersF hSP hG5 (by omega) (by omega))) ?_
        rintro v594 h594 ⟨rfl, hG594, hF594, t594, s594⟩
        rw [z595] at t594
        rw [z595r] at s594
        refine x_iinc 120 hK rfl rfl (lk1_n l3 (by decide) (Or.inl rfl)) _ rfl ?_
        refine x_goto 28 hK rfl rfl ?_
        exact iho _ (by omega) (c + q) (i + 1) _ _ rfl (n0) (by omega) (by rw [ltF_s i0.1, c0, q0, show j = n by omega, v0]) (t594) (by rw [s594, tn_s i0.1, List.range_succ, List.map_append, v0]; rfl) (lk1_n (lk1_n l0 (by decide) (Or.inl rfl)) (by decide) (Or.inl rfl)) (lk1_n (lk1_n l1 (by decide) (Or.inl rfl)) (by decide) (Or.inl rfl)) (lk1_n lk1_s (by decide) (Or.inl rfl)) lk1_s (hG594) ((hF5).trans ((hF594).mono rfl))
      · refine x_iload 65 hK rfl rfl l5 ?_
        refine x_if_ne 89 68 hK rfl rfl rfl (by omega) (fun c17 => ?_) (fun c17 => ?_)
        · refine x_iconst 90 hK rfl rfl ?_
          refine x_goto 94 hK rfl rfl ?_
          refine x_istore 96 hK rfl rfl _ rfl ?_
          refine x_iinc 99 hK rfl rfl (lk1_n l6 (by decide) (Or.inl rfl)) _ rfl ?_
          refine x_goto 57 hK rfl rfl ?_
          have os : (ovF (dnF h (gi h 178 0)) v (i + 1) (j + 1 - (i + 1)).toNat) = ((ovF (dnF h (gi h 178 0)) v (i + 1) (j - (i + 1)).toNat) || decide ((dnF h (gi h 178 0)) j.toNat < v)) := ovF_s j0.1
          have o1 : (ovF (dnF h (gi h 178 0)) v (i + 1) (j - (i + 1)).toNat) = true := by
            cases hc : (ovF (dnF h (gi h 178 0)) v (i + 1) (j - (i + 1)).toNat) with
            | true => rfl
            | false => rw [hc] at q0; have q0 : q = 0 := q0; omega
          have qn : (1 : Int) = b2i (ovF (dnF h (gi h 178 0)) v (i + 1) (j + 1 - (i + 1)).toNat) := by rw [os, o1, Bool.true_or]; rfl
          exact ih _ (by omega) v 1 (j + 1) _ _ rfl (v0) (li) (qn) (by omega) (by omega) (r15) (rw5) (lk1_n (lk1_n l0 (by decide) (Or.inl rfl)) (by decide) (Or.inl rfl)) (lk1_n (lk1_n l1 (by decide) (Or.inl rfl)) (by decide) (Or.inl rfl)) (lk1_n (lk1_n l2 (by decide) (Or.inl rfl)) (by decide) (Or.inl rfl)) (lk1_n (lk1_n l3 (by decide) (Or.inl rfl)) (by decide) (Or.inl rfl)) (lk1_n (lk1_n l4 (by decide) (Or.inl rfl)) (by decide) (Or.inl rfl)) (lk1_n lk1_s (by decide) (Or.inl rfl)) lk1_s (hG5) (hF5)
        · refine x_iload 70 hK rfl rfl l6 ?_
          refine x_aload_n 71 hK rfl rfl l0 ?_
          refine x_aload_n 72 hK rfl rfl l0 ?_
          refine x_getR 75 hK rfl rfl (sp_171 (h := h5) hG5) (rf_171_14 (h := h5) hG5) ?_
          refine x_iconst 76 hK rfl rfl ?_
          have g596 := gi_r h 178 0
          refine x_ialoadE 77 hK rfl rfl (sp_178 (h := h5) hG5) (by omega) (by omega) (by omega) (e' := (gi h 178 0)) (n5) ?_
          refine x_iload 79 hK rfl rfl l6 ?_
          refine x_iadd 80 hK rfl rfl ?_
          have fq597 : FRM gRL [(0, 54, 0, 0), (0, 54, 1, 1), (0, 67, 0, 79), (0, 68, 0, 3), (1, 55, 0, 39)] h h5 := hF5
          have hXp597 : XI h5 := xOk_ok rfl h h5 fq597 hX
          have ed597 : dlA h5 ((gi h 178 0) + j) = dlA h ((gi h 178 0) + j) := dlA_F fq597 rfl _
          refine x_callV 83 hK hmono rfl rfl [.ref 171, .int (I ((gi h 178 0) + j))] [.int (I j)] rfl rfl (Nat.le_of_ble_eq_true rfl) (Nat.le_of_ble_eq_true rfl) rfl (sp_171 (h := h5) hG5) (CLd_le (Nat.le_of_ble_eq_true rfl) (ctX11_delayAtF hSP hG5 hXp597 (t := ((gi h 178 0) + j)) (by omega))) ?_
          rw [ed597]
          rintro v597 h597 ⟨rfl, hG597, hF597⟩
          have db597 := dlA_b h ((gi h 178 0) + j)
          refine x_iadd 84 hK rfl rfl ?_
          refine x_iload 86 hK rfl rfl l4 ?_
          refine x_if_icmp_ge 93 89 hK rfl rfl rfl (by omega) (by omega) (fun c35 => ?_) (fun c35 => ?_)
          · refine x_iconst 94 hK rfl rfl ?_
            refine x_istore 96 hK rfl rfl _ rfl ?_
            refine x_iinc 99 hK rfl rfl (lk1_n l6 (by decide) (Or.inl rfl)) _ rfl ?_
            refine x_goto 57 hK rfl rfl ?_
            have os : (ovF (dnF h (gi h 178 0)) v (i + 1) (j + 1 - (i + 1)).toNat) = ((ovF (dnF h (gi h 178 0)) v (i + 1) (j - (i + 1)).toNat) || decide ((dnF h (gi h 178 0)) j.toNat < v)) := ovF_s j0.1
            have o0 : (ovF (dnF h (gi h 178 0)) v (i + 1) (j - (i + 1)).toNat) = false := by
              cases hc : (ovF (dnF h (gi h 178 0)) v (i + 1) (j - (i + 1)).toNat) with
              | true => rw [hc] at q0; have q0 : q = 1 := q0; omega
              | false => rfl
            have qn : (0 : Int) = b2i (ovF (dnF h (gi h 178 0)) v (i + 1) (j + 1 - (i + 1)).toNat) := by rw [os, o0, Bool.false_or, decide_eq_false (by omega)]; rfl
            exact ih _ (by omega) v 0 (j + 1) _ _ rfl (v0) (li) (qn) (by omega) (by omega) ((FRM_gi hF597 (r := 54) rfl rfl).trans (r15)) ((mrow_F hF597 rfl rfl).trans (rw5)) (lk1_n (lk1_n l0 (by decide) (Or.inl rfl)) (by decide) (Or.inl rfl)) (lk1_n (lk1_n l1 (by decide) (Or.inl rfl)) (by decide) (Or.inl rfl)) (lk1_n (lk1_n l2 (by decide) (Or.inl rfl)) (by decide) (Or.inl rfl)) (lk1_n (lk1_n l3 (by decide) (Or.inl rfl)) (by decide) (Or.inl rfl)) (lk1_n (lk1_n l4 (by decide) (Or.inl rfl)) (by decide) (Or.inl rfl)) (lk1_n lk1_s (by decide) (Or.inl rfl)) lk1_s (hG597) ((hF5).trans ((hF597).mono rfl))
          · refine x_iconst 90 hK rfl rfl ?_
            refine x_goto 94 hK rfl rfl ?_
            refine x_istore 96 hK rfl rfl _ rfl ?_
            refine x_iinc 99 hK rfl rfl (lk1_n l6 (by decide) (Or.inl rfl)) _ rfl ?_
            refine x_goto 57 hK rfl rfl ?_
            have os : (ovF (dnF h (gi h 178 0)) v (i + 1) (j + 1 - (i + 1)).toNat) = ((ovF (dnF h (gi h 178 0)) v (i + 1) (j - (i + 1)).toNat) || decide ((dnF h (gi h 178 0)) j.toNat < v)) := ovF_s j0.1
            have o0 : (ovF (dnF h (gi h 178 0)) v (i + 1) (j - (i + 1)).toNat) = false := by
              cases hc : (ovF (dnF h (gi h 178 0)) v (i + 1) (j - (i + 1)).toNat) with
              | true => rw [hc] at q0; have q0 : q = 1 := q0; omega
              | false => rfl
            have qn : (1 : Int) = b2i (ovF (dnF h (gi h 178 0)) v (i + 1) (j + 1 - (i + 1)).toNat) := by rw [os, o0, Bool.false_or, decide_eq_true (by omega)]; rfl
            exact ih _ (by omega) v 1 (j + 1) _ _ rfl (v0) (li) (qn) (by omega) (by omega) ((FRM_gi hF597 (r := 54) rfl rfl).trans (r15)) ((mrow_F hF597 rfl rfl).trans (rw5)) (lk1_n (lk1_n l0 (by decide) (Or.inl rfl)) (by decide) (Or.inl rfl)) (lk1_n (lk1_n l1 (by decide) (Or.inl rfl)) (by decide) (Or.inl rfl)) (lk1_n (lk1_n l2 (by decide) (Or.inl rfl)) (by decide) (Or.inl rfl)) (lk1_n (lk1_n l3 (by decide) (Or.inl rfl)) (by decide) (Or.inl rfl)) (lk1_n (lk1_n l4 (by decide) (Or.inl rfl)) (by decide) (Or.inl rfl)) (lk1_n lk1_s (by decide) (Or.inl rfl)) lk1_s (hG597) ((hF5).trans ((hF597).mono rfl))
    refine x_iload_n 29 hK rfl rfl l3 ?_
    refine x_iload_n 30 hK rfl rfl l1 ?_
    refine x_if_icmp_ge 123 33 hK rfl rfl rfl (by omega) (by omega) (fun c3 => ?_) (fun c3 => ?_)
    · refine x_iload_n 124 hK rfl rfl l2 ?_
      obtain rfl : i = n := by omega
      exact x_iret hK rfl ⟨Or.inr ⟨n0, by rw [c0], rw4⟩, hG4, hF4⟩
    · refine x_iload_n 34 hK rfl rfl l3 ?_
      refine x_aload_n 35 hK rfl rfl l0 ?_
      refine x_aload_n 36 hK rfl rfl l0 ?_
      refine x_getR 39 hK rfl rfl (sp_171 (h := h4) hG4) (rf_171_14 (h := h4) hG4) ?_
      refine x_iconst 40 hK rfl rfl ?_
      have g598 := gi_r h 178 0
      refine x_ialoadE 41 hK rfl rfl (sp_178 (h := h4) hG4) (by omega) (by omega) (by omega) (e' := (gi h 178 0)) (n4) ?_
      refine x_iload_n 42 hK rfl rfl l3 ?_
      refine x_iadd 43 hK rfl rfl ?_
      have fq599 : FRM gRL [(0, 54, 0, 0), (0, 54, 1, 1), (0, 67, 0, 79), (0, 68, 0, 3), (1, 55, 0, 39)] h h4 := hF4
      have hXp599 : XI h4 := xOk_ok rfl h h4 fq599 hX
      have ed599 : dlA h4 ((gi h 178 0) + i) = dlA h ((gi h 178 0) + i) := dlA_F fq599 rfl _
      refine x_callV 46 hK hmono rfl rfl [.ref 171, .int (I ((gi h 178 0) + i))] [.int (I i)] rfl rfl (Nat.le_of_ble_eq_true rfl) (Nat.le_of_ble_eq_true rfl) rfl (sp_171 (h := h4) hG4) (CLd_le (Nat.le_of_ble_eq_true rfl) (ctX11_delayAtF hSP hG4 hXp599 (t := ((gi h 178 0) + i)) (by omega))) ?_
      rw [ed599]
      rintro v599 h599 ⟨rfl, hG599, hF599⟩
      have db599 := dlA_b h ((gi h 178 0) + i)
      refine x_iadd 47 hK rfl rfl ?_
      refine x_istore 49 hK rfl rfl _ rfl ?_
      refine x_iconst 50 hK rfl rfl ?_
      refine x_istore 52 hK rfl rfl _ rfl ?_
      refine x_iload_n 53 hK rfl rfl (lk1_n (lk1_n l3 (by decide) (Or.inl rfl)) (by decide) (Or.inl rfl)) ?_
      refine x_iconst 54 hK rfl rfl ?_
      refine x_iadd 55 hK rfl rfl ?_
      refine x_istore 57 hK rfl rfl _ rfl ?_
      exact inner _ (i + (dlA h ((gi h 178 0) + i))) 0 (i + 1) _ _ rfl (by unfold dnF; rw [show ((i.toNat : Nat) : Int) = i by omega]) (by omega) (by rw [show i + 1 - (i + 1) = 0 by omega]; rfl) (by omega) (by omega) ((FRM_gi hF599 (r := 54) rfl rfl).trans (r1)) ((mrow_F hF599 rfl rfl).trans (rw4)) (lk1_n (lk1_n (lk1_n l0 (by decide) (Or.inl rfl)) (by decide) (Or.inl rfl)) (by decide) (Or.inl rfl)) (lk1_n (lk1_n (lk1_n l1 (by decide) (Or.inl rfl)) (by decide) (Or.inl rfl)) (by decide) (Or.inl rfl)) (lk1_n (lk1_n (lk1_n l2 (by decide) (Or.inl rfl)) (by decide) (Or.inl rfl)) (by decide) (Or.inl rfl)) (lk1_n (lk1_n (lk1_n l3 (by decide) (Or.inl rfl)) (by decide) (Or.inl rfl)) (by decide) (Or.inl rfl)) (lk1_n (lk1_n lk1_s (by decide) (Or.inl rfl)) (by decide) (Or.inl rfl)) (lk1_n lk1_s (by decide) (Or.inl rfl)) lk1_s (hG599) ((hF4).trans ((hF599).mono rfl))
  refine x_aload_n 1 hK rfl rfl rfl ?_
  refine x_iconst 2 hK rfl rfl ?_
  refine x_putI 5 hK rfl rfl (sp_171 (h := h) hG) ?_
  refine x_iload_n 6 hK rfl rfl rfl ?_
  refine x_i2l 7 hK rfl rfl (by omega) ?_
  refine x_lconstE 8 1 hK rfl rfl rfl ?_
  refine x_ldc2_w 11 hK rfl rfl ?_
  have hGp600 : GD gE gRL sh (wI h 171 0 0) := GD_w1 (hG) (r := 54) rfl (by omega) rfl (by omega) (by omega)
  refine x_callS 14 hK hmono rfl (Or.inl rfl) rfl [.long (J n), .long (J 1), .long (J 30)] [] rfl rfl (Nat.le_of_ble_eq_true rfl) (Nat.le_of_ble_eq_true rfl) (CLd_le (Nat.le_of_ble_eq_true rfl) (ctX11_in (by omega) (by omega) (by omega))) ?_
  rintro v9 h9 ⟨e9, ⟨rfl, i1601, i2601⟩ | ⟨rfl, i1601⟩⟩ <;> rw [e9] <;> clear e9
  · refine x_if_ne 19 17 hK rfl rfl rfl (by omega) (fun _ => ?_) (fun c => by omega)
    refine x_aload_n 20 hK rfl rfl rfl ?_
    refine x_iconst 21 hK rfl rfl ?_
    refine x_putI 24 hK rfl rfl (sp_171 (h := h) hG) ?_
    refine x_iconst 25 hK rfl rfl ?_
    refine x_istore_n 26 hK rfl rfl [(2, .int (I 0)), (0, .ref 171), (1, .int (I n))] rfl ?_
    refine x_iconst 27 hK rfl rfl ?_
    refine x_istore_n 28 hK rfl rfl [(3, .int (I 0)), (2, .int (I 0)), (0, .ref 171), (1, .int (I n))] rfl ?_
    exact loop _ 0 0 _ _ rfl (⟨by omega, by omega⟩) (by omega) (rfl) (gi_same (by omega)) (mrow_0 (gi_same (by omega))) rfl rfl rfl rfl (GD_w1 (GD_w1 (hG) (r := 54) rfl (by omega) rfl (by omega) (by omega)) (r := 54) rfl (by omega) rfl (by omega) (by omega)) (FRM_w (FRM_w ((FRM.rf : FRM gRL [(0, 54, 0, 0), (0, 54, 1, 1), (0, 67, 0, 79), (0, 68, 0, 3), (1, 55, 0, 39)] h h)) (r := 54) rfl rfl) (r := 54) rfl rfl)
  · refine x_if_ne 19 17 hK rfl rfl rfl (by omega) (fun c => by omega) (fun _ => ?_)
    refine x_iconst 18 hK rfl rfl ?_
    exact x_iret hK rfl ⟨Or.inl ⟨by omega, rfl, mrow_k (by decide), gi_k (by decide) _⟩, GD_w1 (hG) (r := 54) rfl (by omega) rfl (by omega) (by omega), FRM_w ((FRM.rf : FRM gRL [(0, 54, 0, 0), (0, 54, 1, 1), (0, 67, 0, 79), (0, 68, 0, 3), (1, 55, 0, 39)] h h)) (r := 54) rfl rfl⟩
end
section
/-! WHO FASTS -/
noncomputable def bc1 (x : Int) : Int := x - bAnd (bUsh x 1) 1431655765
noncomputable def bc2 (y : Int) : Int := bAnd y 858993459 + bAnd (bUsh y 2) 858993459
noncomputable def bc3 (y : Int) : Int := bAnd (y + bUsh y 4) 252645135
noncomputable def bc4 (y : Int) : Int := y + bUsh y 8
noncomputable def bc5 (y : Int) : Int := y + bUsh y 16
noncomputable def bcF (x : Int) : Int := bAnd (bc5 (bc4 (bc3 (bc2 (bc1 x))))) 63
theorem bcF_r (x : Int) : r32 (bcF x) := bAnd_r _ _
/-- what MESSES EAT in n STEPS, but for those of a set -/
noncomputable def esF (ea : Nat → Int) (n set : Int) : Nat → Int
  | 0 => 0
  | i + 1 => esF ea n set i + if bAnd (bShr set i) 1 = 1 then 0 else ea i * n
theorem esF_s {ea : Nat → Int} {n set i : Int} (h : 0 ≤ i) : esF ea n set (i + 1).toNat = esF ea n set i.toNat + if bAnd (bShr set i) 1 = 1 then 0 else ea i.toNat * n := by
  rw [tn_s h]
  show esF ea n set i.toNat + (if bAnd (bShr set (i.toNat : Int)) 1 = 1 then 0 else ea i.toNat * n) = _
  rw [show ((i.toNat : Nat) : Int) = i by omega]
theorem en_b {e n : Int} (he : 0 ≤ e ∧ e ≤ 9) (hn : 0 ≤ n ∧ n ≤ 99) : 0 ≤ e * n ∧ e * n ≤ 891 := by
  have p0 : 0 ≤ e * n := Int.mul_nonneg he.1 hn.1
  have p1 : e * n ≤ 9 * 99 := Int.mul_le_mul he.2 hn.2 hn.1 (by omega)
  omega
theorem esF_b {ea : Nat → Int} {n set m : Int} (hn : 0 ≤ n ∧ n ≤ 99) (he : ∀ j : Nat, (j : Int) < m → 0 ≤ ea j ∧ ea j ≤ 9) : ∀ i : Nat, (i : Int) ≤ m → 0 ≤ esF ea n set i ∧ esF ea n set i ≤ 891 * i
  | 0, _ => ⟨Int.le_refl _, Int.le_refl _⟩
  | i + 1, h => by
    have ih := esF_b (set := set) hn he i (by omega)
    have z := en_b (he i (by omega)) hn
    show 0 ≤ esF ea n set i + (if bAnd (bShr set i) 1 = 1 then 0 else ea i * n) ∧ esF ea n set i + (if bAnd (bShr set i) 1 = 1 then 0 else ea i * n) ≤ 891 * ((i + 1 : Nat) : Int)
    split <;> omega
noncomputable def rsF (fd ea : Nat → Int) (n ms set : Int) : Int := sumF fd 0 ms.toNat - esF ea n set ms.toNat
theorem shl1 {m : Int} (h : 1 ≤ m ∧ m ≤ 8) : 2 ≤ bShl 1 m ∧ bShl 1 m ≤ 256 ∧ ∀ i : Nat, (i : Int) < m → bAnd (bShr (bShl 1 m - 1) i) 1 = 1 := by
  obtain ⟨n, rfl⟩ : ∃ n : Nat, m = n := ⟨m.toNat, by omega⟩
  have k : ∀ n : Nat, n < 9 → 1 ≤ n → 2 ≤ bShl 1 n ∧ bShl 1 n ≤ 256 := by decide +kernel
  have k2 : ∀ n : Nat, n < 9 → ∀ i : Nat, i < n → bAnd (bShr (bShl 1 n - 1) i) 1 = 1 := by decide +kernel
  have a := k n (by omega) (by omega)
  exact ⟨a.1, a.2, fun i hi => k2 n (by omega) i (by omega)⟩
theorem es_0 {ea : Nat → Int} {n set : Int} : ∀ i : Nat, (∀ j : Nat, j < i → bAnd (bShr set j) 1 = 1) → esF ea n set i = 0
  | 0, _ => rfl
  | i + 1, h => by
    show esF ea n set i + (if bAnd (bShr set i) 1 = 1 then 0 else ea i * n) = 0
    rw [es_0 i fun j hj => h j (by omega), if_pos (h i (by omega))]
    rfl
/-- b is the set of fewest, of those that S holds -/
noncomputable def FB (rs : Int → Int) (S : Int → Prop) (b : Int) : Prop := 0 ≤ rs b ∧ ∀ s : Int, S s → 0 ≤ rs s → bcF b < bcF s ∨ (bcF b = bcF s ∧ b ≤ s)
theorem FB_u {rs : Int → Int} {S : Int → Prop} {b b' : Int} (hb : S b) (hb' : S b') (h : FB rs S b) (h' : FB rs S b') : b = b' := by
  have z := h.2 b' hb' h'.1
  have y := h'.2 b hb h.1
  omega
set_option maxRecDepth 4000 in
theorem ctJ6_bitCount_0f7a4F {SP : CT} (hSP : MONO SP) {h : aH} {x : Int} : CLd SP 1 mJ6_bitCount_0f7a4 [.int (I x)] h 0 0 (fun rv h' => h' = h ∧ rv = some (.int (I (bcF x)))) := by
  refine x_met _ rfl (Nat.le_of_ble_eq_true rfl) (fun K hK => ?_)
  have hmono := MONO_CLd hSP 0
  refine x_iload_n 1 hK rfl rfl rfl ?_
  refine x_iload_n 2 hK rfl rfl rfl ?_
  refine x_iconst 3 hK rfl rfl ?_
  have g579 := bUsh_r x 1
  refine x_iushrF 4 hK rfl rfl ?_
  refine x_ldc_w 7 hK rfl rfl ?_
  have g580 := bAnd_r (bUsh x 1) 1431655765
  refine x_iandF 8 hK rfl rfl ?_
  refine x_isub 9 hK rfl rfl ?_
  change K 9 _ (.int (I (bc1 x)) :: _) _ _ _
  refine x_istore_n 10 hK rfl rfl [(0, .int (I (bc1 x)))] rfl ?_
  refine x_iload_n 11 hK rfl rfl rfl ?_
  refine x_ldc_w 14 hK rfl rfl ?_
  have g581 := bAnd_r (bc1 x) 858993459
  refine x_iandF 15 hK rfl rfl ?_
  refine x_iload_n 16 hK rfl rfl rfl ?_
  refine x_iconst 17 hK rfl rfl ?_
  have g582 := bUsh_r (bc1 x) 2
  refine x_iushrF 18 hK rfl rfl ?_
  refine x_ldc_w 21 hK rfl rfl ?_
  have g583 := bAnd_r (bUsh (bc1 x) 2) 858993459
  refine x_iandF 22 hK rfl rfl ?_
  refine x_iadd 23 hK rfl rfl ?_
  change K 23 _ (.int (I (bc2 (bc1 x))) :: _) _ _ _
  refine x_istore_n 24 hK rfl rfl [(0, .int (I (bc2 (bc1 x))))] rfl ?_
  refine x_iload_n 25 hK rfl rfl rfl ?_
  refine x_iload_n 26 hK rfl rfl rfl ?_
  refine x_iconst 27 hK rfl rfl ?_
  have g584 := bUsh_r (bc2 (bc1 x)) 4
  refine x_iushrF 28 hK rfl rfl ?_
  refine x_iadd 29 hK rfl rfl ?_
  refine x_ldc_w 32 hK rfl rfl ?_
  have g585 := bAnd_r ((bc2 (bc1 x)) + (bUsh (bc2 (bc1 x)) 4)) 252645135
  refine x_iandF 33 hK rfl rfl ?_
  change K 33 _ (.int (I (bc3 (bc2 (bc1 x)))) :: _) _ _ _
  refine x_istore_n 34 hK rfl rfl [(0, .int (I (bc3 (bc2 (bc1 x)))))] rfl ?_
  refine x_iload_n 35 hK rfl rfl rfl ?_
  refine x_iload_n 36 hK rfl rfl rfl ?_
  refine x_bipush 38 hK rfl rfl rfl ?_
  have g586 := bUsh_r (bc3 (bc2 (bc1 x))) 8
  refine x_iushrF 39 hK rfl rfl ?_
  refine x_iadd 40 hK rfl rfl ?_
  change K 40 _ (.int (I (bc4 (bc3 (bc2 (bc1 x))))) :: _) _ _ _
  refine x_istore_n 41 hK rfl rfl [(0, .int (I (bc4 (bc3 (bc2 (bc1 x))))))] rfl ?_
  refine x_iload_n 42 hK rfl rfl rfl ?_
  refine x_iload_n 43 hK rfl rfl rfl ?_
  refine x_bipush 45 hK rfl rfl rfl ?_
  have g587 := bUsh_r (bc4 (bc3 (bc2 (bc1 x)))) 16
  refine x_iushrF 46 hK rfl rfl ?_
  refine x_iadd 47 hK rfl rfl ?_
  change K 47 _ (.int (I (bc5 (bc4 (bc3 (bc2 (bc1 x)))))) :: _) _ _ _
  refine x_istore_n 48 hK rfl rfl [(0, .int (I (bc5 (bc4 (bc3 (bc2 (bc1 x)))))))] rfl ?_
  refine x_iload_n 49 hK rfl rfl rfl ?_
  refine x_bipush 51 hK rfl rfl rfl ?_
  have g588 := bAnd_r (bc5 (bc4 (bc3 (bc2 (bc1 x))))) 63
  refine x_iandF 52 hK rfl rfl ?_
  exact x_iret hK rfl ⟨rfl, rfl⟩
set_option maxRecDepth 4000 in
theorem ctX10_foodLeftF {SP : CT} (hSP : MONO SP) {sh : List (Nat × Nat)} {h : aH} (hG : GD gE gRL sh h) {fd ea : Nat → Int} (hf : ∀ j : Nat, (j : Int) < gi h 0 9 → gi h 26 j = fd j ∧ 0 ≤ fd j ∧ fd j ≤ 99) (he : ∀ j : Nat, (j : Int) < gi h 0 9 → gi h 22 j = ea j ∧ 0 ≤ ea j ∧ ea j ≤ 9) {z n : Int} (hn : 0 ≤ n ∧ n ≤ 99) : CLd SP 1 mX10_foodLeft [.ref 0, .int (I z), .int (I n)] h 0 0 (fun rv h' => h' = h ∧ rv = some (.int (I (rsF fd ea n (gi h 0 9) z)))) := by
  refine x_met _ rfl (Nat.le_of_ble_eq_true rfl) (fun K hK => ?_)
  have hmono := MONO_CLd hSP 0
  have g9 := gri 0 8 hG (a := 0) (r := 0) (k := 9) rfl rfl
  have loop : ∀ (mz : Nat) (c i : Int) (ls : List (Nat × Value)), ((gi h 0 9 - i).toNat = mz) → (0 ≤ i ∧ i ≤ gi h 0 9) → (c = sumF fd 0 i.toNat - esF ea n z i.toNat) → lk ls 0 = some (.ref 0) → lk ls 1 = some (.int (I z)) → lk ls 2 = some (.int (I n)) → lk ls 3 = some (.int (I c)) → lk ls 4 = some (.int (I i)) → K 5 ls [] h 0 0 := by
    intro mz
    induction mz using Nat.strongRecOn with
    | ind mz ih =>
    intro c i ls hm i0 c0 l0 l1 l2 l3 l4
    have sb := sumF_b (f := fd) (a := 0) (B := 99) (m := gi h 0 9) (by omega) (by omega) (fun j hj => (hf j hj).2) i.toNat (by omega)
    have tb := esF_b (set := z) (m := gi h 0 9) hn (fun j hj => (he j hj).2) i.toNat (by omega)
    have fi := fun y : i < gi h 0 9 => hf i.toNat (by omega)
    have ei := fun y : i < gi h 0 9 => he i.toNat (by omega)
    have ss := sumF_s (f := fd) i0.1
    rw [Int.sub_zero, Int.sub_zero] at ss
    refine x_iload 7 hK rfl rfl l4 ?_
    refine x_aload_n 8 hK rfl rfl l0 ?_
    have g589 := gri (0) (8) hG (a := 0) (r := 0) (k := 9) rfl rfl
    refine x_getE 11 hK rfl (Or.inl rfl) rfl (sp_0 (h := h) hG) (e := (gi h 0 9)) (rfl) ?_
    refine x_if_icmp_ge 59 14 hK rfl rfl rfl (by omega) (by omega) (fun c4 => ?_) (fun c4 => ?_)
    · refine x_iload_n 60 hK rfl rfl l3 ?_
      exact x_iret hK rfl ⟨rfl, by rw [c0, show i.toNat = (gi h 0 9).toNat by omega]; rfl⟩
    · have fi2 := fi (by omega)
      have ei2 := ei (by omega)
      have nb := en_b ei2.2 hn
      refine x_iload_n 15 hK rfl rfl l3 ?_
      refine x_aload_n 16 hK rfl rfl l0 ?_
      refine x_getR 19 hK rfl rfl (sp_0 (h := h) hG) (rf_0_10 (h := h) hG) ?_
      refine x_getR 22 hK rfl rfl (sp_23 (h := h) hG) (rf_23_7 (h := h) hG) ?_
      refine x_iload 24 hK rfl rfl l4 ?_
      refine x_ialoadE 25 hK rfl rfl (sp_26 (h := h) hG) (by omega) (by omega) (by omega) (e' := (fd i.toNat)) ((fi (by omega)).1) ?_
      refine x_iadd 26 hK rfl rfl ?_
      refine x_istore_n 27 hK rfl rfl _ rfl ?_
      refine x_iload_n 28 hK rfl rfl lk1_s ?_
      refine x_iload_n 29 hK rfl rfl (lk1_n l1 (by decide) (Or.inl rfl)) ?_
      refine x_iload 31 hK rfl rfl (lk1_n l4 (by decide) (Or.inl rfl)) ?_
      have g590 := bShr_r z i
      refine x_ishrF 32 hK rfl rfl ?_
      refine x_iconst 33 hK rfl rfl ?_
      have g591 := bAnd_r (bShr z i) 1
      refine x_iandF 34 hK rfl rfl ?_
      refine x_iconst 35 hK rfl rfl ?_
      refine x_if_icmp_ne 42 38 hK rfl rfl rfl (by omega) (by omega) (fun c23 => ?_) (fun c23 => ?_)
      · refine x_aload_n 43 hK rfl rfl (lk1_n l0 (by decide) (Or.inl rfl)) ?_
        refine x_getR 46 hK rfl rfl (sp_0 (h := h) hG) (rf_0_8 (h := h) hG) ?_
        refine x_iload 48 hK rfl rfl (lk1_n l4 (by decide) (Or.inl rfl)) ?_
        refine x_ialoadE 49 hK rfl rfl (sp_22 (h := h) hG) (by omega) (by omega) (by omega) (e' := (ea i.toNat)) ((ei (by omega)).1) ?_
        refine x_iload_n 50 hK rfl rfl (lk1_n l2 (by decide) (Or.inl rfl)) ?_
        refine x_imul 51 hK rfl rfl ?_
        refine x_isub 52 hK rfl rfl ?_
        refine x_istore_n 53 hK rfl rfl _ rfl ?_
        refine x_iinc 56 hK rfl rfl (lk1_n (lk1_n l4 (by decide) (Or.inl rfl)) (by decide) (Or.inl rfl)) _ rfl ?_
        refine x_goto 5 hK rfl rfl ?_
        exact ih _ (by omega) ((c + (fd i.toNat)) - ((ea i.toNat) * n)) (i + 1) _ rfl (by omega) (by rw [ss, esF_s i0.1, if_neg (by omega), c0]; omega) (lk1_n (lk1_n (lk1_n l0 (by decide) (Or.inl rfl)) (by decide) (Or.inl rfl)) (by decide) (Or.inl rfl)) (lk1_n (lk1_n (lk1_n l1 (by decide) (Or.inl rfl)) (by decide) (Or.inl rfl)) (by decide) (Or.inl rfl)) (lk1_n (lk1_n (lk1_n l2 (by decide) (Or.inl rfl)) (by decide) (Or.inl rfl)) (by decide) (Or.inl rfl)) (lk1_n lk1_s (by decide) (Or.inl rfl)) lk1_s
      · refine x_iconst 39 hK rfl rfl ?_
        refine x_goto 51 hK rfl rfl ?_
        refine x_isub 52 hK rfl rfl ?_
        refine x_istore_n 53 hK rfl rfl _ rfl ?_
        refine x_iinc 56 hK rfl rfl (lk1_n (lk1_n l4 (by decide) (Or.inl rfl)) (by decide) (Or.inl rfl)) _ rfl ?_
        refine x_goto 5 hK rfl rfl ?_
        exact ih _ (by omega) ((c + (fd i.toNat)) - 0) (i + 1) _ rfl (by omega) (by rw [ss, esF_s i0.1, if_pos (by omega), c0]; omega) (lk1_n (lk1_n (lk1_n l0 (by decide) (Or.inl rfl)) (by decide) (Or.inl rfl)) (by decide) (Or.inl rfl)) (lk1_n (lk1_n (lk1_n l1 (by decide) (Or.inl rfl)) (by decide) (Or.inl rfl)) (by decide) (Or.inl rfl)) (lk1_n (lk1_n (lk1_n l2 (by decide) (Or.inl rfl)) (by decide) (Or.inl rfl)) (by decide) (Or.inl rfl)) (lk1_n lk1_s (by decide) (Or.inl rfl)) lk1_s
  refine x_iconst 1 hK rfl rfl ?_
  refine x_istore_n 2 hK rfl rfl [(3, .int (I 0)), (0, .ref 0), (1, .int (I z)), (2, .int (I n))] rfl ?_
  refine x_iconst 3 hK rfl rfl ?_
  refine x_istore 5 hK rfl rfl [(4, .int (I 0)), (3, .int (I 0)), (0, .ref 0), (1, .int (I z)), (2, .int (I n))] rfl ?_
  exact loop _ 0 0 _ rfl (by omega) (rfl) rfl rfl rfl rfl rfl
set_option maxRecDepth 4000 in
theorem ctX10_fastF {SP : CT} (hSP : MONO SP) {sh : List (Nat × Nat)} {h : aH} (hG : GD gE gRL sh h) {fd ea : Nat → Int} (hf : ∀ j : Nat, (j : Int) < gi h 0 9 → gi h 26 j = fd j ∧ 0 ≤ fd j ∧ fd j ≤ 99) (he : ∀ j : Nat, (j : Int) < gi h 0 9 → gi h 22 j = ea j ∧ 0 ≤ ea j ∧ ea j ≤ 9) {n : Int} (rn : r32 n) : CLd SP 3 mX10_fast [.ref 0, .int (I n)] h 0 0 (fun rv h' => ((¬ ((0 ≤ n ∧ n ≤ 99) ∧ gi h 0 9 ≠ 0) ∧ rv = some (.int (I (-1))) ∧ h' = h) ∨ (((0 ≤ n ∧ n ≤ 99) ∧ gi h 0 9 ≠ 0) ∧ ∃ e : Int, rv = some (.int (I e)) ∧ (0 ≤ e ∧ e < (bShl 1 (gi h 0 9))) ∧ FB (fun s => rsF fd ea n (gi h 0 9) s) (fun s => 0 ≤ s ∧ s < (bShl 1 (gi h 0 9))) e ∧ gi h' 3 1 = 2 ∧ crow h' = [bcF e, (rsF fd ea n (gi h 0 9) e)])) ∧ GD gE gRL sh h' ∧ FRM gRL [(0, 3, 1, 1), (1, 4, 0, 29)] h h') := by
  refine x_met _ rfl (Nat.le_of_ble_eq_true rfl) (fun K hK => ?_)
  have hmono := MONO_CLd hSP 2
  have g9 := gri 0 8 hG (a := 0) (r := 0) (k := 9) rfl rfl
  have s1 := fun z : 1 ≤ gi h 0 9 => shl1 ⟨z, g9.2⟩
  have rb : ∀ s, 0 ≤ n ∧ n ≤ 99 → -8000 ≤ rsF fd ea n (gi h 0 9) s ∧ rsF fd ea n (gi h 0 9) s ≤ 8000 := fun s hn => by
    have sb := sumF_b (f := fd) (a := 0) (B := 99) (m := gi h 0 9) (by omega) (by omega) (fun j hj => (hf j hj).2) (gi h 0 9).toNat (by omega)
    have tb := esF_b (set := s) (m := gi h 0 9) hn (fun j hj => (he j hj).2) (gi h 0 9).toNat (by omega)
    unfold rsF
    omega
  have loop : ∀ (mz : Nat) (b_ f i : Int) (ls : List (Nat × Value)), ((i + 1).toNat = mz) → ((0 ≤ n ∧ n ≤ 99) ∧ gi h 0 9 ≠ 0) → (-1 ≤ i ∧ i < (bShl 1 (gi h 0 9)) - 1) → (i < b_ ∧ b_ < (bShl 1 (gi h 0 9))) → (f = (rsF fd ea n (gi h 0 9) b_)) → (FB (fun s => rsF fd ea n (gi h 0 9) s) (fun s => i < s ∧ s < (bShl 1 (gi h 0 9))) b_) → lk ls 0 = some (.ref 0) → lk ls 1 = some (.int (I n)) → lk ls 2 = some (.int (I b_)) → lk ls 3 = some (.int (I f)) → lk ls 4 = some (.int (I i)) → K 40 ls [] h 0 0 := by
    intro mz
    induction mz using Nat.strongRecOn with
    | ind mz ih =>
    intro b_ f i ls hm n0 i0 b0 f0 fb l0 l1 l2 l3 l4
    have s2 := s1 (by omega)
    have rbb := rb b_ n0.1
    have rbi := rb i n0.1
    have bcb := bcF_r b_
    refine x_iload 42 hK rfl rfl l4 ?_
    refine x_if_lt 83 45 hK rfl rfl rfl (by omega) (fun c2 => ?_) (fun c2 => ?_)
    · refine x_aload_n 84 hK rfl rfl l0 ?_
      refine x_getR 87 hK rfl rfl (sp_0 (h := h) hG) (rf_0_1 (h := h) hG) ?_
      refine x_iload_n 88 hK rfl rfl l2 ?_
      have bz592 := bcF_r b_
      refine x_callS 91 hK hmono rfl (Or.inl rfl) rfl [.int (I b_)] [.ref 3] rfl rfl (Nat.le_of_ble_eq_true rfl) (Nat.le_of_ble_eq_true rfl) (CLd_le (Nat.le_of_ble_eq_true rfl) (ctJ6_bitCount_0f7a4F hSP (x := b_))) ?_
      rintro v9 h9 ⟨e9, rfl⟩
      rw [e9]
      clear e9
      refine x_i2l 92 hK rfl rfl (by omega) ?_
      refine x_iload_n 93 hK rfl rfl l3 ?_
      refine x_i2l 94 hK rfl rfl (by omega) ?_
      refine x_callV 97 hK hmono rfl rfl [.ref 3, .long (J (bcF b_)), .long (J f)] [] rfl rfl (Nat.le_of_ble_eq_true rfl) (Nat.le_of_ble_eq_true rfl) rfl (sp_3 (h := h) hG) (CLd_le (Nat.le_of_ble_eq_true rfl) (ctX3_tellTwo hSP hG (by omega) (by omega))) ?_
      rintro v593 h593 ⟨rfl, hG593, hF593, t593, s593⟩
      refine x_iload_n 98 hK rfl rfl l2 ?_
      obtain ei : i = -1 := by omega
      have ff : FB (fun s => rsF fd ea n (gi h 0 9) s) (fun s => 0 ≤ s ∧ s < (bShl 1 (gi h 0 9))) b_ := ⟨fb.1, fun s hs r0 => fb.2 s (by have hs : 0 ≤ s ∧ s < (bShl 1 (gi h 0 9)) := hs; exact ⟨by omega, hs.2⟩) r0⟩
      exact x_iret hK rfl ⟨Or.inr ⟨n0, b_, rfl, by omega, ff, t593, by rw [← f0]; exact s593⟩, hG593, hF593⟩
    · refine x_aload_n 46 hK rfl rfl l0 ?_
      refine x_iload 48 hK rfl rfl l4 ?_
      refine x_iload_n 49 hK rfl rfl l1 ?_
      refine x_callV 52 hK hmono rfl rfl [.ref 0, .int (I i), .int (I n)] [] rfl rfl (Nat.le_of_ble_eq_true rfl) (Nat.le_of_ble_eq_true rfl) rfl (sp_0 (h := h) hG) (CLd_le (Nat.le_of_ble_eq_true rfl) (ctX10_foodLeftF hSP hG hf he (z := i) (n := n) (by omega))) ?_
      rintro v9 h9 ⟨e9, rfl⟩
      rw [e9]
      clear e9
      have rz594 := rb i (by omega)
      refine x_istore 54 hK rfl rfl _ rfl ?_
      refine x_iload 56 hK rfl rfl lk1_s ?_
      refine x_if_lt 77 59 hK rfl rfl rfl (by omega) (fun c19 => ?_) (fun c19 => ?_)
      · refine x_iinc 80 hK rfl rfl (lk1_n l4 (by decide) (Or.inl rfl)) _ rfl ?_
        refine x_goto 40 hK rfl rfl ?_
        have fbn : FB (fun s => rsF fd ea n (gi h 0 9) s) (fun s => i - 1 < s ∧ s < (bShl 1 (gi h 0 9))) b_ := by
          refine ⟨by show 0 ≤ (rsF fd ea n (gi h 0 9) b_); exact fb.1, fun s hs rs0 => ?_⟩
          by_cases y : s = i
          · rw [y] at rs0 ⊢
            have rs0 : 0 ≤ (rsF fd ea n (gi h 0 9) i) := rs0
            omega
          · have z := fb.2 s (by have hs : i - 1 < s ∧ s < (bShl 1 (gi h 0 9)) := hs; exact ⟨by omega, hs.2⟩) rs0
            have hs : i - 1 < s ∧ s < (bShl 1 (gi h 0 9)) := hs
            omega
        exact ih _ (by omega) b_ f (i + (-1)) _ rfl (n0) (by omega) (by omega) (f0) (fbn) (lk1_n (lk1_n l0 (by decide) (Or.inl rfl)) (by decide) (Or.inl rfl)) (lk1_n (lk1_n l1 (by decide) (Or.inl rfl)) (by decide) (Or.inl rfl)) (lk1_n (lk1_n l2 (by decide) (Or.inl rfl)) (by decide) (Or.inl rfl)) (lk1_n (lk1_n l3 (by decide) (Or.inl rfl)) (by decide) (Or.inl rfl)) lk1_s
      · refine x_iload 61 hK rfl rfl (lk1_n l4 (by decide) (Or.inl rfl)) ?_
        have bz595 := bcF_r i
        refine x_callS 64 hK hmono rfl (Or.inl rfl) rfl [.int (I i)] [] rfl rfl (Nat.le_of_ble_eq_true rfl) (Nat.le_of_ble_eq_true rfl) (CLd_le (Nat.le_of_ble_eq_true rfl) (ctJ6_bitCount_0f7a4F hSP (x := i))) ?_
        rintro v9 h9 ⟨e9, rfl⟩
        rw [e9]
        clear e9
        refine x_iload_n 65 hK rfl rfl (lk1_n l2 (by decide) (Or.inl rfl)) ?_
        have bz596 := bcF_r b_
        refine x_callS 68 hK hmono rfl (Or.inl rfl) rfl [.int (I b_)] [.int (I (bcF i))] rfl rfl (Nat.le_of_ble_eq_true rfl) (Nat.le_of_ble_eq_true rfl) (CLd_le (Nat.le_of_ble_eq_true rfl) (ctJ6_bitCount_0f7a4F hSP (x := b_))) ?_
        rintro v9 h9 ⟨e9, rfl⟩
        rw [e9]
        clear e9
        refine x_if_icmp_gt 77 71 hK rfl rfl rfl (by omega) (by omega) (fun c27 => ?_) (fun c27 => ?_)
        · refine x_iinc 80 hK rfl rfl (lk1_n l4 (by decide) (Or.inl rfl)) _ rfl ?_
          refine x_goto 40 hK rfl rfl ?_
          have fbn : FB (fun s => rsF fd ea n (gi h 0 9) s) (fun s => i - 1 < s ∧ s < (bShl 1 (gi h 0 9))) b_ := by
            refine ⟨by show 0 ≤ (rsF fd ea n (gi h 0 9) b_); exact fb.1, fun s hs rs0 => ?_⟩
            by_cases y : s = i
            · rw [y] at rs0 ⊢
              have rs0 : 0 ≤ (rsF fd ea n (gi h 0 9) i) := rs0
              omega
            · have z := fb.2 s (by have hs : i - 1 < s ∧ s < (bShl 1 (gi h 0 9)) := hs; exact ⟨by omega, hs.2⟩) rs0
              have hs : i - 1 < s ∧ s < (bShl 1 (gi h 0 9)) := hs
              omega
          exact ih _ (by omega) b_ f (i + (-1)) _ rfl (n0) (by omega) (by omega) (f0) (fbn) (lk1_n (lk1_n l0 (by decide) (Or.inl rfl)) (by decide) (Or.inl rfl)) (lk1_n (lk1_n l1 (by decide) (Or.inl rfl)) (by decide) (Or.inl rfl)) (lk1_n (lk1_n l2 (by decide) (Or.inl rfl)) (by decide) (Or.inl rfl)) (lk1_n (lk1_n l3 (by decide) (Or.inl rfl)) (by decide) (Or.inl rfl)) lk1_s
        · refine x_iload 73 hK rfl rfl (lk1_n l4 (by decide) (Or.inl rfl)) ?_
          refine x_istore_n 74 hK rfl rfl _ rfl ?_
          refine x_iload 76 hK rfl rfl (lk1_n lk1_s (by decide) (Or.inl rfl)) ?_
          refine x_istore_n 77 hK rfl rfl _ rfl ?_
          refine x_iinc 80 hK rfl rfl (lk1_n (lk1_n (lk1_n l4 (by decide) (Or.inl rfl)) (by decide) (Or.inl rfl)) (by decide) (Or.inl rfl)) _ rfl ?_
          refine x_goto 40 hK rfl rfl ?_
          have fbn : FB (fun s => rsF fd ea n (gi h 0 9) s) (fun s => i - 1 < s ∧ s < (bShl 1 (gi h 0 9))) i := by
            refine ⟨by show 0 ≤ (rsF fd ea n (gi h 0 9) i); omega, fun s hs rs0 => ?_⟩
            by_cases y : s = i
            · rw [y]; exact Or.inr ⟨rfl, Int.le_refl _⟩
            · have z := fb.2 s (by have hs : i - 1 < s ∧ s < (bShl 1 (gi h 0 9)) := hs; exact ⟨by omega, hs.2⟩) rs0
              have hs : i - 1 < s ∧ s < (bShl 1 (gi h 0 9)) := hs
              omega
          exact ih _ (by omega) i (rsF fd ea n (gi h 0 9) i) (i + (-1)) _ rfl (n0) (by omega) (by omega) (rfl) (fbn) (lk1_n (lk1_n (lk1_n (lk1_n l0 (by decide) (Or.inl rfl)) (by decide) (Or.inl rfl)) (by decide) (Or.inl rfl)) (by decide) (Or.inl rfl)) (lk1_n (lk1_n (lk1_n (lk1_n l1 (by decide) (Or.inl rfl)) (by decide) (Or.inl rfl)) (by decide) (Or.inl rfl)) (by decide) (Or.inl rfl)) (lk1_n (lk1_n lk1_s (by decide) (Or.inl rfl)) (by decide) (Or.inl rfl)) (lk1_n lk1_s (by decide) (Or.inl rfl)) lk1_s
  refine x_iload_n 1 hK rfl rfl rfl ?_
  refine x_if_lt 17 4 hK rfl rfl rfl (by omega) (fun c2 => ?_) (fun c2 => ?_)
  · refine x_iconst 18 hK rfl rfl ?_
    exact x_iret hK rfl ⟨Or.inl ⟨fun z => by have z1 := z.1; have z2 := z.2; omega, rfl, rfl⟩, hG, FRM.rf⟩
  · refine x_iload_n 5 hK rfl rfl rfl ?_
    refine x_bipush 7 hK rfl rfl rfl ?_
    refine x_if_icmp_gt 17 10 hK rfl rfl rfl (by omega) (by omega) (fun c7 => ?_) (fun c7 => ?_)
    · refine x_iconst 18 hK rfl rfl ?_
      exact x_iret hK rfl ⟨Or.inl ⟨fun z => by have z1 := z.1; have z2 := z.2; omega, rfl, rfl⟩, hG, FRM.rf⟩
    · refine x_aload_n 11 hK rfl rfl rfl ?_
      have g597 := gri (0) (8) hG (a := 0) (r := 0) (k := 9) rfl rfl
      refine x_getE 14 hK rfl (Or.inl rfl) rfl (sp_0 (h := h) hG) (e := (gi h 0 9)) (rfl) ?_
      refine x_if_ne 19 17 hK rfl rfl rfl (by omega) (fun c12 => ?_) (fun c12 => ?_)
      · have s2 := s1 (by omega)
        refine x_iconst 20 hK rfl rfl ?_
        refine x_aload_n 21 hK rfl rfl rfl ?_
        refine x_getE 24 hK rfl (Or.inl rfl) rfl (sp_0 (h := h) hG) (e := (gi h 0 9)) (rfl) ?_
        have g598 := bShl_r 1 (gi h 0 9)
        refine x_ishlF 25 hK rfl rfl ?_
        refine x_iconst 26 hK rfl rfl ?_
        refine x_isub 27 hK rfl rfl ?_
        refine x_istore_n 28 hK rfl rfl [(2, .int (I ((bShl 1 (gi h 0 9)) - 1))), (0, .ref 0), (1, .int (I n))] rfl ?_
        refine x_aload_n 29 hK rfl rfl rfl ?_
        refine x_iload_n 30 hK rfl rfl rfl ?_
        refine x_iload_n 31 hK rfl rfl rfl ?_
        refine x_callV 34 hK hmono rfl rfl [.ref 0, .int (I ((bShl 1 (gi h 0 9)) - 1)), .int (I n)] [] rfl rfl (Nat.le_of_ble_eq_true rfl) (Nat.le_of_ble_eq_true rfl) rfl (sp_0 (h := h) hG) (CLd_le (Nat.le_of_ble_eq_true rfl) (ctX10_foodLeftF hSP hG hf he (z := ((bShl 1 (gi h 0 9)) - 1)) (n := n) (by omega))) ?_
        rintro v9 h9 ⟨e9, rfl⟩
        rw [e9]
        clear e9
        have rz599 := rb ((bShl 1 (gi h 0 9)) - 1) (by omega)
        refine x_istore_n 35 hK rfl rfl [(3, .int (I (rsF fd ea n (gi h 0 9) ((bShl 1 (gi h 0 9)) - 1)))), (2, .int (I ((bShl 1 (gi h 0 9)) - 1))), (0, .ref 0), (1, .int (I n))] rfl ?_
        refine x_iload_n 36 hK rfl rfl rfl ?_
        refine x_iconst 37 hK rfl rfl ?_
        refine x_isub 38 hK rfl rfl ?_
        refine x_istore 40 hK rfl rfl [(4, .int (I (((bShl 1 (gi h 0 9)) - 1) - 1))), (3, .int (I (rsF fd ea n (gi h 0 9) ((bShl 1 (gi h 0 9)) - 1)))), (2, .int (I ((bShl 1 (gi h 0 9)) - 1))), (0, .ref 0), (1, .int (I n))] rfl ?_
        have es : esF ea n ((bShl 1 (gi h 0 9)) - 1) (gi h 0 9).toNat = 0 := es_0 _ fun j hj => s2.2.2 j (by omega)
        have sb := sumF_b (f := fd) (a := 0) (B := 99) (m := gi h 0 9) (by omega) (by omega) (fun j hj => (hf j hj).2) (gi h 0 9).toNat (by omega)
        have r0 : 0 ≤ (rsF fd ea n (gi h 0 9) ((bShl 1 (gi h 0 9)) - 1)) := by unfold rsF; rw [es]; omega
        exact loop _ ((bShl 1 (gi h 0 9)) - 1) (rsF fd ea n (gi h 0 9) ((bShl 1 (gi h 0 9)) - 1)) (((bShl 1 (gi h 0 9)) - 1) - 1) _ rfl (⟨⟨by omega, by omega⟩, by omega⟩) (by omega) (by omega) (rfl) (⟨r0, fun s hs _ => Or.inr (by have hs : ((bShl 1 (gi h 0 9)) - 1) - 1 < s ∧ s < (bShl 1 (gi h 0 9)) := hs; rw [show s = ((bShl 1 (gi h 0 9)) - 1) by omega]; exact ⟨rfl, Int.le_refl _⟩)⟩) rfl rfl rfl rfl rfl
      · refine x_iconst 18 hK rfl rfl ?_
        exact x_iret hK rfl ⟨Or.inl ⟨fun z => by have z1 := z.1; have z2 := z.2; omega, rfl, rfl⟩, hG, FRM.rf⟩
set_option maxRecDepth 4000 in
theorem ctX11_hasF {SP : CT} (hSP : MONO SP) {h : aH} {x y : Int} : CLd SP 1 mX11_has [.int (I x), .int (I y)] h 0 0 (fun rv h' => h' = h ∧ ((rv = some (.int (I 1)) ∧ bAnd (bShr x y) 1 = 1) ∨ (rv = some (.int (I 0)) ∧ ¬ bAnd (bShr x y) 1 = 1))) := by
  refine x_met _ rfl (Nat.le_of_ble_eq_true rfl) (fun K hK => ?_)
  have hmono := MONO_CLd hSP 0
  refine x_iload_n 1 hK rfl rfl rfl ?_
  refine x_iload_n 2 hK rfl rfl rfl ?_
  have g600 := bShr_r x y
  refine x_ishrF 3 hK rfl rfl ?_
  refine x_iconst 4 hK rfl rfl ?_
  have g601 := bAnd_r (bShr x y) 1
  refine x_iandF 5 hK rfl rfl ?_
  refine x_iconst 6 hK rfl rfl ?_
  refine x_if_icmp_ne 13 9 hK rfl rfl rfl (by omega) (by omega) (fun c7 => ?_) (fun c7 => ?_)
  · refine x_iconst 14 hK rfl rfl ?_
    exact x_zret hK rfl (by omega) ⟨rfl, Or.inr ⟨rfl, by omega⟩⟩
  · refine x_iconst 10 hK rfl rfl ?_
    refine x_goto 14 hK rfl rfl ?_
    exact x_zret hK rfl (by omega) ⟨rfl, Or.inl ⟨rfl, by omega⟩⟩
set_option maxRecDepth 4000 in
theorem ctX11_fastF {SP : CT} (hSP : MONO SP) {sh : List (Nat × Nat)} {h : aH} (hG : GD gE gRL sh h) {fd ea : Nat → Int} (hf : ∀ j : Nat, (j : Int) < gi h 171 7 → gi h 178 (41 + j) = fd j ∧ 0 ≤ fd j ∧ fd j ≤ 99) (he : ∀ j : Nat, (j : Int) < gi h 171 7 → gi h 177 j = ea j ∧ 0 ≤ ea j ∧ ea j ≤ 9) {n : Int} (rn : r32 n) : CLd SP 3 mX11_fast [.ref 171, .int (I n)] h 0 0 (fun rv h' => ((¬ ((0 ≤ n ∧ n ≤ 99) ∧ (gi h 171 7) ≠ 0) ∧ rv = some (.int (I (-1))) ∧ mrow h' = mrow h ∧ gi h' 171 1 = gi h 171 1) ∨ (((0 ≤ n ∧ n ≤ 99) ∧ (gi h 171 7) ≠ 0) ∧ ∃ e : Int, rv = some (.int (I e)) ∧ (0 ≤ e ∧ e < (bShl 1 (gi h 171 7))) ∧ FB (fun s => rsF fd ea n (gi h 171 7) s) (fun s => 0 ≤ s ∧ s < (bShl 1 (gi h 171 7))) e ∧ mrow h' = [bcF e, (rsF fd ea n (gi h 171 7) e)])) ∧ GD gE gRL sh h' ∧ FRM gRL [(0, 54, 0, 0), (0, 54, 1, 1), (1, 55, 0, 39)] h h') := by
  refine x_met _ rfl (Nat.le_of_ble_eq_true rfl) (fun K hK => ?_)
  have hmono := MONO_CLd hSP 2
  have g9 := gri 0 8 hG (a := 171) (r := 54) (k := 7) rfl rfl
  have s1 := fun z : 1 ≤ (gi h 171 7) => shl1 ⟨z, g9.2⟩
  have sets : ∀ (mz : Nat) (t b_ f s : Int) (h4 : aH) (ls : List (Nat × Value)), (((bShl 1 (gi h 171 7)) - s).toNat = mz) → ((0 ≤ n ∧ n ≤ 99) ∧ (gi h 171 7) ≠ 0) → (gi h4 171 1 = gi h 171 1) → (mrow h4 = mrow h) → (t = sumF fd 0 (gi h 171 7).toNat) → (0 ≤ s ∧ s ≤ (bShl 1 (gi h 171 7))) → (-8000 ≤ f ∧ f ≤ 8000 ∧ -1 ≤ b_ ∧ b_ < s) → ((b_ = -1 ∧ ∀ q : Int, 0 ≤ q → q < s → ¬ 0 ≤ (rsF fd ea n (gi h 171 7) q)) ∨ (0 ≤ b_ ∧ f = (rsF fd ea n (gi h 171 7) b_) ∧ FB (fun q => rsF fd ea n (gi h 171 7) q) (fun q => 0 ≤ q ∧ q < s) b_)) → lk ls 0 = some (.ref 171) → lk ls 1 = some (.int (I n)) → lk ls 2 = some (.int (I t)) → lk ls 3 = some (.int (I b_)) → lk ls 4 = some (.int (I f)) → lk ls 5 = some (.int (I s)) → GD gE gRL sh h4 → FRM gRL [(0, 54, 0, 0), (0, 54, 1, 1), (1, 55, 0, 39)] h h4 → K 64 ls [] h4 0 0 := by
    intro mz
    induction mz using Nat.strongRecOn with
    | ind mz ih =>
    intro t b_ f s h4 ls hm n0 r14 rw4 t0 i0 fr b0 l0 l1 l2 l3 l4 l5 hG4 hF4
    have iho := ih
    have s2 := s1 (by omega)
    have m4 : gi h4 171 7 = (gi h 171 7) := FRM_gi hF4 (r := 54) rfl (by decide)
    have bcs := bcF_r s
    have bcb := bcF_r b_
    have stb := sumF_b (f := fd) (a := 0) (B := 99) (m := (gi h 171 7)) (by omega) (by omega) (fun j hj => (hf j hj).2) (gi h 171 7).toNat (by omega)
    have inner : ∀ (mz : Nat) (c i : Int) (ls : List (Nat × Value)), (((gi h 171 7) - i).toNat = mz) → (s < (bShl 1 (gi h 171 7))) → (0 ≤ i ∧ i ≤ (gi h 171 7)) → (c = sumF fd 0 (gi h 171 7).toNat - esF ea n s i.toNat) → lk ls 0 = some (.ref 171) → lk ls 1 = some (.int (I n)) → lk ls 2 = some (.int (I t)) → lk ls 3 = some (.int (I b_)) → lk ls 4 = some (.int (I f)) → lk ls 5 = some (.int (I s)) → lk ls 6 = some (.int (I c)) → lk ls 7 = some (.int (I i)) → K 81 ls [] h4 0 0 := by
      intro mz
      induction mz using Nat.strongRecOn with
      | ind mz ih =>
      intro c i ls hm ls_ j0 c0 l0 l1 l2 l3 l4 l5 l6 l7
      have tb := esF_b (set := s) (m := (gi h 171 7)) n0.1 (fun j hj => (he j hj).2) i.toNat (by omega)
      have ei := fun y : i < (gi h 171 7) => he i.toNat (by omega)
      refine x_iload 83 hK rfl rfl l7 ?_
      refine x_aload_n 84 hK rfl rfl l0 ?_
      have g602 := gri (0) (8) hG (a := 171) (r := 54) (k := 7) rfl rfl
      refine x_getE 87 hK rfl (Or.inl rfl) rfl (sp_171 (h := h4) hG4) (e := (gi h 171 7)) (m4) ?_
      refine x_if_icmp_ge 124 90 hK rfl rfl rfl (by omega) (by omega) (fun c4 => ?_) (fun c4 => ?_)
      · refine x_iload_n 125 hK rfl rfl l3 ?_
        refine x_if_lt 140 128 hK rfl rfl rfl (by omega) (fun c6 => ?_) (fun c6 => ?_)
        · refine x_iconst 141 hK rfl rfl ?_
          refine x_goto 145 hK rfl rfl ?_
          refine x_istore 147 hK rfl rfl _ rfl ?_
          refine x_iload 149 hK rfl rfl (lk1_n l6 (by decide) (Or.inl rfl)) ?_
          refine x_if_lt 162 152 hK rfl rfl rfl (by omega) (fun c11 => ?_) (fun c11 => ?_)
          · refine x_iload 164 hK rfl rfl (lk1_n l4 (by decide) (Or.inl rfl)) ?_
            refine x_istore 166 hK rfl rfl _ rfl ?_
            refine x_iload 168 hK rfl rfl (lk1_n (lk1_n l6 (by decide) (Or.inl rfl)) (by decide) (Or.inl rfl)) ?_
            refine x_if_lt 181 171 hK rfl rfl rfl (by omega) (fun _ => ?_) (fun c => by omega)
            refine x_iload_n 182 hK rfl rfl (lk1_n (lk1_n l3 (by decide) (Or.inl rfl)) (by decide) (Or.inl rfl)) ?_
            refine x_istore_n 183 hK rfl rfl _ rfl ?_
            refine x_iinc 186 hK rfl rfl (lk1_n (lk1_n (lk1_n l5 (by decide) (Or.inl rfl)) (by decide) (Or.inl rfl)) (by decide) (Or.inl rfl)) _ rfl ?_
            refine x_goto 64 hK rfl rfl ?_
            have cr : c = (rsF fd ea n (gi h 171 7) s) := by rw [c0]; unfold rsF; rw [show i.toNat = (gi h 171 7).toNat by omega]
            have bn : (b_ = -1 ∧ ∀ q : Int, 0 ≤ q → q < s + 1 → ¬ 0 ≤ (rsF fd ea n (gi h 171 7) q)) ∨ (0 ≤ b_ ∧ f = (rsF fd ea n (gi h 171 7) b_) ∧ FB (fun q => rsF fd ea n (gi h 171 7) q) (fun q => 0 ≤ q ∧ q < s + 1) b_) := by
              rcases b0 with ⟨b1, b2⟩ | ⟨b1, b2, b3⟩
              · refine Or.inl ⟨b1, fun q h1 h2 r0 => ?_⟩
                by_cases y : q = s
                · rw [y] at r0; omega
                · exact b2 q h1 (by omega) r0
              · refine Or.inr ⟨b1, b2, b3.1, fun q hq r0 => ?_⟩
                have hq : 0 ≤ q ∧ q < s + 1 := hq
                by_cases y : q = s
                · rw [y] at r0 ⊢
                  have r0 : 0 ≤ (rsF fd ea n (gi h 171 7) s) := r0
                  omega
                · exact b3.2 q ⟨hq.1, by omega⟩ r0
            exact iho _ (by omega) t b_ f (s + 1) _ _ rfl (n0) (r14) (rw4) (t0) (by omega) (by omega) (bn) (lk1_n (lk1_n (lk1_n (lk1_n l0 (by decide) (Or.inl rfl)) (by decide) (Or.inl rfl)) (by decide) (Or.inl rfl)) (by decide) (Or.inl rfl)) (lk1_n (lk1_n (lk1_n (lk1_n l1 (by decide) (Or.inl rfl)) (by decide) (Or.inl rfl)) (by decide) (Or.inl rfl)) (by decide) (Or.inl rfl)) (lk1_n (lk1_n (lk1_n (lk1_n l2 (by decide) (Or.inl rfl)) (by decide) (Or.inl rfl)) (by decide) (Or.inl rfl)) (by decide) (Or.inl rfl)) (lk1_n lk1_s (by decide) (Or.inl rfl)) (lk1_n (lk1_n lk1_s (by decide) (Or.inl rfl)) (by decide) (Or.inl rfl)) lk1_s (hG4) (hF4)
          · refine x_iload 154 hK rfl rfl lk1_s ?_
            refine x_if_eq 162 157 hK rfl rfl rfl (by omega) (fun c => by omega) (fun _ => ?_)
            refine x_iload 159 hK rfl rfl (lk1_n l6 (by decide) (Or.inl rfl)) ?_
            refine x_goto 164 hK rfl rfl ?_
            refine x_istore 166 hK rfl rfl _ rfl ?_
            refine x_iload 168 hK rfl rfl (lk1_n (lk1_n l6 (by decide) (Or.inl rfl)) (by decide) (Or.inl rfl)) ?_
            refine x_if_lt 181 171 hK rfl rfl rfl (by omega) (fun c => by omega) (fun _ => ?_)
            refine x_iload 173 hK rfl rfl (lk1_n lk1_s (by decide) (Or.inl rfl)) ?_
            refine x_if_eq 181 176 hK rfl rfl rfl (by omega) (fun c => by omega) (fun _ => ?_)
            refine x_iload 178 hK rfl rfl (lk1_n (lk1_n l5 (by decide) (Or.inl rfl)) (by decide) (Or.inl rfl)) ?_
            refine x_goto 182 hK rfl rfl ?_
            refine x_istore_n 183 hK rfl rfl _ rfl ?_
            refine x_iinc 186 hK rfl rfl (lk1_n (lk1_n (lk1_n l5 (by decide) (Or.inl rfl)) (by decide) (Or.inl rfl)) (by decide) (Or.inl rfl)) _ rfl ?_
            refine x_goto 64 hK rfl rfl ?_
            have cr : c = (rsF fd ea n (gi h 171 7) s) := by rw [c0]; unfold rsF; rw [show i.toNat = (gi h 171 7).toNat by omega]
            have bn : FB (fun q => rsF fd ea n (gi h 171 7) q) (fun q => 0 ≤ q ∧ q < s + 1) s := ⟨by show 0 ≤ (rsF fd ea n (gi h 171 7) s); omega, fun q hq r0 => by
              have hq : 0 ≤ q ∧ q < s + 1 := hq
              by_cases y : q = s
              · rw [y]; exact Or.inr ⟨rfl, Int.le_refl _⟩
              · rcases b0 with ⟨b1, b2⟩ | ⟨b1, b2, b3⟩
                · exact absurd (show 0 ≤ (rsF fd ea n (gi h 171 7) q) from r0) (b2 q hq.1 (by omega))
                · have z := b3.2 q ⟨hq.1, by omega⟩ r0
                  omega⟩
            exact iho _ (by omega) t s c (s + 1) _ _ rfl (n0) (r14) (rw4) (t0) (by omega) (by omega) (Or.inr ⟨i0.1, cr, bn⟩) (lk1_n (lk1_n (lk1_n (lk1_n l0 (by decide) (Or.inl rfl)) (by decide) (Or.inl rfl)) (by decide) (Or.inl rfl)) (by decide) (Or.inl rfl)) (lk1_n (lk1_n (lk1_n (lk1_n l1 (by decide) (Or.inl rfl)) (by decide) (Or.inl rfl)) (by decide) (Or.inl rfl)) (by decide) (Or.inl rfl)) (lk1_n (lk1_n (lk1_n (lk1_n l2 (by decide) (Or.inl rfl)) (by decide) (Or.inl rfl)) (by decide) (Or.inl rfl)) (by decide) (Or.inl rfl)) (lk1_n lk1_s (by decide) (Or.inl rfl)) (lk1_n (lk1_n lk1_s (by decide) (Or.inl rfl)) (by decide) (Or.inl rfl)) lk1_s (hG4) (hF4)
        · refine x_iload 130 hK rfl rfl l5 ?_
          have bz603 := bcF_r s
          refine x_callS 133 hK hmono rfl (Or.inl rfl) rfl [.int (I s)] [] rfl rfl (Nat.le_of_ble_eq_true rfl) (Nat.le_of_ble_eq_true rfl) (CLd_le (Nat.le_of_ble_eq_true rfl) (ctJ6_bitCount_0f7a4F hSP (x := s))) ?_
          rintro v9 h9 ⟨e9, rfl⟩
          rw [e9]
          clear e9
          refine x_iload_n 134 hK rfl rfl l3 ?_
          have bz604 := bcF_r b_
          refine x_callS 137 hK hmono rfl (Or.inl rfl) rfl [.int (I b_)] [.int (I (bcF s))] rfl rfl (Nat.le_of_ble_eq_true rfl) (Nat.le_of_ble_eq_true rfl) (CLd_le (Nat.le_of_ble_eq_true rfl) (ctJ6_bitCount_0f7a4F hSP (x := b_))) ?_
          rintro v9 h9 ⟨e9, rfl⟩
          rw [e9]
          clear e9
          refine x_if_icmp_ge 144 140 hK rfl rfl rfl (by omega) (by omega) (fun c40 => ?_) (fun c40 => ?_)
          · refine x_iconst 145 hK rfl rfl ?_
            refine x_istore 147 hK rfl rfl _ rfl ?_
            refine x_iload 149 hK rfl rfl (lk1_n l6 (by decide) (Or.inl rfl)) ?_
            refine x_if_lt 162 152 hK rfl rfl rfl (by omega) (fun c44 => ?_) (fun c44 => ?_)
            · refine x_iload 164 hK rfl rfl (lk1_n l4 (by decide) (Or.inl rfl)) ?_
              refine x_istore 166 hK rfl rfl _ rfl ?_
              refine x_iload 168 hK rfl rfl (lk1_n (lk1_n l6 (by decide) (Or.inl rfl)) (by decide) (Or.inl rfl)) ?_
              refine x_if_lt 181 171 hK rfl rfl rfl (by omega) (fun _ => ?_) (fun c => by omega)
              refine x_iload_n 182 hK rfl rfl (lk1_n (lk1_n l3 (by decide) (Or.inl rfl)) (by decide) (Or.inl rfl)) ?_
              refine x_istore_n 183 hK rfl rfl _ rfl ?_
              refine x_iinc 186 hK rfl rfl (lk1_n (lk1_n (lk1_n l5 (by decide) (Or.inl rfl)) (by decide) (Or.inl rfl)) (by decide) (Or.inl rfl)) _ rfl ?_
              refine x_goto 64 hK rfl rfl ?_
              have cr : c = (rsF fd ea n (gi h 171 7) s) := by rw [c0]; unfold rsF; rw [show i.toNat = (gi h 171 7).toNat by omega]
              have bn : (b_ = -1 ∧ ∀ q : Int, 0 ≤ q → q < s + 1 → ¬ 0 ≤ (rsF fd ea n (gi h 171 7) q)) ∨ (0 ≤ b_ ∧ f = (rsF fd ea n (gi h 171 7) b_) ∧ FB (fun q => rsF fd ea n (gi h 171 7) q) (fun q => 0 ≤ q ∧ q < s + 1) b_) := by
                rcases b0 with ⟨b1, b2⟩ | ⟨b1, b2, b3⟩
                · refine Or.inl ⟨b1, fun q h1 h2 r0 => ?_⟩
                  by_cases y : q = s
                  · rw [y] at r0; omega
                  · exact b2 q h1 (by omega) r0
                · refine Or.inr ⟨b1, b2, b3.1, fun q hq r0 => ?_⟩
                  have hq : 0 ≤ q ∧ q < s + 1 := hq
                  by_cases y : q = s
                  · rw [y] at r0 ⊢
                    have r0 : 0 ≤ (rsF fd ea n (gi h 171 7) s) := r0
                    omega
                  · exact b3.2 q ⟨hq.1, by omega⟩ r0
              exact iho _ (by omega) t b_ f (s + 1) _ _ rfl (n0) (r14) (rw4) (t0) (by omega) (by omega) (bn) (lk1_n (lk1_n (lk1_n (lk1_n l0 (by decide) (Or.inl rfl)) (by decide) (Or.inl rfl)) (by decide) (Or.inl rfl)) (by decide) (Or.inl rfl)) (lk1_n (lk1_n (lk1_n (lk1_n l1 (by decide) (Or.inl rfl)) (by decide) (Or.inl rfl)) (by decide) (Or.inl rfl)) (by decide) (Or.inl rfl)) (lk1_n (lk1_n (lk1_n (lk1_n l2 (by decide) (Or.inl rfl)) (by decide) (Or.inl rfl)) (by decide) (Or.inl rfl)) (by decide) (Or.inl rfl)) (lk1_n lk1_s (by decide) (Or.inl rfl)) (lk1_n (lk1_n lk1_s (by decide) (Or.inl rfl)) (by decide) (Or.inl rfl)) lk1_s (hG4) (hF4)
            · refine x_iload 154 hK rfl rfl lk1_s ?_
              refine x_if_eq 162 157 hK rfl rfl rfl (by omega) (fun _ => ?_) (fun c => by omega)
              refine x_iload 164 hK rfl rfl (lk1_n l4 (by decide) (Or.inl rfl)) ?_
              refine x_istore 166 hK rfl rfl _ rfl ?_
              refine x_iload 168 hK rfl rfl (lk1_n (lk1_n l6 (by decide) (Or.inl rfl)) (by decide) (Or.inl rfl)) ?_
              refine x_if_lt 181 171 hK rfl rfl rfl (by omega) (fun c => by omega) (fun _ => ?_)
              refine x_iload 173 hK rfl rfl (lk1_n lk1_s (by decide) (Or.inl rfl)) ?_
              refine x_if_eq 181 176 hK rfl rfl rfl (by omega) (fun _ => ?_) (fun c => by omega)
              refine x_iload_n 182 hK rfl rfl (lk1_n (lk1_n l3 (by decide) (Or.inl rfl)) (by decide) (Or.inl rfl)) ?_
              refine x_istore_n 183 hK rfl rfl _ rfl ?_
              refine x_iinc 186 hK rfl rfl (lk1_n (lk1_n (lk1_n l5 (by decide) (Or.inl rfl)) (by decide) (Or.inl rfl)) (by decide) (Or.inl rfl)) _ rfl ?_
              refine x_goto 64 hK rfl rfl ?_
              have cr : c = (rsF fd ea n (gi h 171 7) s) := by rw [c0]; unfold rsF; rw [show i.toNat = (gi h 171 7).toNat by omega]
              have bn : (b_ = -1 ∧ ∀ q : Int, 0 ≤ q → q < s + 1 → ¬ 0 ≤ (rsF fd ea n (gi h 171 7) q)) ∨ (0 ≤ b_ ∧ f = (rsF fd ea n (gi h 171 7) b_) ∧ FB (fun q => rsF fd ea n (gi h 171 7) q) (fun q => 0 ≤ q ∧ q < s + 1) b_) := by
                rcases b0 with ⟨b1, b2⟩ | ⟨b1, b2, b3⟩
                · refine Or.inl ⟨b1, fun q h1 h2 r0 => ?_⟩
                  by_cases y : q = s
                  · rw [y] at r0; omega
                  · exact b2 q h1 (by omega) r0
                · refine Or.inr ⟨b1, b2, b3.1, fun q hq r0 => ?_⟩
                  have hq : 0 ≤ q ∧ q < s + 1 := hq
                  by_cases y : q = s
                  · rw [y] at r0 ⊢
                    have r0 : 0 ≤ (rsF fd ea n (gi h 171 7) s) := r0
                    omega
                  · exact b3.2 q ⟨hq.1, by omega⟩ r0
              exact iho _ (by omega) t b_ f (s + 1) _ _ rfl (n0) (r14) (rw4) (t0) (by omega) (by omega) (bn) (lk1_n (lk1_n (lk1_n (lk1_n l0 (by decide) (Or.inl rfl)) (by decide) (Or.inl rfl)) (by decide) (Or.inl rfl)) (by decide) (Or.inl rfl)) (lk1_n (lk1_n (lk1_n (lk1_n l1 (by decide) (Or.inl rfl)) (by decide) (Or.inl rfl)) (by decide) (Or.inl rfl)) (by decide) (Or.inl rfl)) (lk1_n (lk1_n (lk1_n (lk1_n l2 (by decide) (Or.inl rfl)) (by decide) (Or.inl rfl)) (by decide) (Or.inl rfl)) (by decide) (Or.inl rfl)) (lk1_n lk1_s (by decide) (Or.inl rfl)) (lk1_n (lk1_n lk1_s (by decide) (Or.inl rfl)) (by decide) (Or.inl rfl)) lk1_s (hG4) (hF4)
          · refine x_iconst 141 hK rfl rfl ?_
            refine x_goto 145 hK rfl rfl ?_
            refine x_istore 147 hK rfl rfl _ rfl ?_
            refine x_iload 149 hK rfl rfl (lk1_n l6 (by decide) (Or.inl rfl)) ?_
            refine x_if_lt 162 152 hK rfl rfl rfl (by omega) (fun c71 => ?_) (fun c71 => ?_)
            · refine x_iload 164 hK rfl rfl (lk1_n l4 (by decide) (Or.inl rfl)) ?_
              refine x_istore 166 hK rfl rfl _ rfl ?_
              refine x_iload 168 hK rfl rfl (lk1_n (lk1_n l6 (by decide) (Or.inl rfl)) (by decide) (Or.inl rfl)) ?_
              refine x_if_lt 181 171 hK rfl rfl rfl (by omega) (fun _ => ?_) (fun c => by omega)
              refine x_iload_n 182 hK rfl rfl (lk1_n (lk1_n l3 (by decide) (Or.inl rfl)) (by decide) (Or.inl rfl)) ?_
              refine x_istore_n 183 hK rfl rfl _ rfl ?_
              refine x_iinc 186 hK rfl rfl (lk1_n (lk1_n (lk1_n l5 (by decide) (Or.inl rfl)) (by decide) (Or.inl rfl)) (by decide) (Or.inl rfl)) _ rfl ?_
              refine x_goto 64 hK rfl rfl ?_
              have cr : c = (rsF fd ea n (gi h 171 7) s) := by rw [c0]; unfold rsF; rw [show i.toNat = (gi h 171 7).toNat by omega]
              have bn : (b_ = -1 ∧ ∀ q : Int, 0 ≤ q → q < s + 1 → ¬ 0 ≤ (rsF fd ea n (gi h 171 7) q)) ∨ (0 ≤ b_ ∧ f = (rsF fd ea n (gi h 171 7) b_) ∧ FB (fun q => rsF fd ea n (gi h 171 7) q) (fun q => 0 ≤ q ∧ q < s + 1) b_) := by
                rcases b0 with ⟨b1, b2⟩ | ⟨b1, b2, b3⟩
                · refine Or.inl ⟨b1, fun q h1 h2 r0 => ?_⟩
                  by_cases y : q = s
                  · rw [y] at r0; omega
                  · exact b2 q h1 (by omega) r0
                · refine Or.inr ⟨b1, b2, b3.1, fun q hq r0 => ?_⟩
                  have hq : 0 ≤ q ∧ q < s + 1 := hq
                  by_cases y : q = s
                  · rw [y] at r0 ⊢
                    have r0 : 0 ≤ (rsF fd ea n (gi h 171 7) s) := r0
                    omega
                  · exact b3.2 q ⟨hq.1, by omega⟩ r0
              exact iho _ (by omega) t b_ f (s + 1) _ _ rfl (n0) (r14) (rw4) (t0) (by omega) (by omega) (bn) (lk1_n (lk1_n (lk1_n (lk1_n l0 (by decide) (Or.inl rfl)) (by decide) (Or.inl rfl)) (by decide) (Or.inl rfl)) (by decide) (Or.inl rfl)) (lk1_n (lk1_n (lk1_n (lk1_n l1 (by decide) (Or.inl rfl)) (by decide) (Or.inl rfl)) (by decide) (Or.inl rfl)) (by decide) (Or.inl rfl)) (lk1_n (lk1_n (lk1_n (lk1_n l2 (by decide) (Or.inl rfl)) (by decide) (Or.inl rfl)) (by decide) (Or.inl rfl)) (by decide) (Or.inl rfl)) (lk1_n lk1_s (by decide) (Or.inl rfl)) (lk1_n (lk1_n lk1_s (by decide) (Or.inl rfl)) (by decide) (Or.inl rfl)) lk1_s (hG4) (hF4)
            · refine x_iload 154 hK rfl rfl lk1_s ?_
              refine x_if_eq 162 157 hK rfl rfl rfl (by omega) (fun c => by omega) (fun _ => ?_)
              refine x_iload 159 hK rfl rfl (lk1_n l6 (by decide) (Or.inl rfl)) ?_
              refine x_goto 164 hK rfl rfl ?_
              refine x_istore 166 hK rfl rfl _ rfl ?_
              refine x_iload 168 hK rfl rfl (lk1_n (lk1_n l6 (by decide) (Or.inl rfl)) (by decide) (Or.inl rfl)) ?_
              refine x_if_lt 181 171 hK rfl rfl rfl (by omega) (fun c => by omega) (fun _ => ?_)
              refine x_iload 173 hK rfl rfl (lk1_n lk1_s (by decide) (Or.inl rfl)) ?_
              refine x_if_eq 181 176 hK rfl rfl rfl (by omega) (fun c => by omega) (fun _ => ?_)
              refine x_iload 178 hK rfl rfl (lk1_n (lk1_n l5 (by decide) (Or.inl rfl)) (by decide) (Or.inl rfl)) ?_
              refine x_goto 182 hK rfl rfl ?_
              refine x_istore_n 183 hK rfl rfl _ rfl ?_
              refine x_iinc 186 hK rfl rfl (lk1_n (lk1_n (lk1_n l5 (by decide) (Or.inl rfl)) (by decide) (Or.inl rfl)) (by decide) (Or.inl rfl)) _ rfl ?_
              refine x_goto 64 hK rfl rfl ?_
              have cr : c = (rsF fd ea n (gi h 171 7) s) := by rw [c0]; unfold rsF; rw [show i.toNat = (gi h 171 7).toNat by omega]
              have bn : FB (fun q => rsF fd ea n (gi h 171 7) q) (fun q => 0 ≤ q ∧ q < s + 1) s := ⟨by show 0 ≤ (rsF fd ea n (gi h 171 7) s); omega, fun q hq r0 => by
                have hq : 0 ≤ q ∧ q < s + 1 := hq
                by_cases y : q = s
                · rw [y]; exact Or.inr ⟨rfl, Int.le_refl _⟩
                · rcases b0 with ⟨b1, b2⟩ | ⟨b1, b2, b3⟩
                  · exact absurd (show 0 ≤ (rsF fd ea n (gi h 171 7) q) from r0) (b2 q hq.1 (by omega))
                  · have z := b3.2 q ⟨hq.1, by omega⟩ r0
                    omega⟩
              exact iho _ (by omega) t s c (s + 1) _ _ rfl (n0) (r14) (rw4) (t0) (by omega) (by omega) (Or.inr ⟨i0.1, cr, bn⟩) (lk1_n (lk1_n (lk1_n (lk1_n l0 (by decide) (Or.inl rfl)) (by decide) (Or.inl rfl)) (by decide) (Or.inl rfl)) (by decide) (Or.inl rfl)) (lk1_n (lk1_n (lk1_n (lk1_n l1 (by decide) (Or.inl rfl)) (by decide) (Or.inl rfl)) (by decide) (Or.inl rfl)) (by decide) (Or.inl rfl)) (lk1_n (lk1_n (lk1_n (lk1_n l2 (by decide) (Or.inl rfl)) (by decide) (Or.inl rfl)) (by decide) (Or.inl rfl)) (by decide) (Or.inl rfl)) (lk1_n lk1_s (by decide) (Or.inl rfl)) (lk1_n (lk1_n lk1_s (by decide) (Or.inl rfl)) (by decide) (Or.inl rfl)) lk1_s (hG4) (hF4)
      · have ei2 := ei (by omega)
        have nb := en_b ei2.2 n0.1
        have mc9 : n * ea i.toNat = ea i.toNat * n := Int.mul_comm _ _
        refine x_iload 92 hK rfl rfl l6 ?_
        refine x_iload 94 hK rfl rfl l5 ?_
        refine x_iload 96 hK rfl rfl l7 ?_
        refine x_callS 99 hK hmono rfl (Or.inl rfl) rfl [.int (I s), .int (I i)] [.int (I c)] rfl rfl (Nat.le_of_ble_eq_true rfl) (Nat.le_of_ble_eq_true rfl) (CLd_le (Nat.le_of_ble_eq_true rfl) (ctX11_hasF hSP (x := s) (y := i))) ?_
        rintro v9 h9 ⟨e9, ⟨rfl, hs9⟩ | ⟨rfl, hs9⟩⟩ <;> rw [e9] <;> clear e9
        · refine x_if_eq 106 102 hK rfl rfl rfl (by omega) (fun c => by omega) (fun _ => ?_)
          refine x_iconst 103 hK rfl rfl ?_
          refine x_goto 115 hK rfl rfl ?_
          refine x_isub 116 hK rfl rfl ?_
          refine x_istore 118 hK rfl rfl _ rfl ?_
          refine x_iinc 121 hK rfl rfl (lk1_n l7 (by decide) (Or.inl rfl)) _ rfl ?_
          refine x_goto 81 hK rfl rfl ?_
          exact ih _ (by omega) (c - 0) (i + 1) _ rfl (ls_) (by omega) (by rw [esF_s j0.1, if_pos hs9, c0]; omega) (lk1_n (lk1_n l0 (by decide) (Or.inl rfl)) (by decide) (Or.inl rfl)) (lk1_n (lk1_n l1 (by decide) (Or.inl rfl)) (by decide) (Or.inl rfl)) (lk1_n (lk1_n l2 (by decide) (Or.inl rfl)) (by decide) (Or.inl rfl)) (lk1_n (lk1_n l3 (by decide) (Or.inl rfl)) (by decide) (Or.inl rfl)) (lk1_n (lk1_n l4 (by decide) (Or.inl rfl)) (by decide) (Or.inl rfl)) (lk1_n (lk1_n l5 (by decide) (Or.inl rfl)) (by decide) (Or.inl rfl)) (lk1_n lk1_s (by decide) (Or.inl rfl)) lk1_s
        · refine x_if_eq 106 102 hK rfl rfl rfl (by omega) (fun _ => ?_) (fun c => by omega)
          refine x_iload_n 107 hK rfl rfl l1 ?_
          refine x_aload_n 108 hK rfl rfl l0 ?_
          refine x_getR 111 hK rfl rfl (sp_171 (h := h4) hG4) (rf_171_13 (h := h4) hG4) ?_
          refine x_iload 113 hK rfl rfl l7 ?_
          refine x_ialoadE 114 hK rfl rfl (sp_177 (h := h4) hG4) (by omega) (by omega) (by omega) (e' := (ea i.toNat)) (((FRM_gi hF4 (r := 60) rfl rfl).trans (ei (by omega)).1)) ?_
          refine x_imul 115 hK rfl rfl ?_
          refine x_isub 116 hK rfl rfl ?_
          refine x_istore 118 hK rfl rfl _ rfl ?_
          refine x_iinc 121 hK rfl rfl (lk1_n l7 (by decide) (Or.inl rfl)) _ rfl ?_
          refine x_goto 81 hK rfl rfl ?_
          exact ih _ (by omega) (c - (n * (ea i.toNat))) (i + 1) _ rfl (ls_) (by omega) (by rw [esF_s j0.1, if_neg hs9, c0]; omega) (lk1_n (lk1_n l0 (by decide) (Or.inl rfl)) (by decide) (Or.inl rfl)) (lk1_n (lk1_n l1 (by decide) (Or.inl rfl)) (by decide) (Or.inl rfl)) (lk1_n (lk1_n l2 (by decide) (Or.inl rfl)) (by decide) (Or.inl rfl)) (lk1_n (lk1_n l3 (by decide) (Or.inl rfl)) (by decide) (Or.inl rfl)) (lk1_n (lk1_n l4 (by decide) (Or.inl rfl)) (by decide) (Or.inl rfl)) (lk1_n (lk1_n l5 (by decide) (Or.inl rfl)) (by decide) (Or.inl rfl)) (lk1_n lk1_s (by decide) (Or.inl rfl)) lk1_s
    refine x_iload 66 hK rfl rfl l5 ?_
    refine x_iconst 67 hK rfl rfl ?_
    refine x_aload_n 68 hK rfl rfl l0 ?_
    have g605 := gri (0) (8) hG (a := 171) (r := 54) (k := 7) rfl rfl
    refine x_getE 71 hK rfl (Or.inl rfl) rfl (sp_171 (h := h4) hG4) (e := (gi h 171 7)) (m4) ?_
    have g606 := bShl_r 1 (gi h 171 7)
    refine x_ishlF 72 hK rfl rfl ?_
    refine x_if_icmp_ge 189 75 hK rfl rfl rfl (by omega) (by omega) (fun c6 => ?_) (fun c6 => ?_)
    · have es : esF ea n ((bShl 1 (gi h 171 7)) - 1) (gi h 171 7).toNat = 0 := es_0 _ fun j hj => s2.2.2 j (by omega)
      have r0 : 0 ≤ (rsF fd ea n (gi h 171 7) ((bShl 1 (gi h 171 7)) - 1)) := by unfold rsF; rw [es]; omega
      obtain ⟨b1, b2, b3⟩ : 0 ≤ b_ ∧ f = (rsF fd ea n (gi h 171 7) b_) ∧ FB (fun q => rsF fd ea n (gi h 171 7) q) (fun q => 0 ≤ q ∧ q < s) b_ := by
        rcases b0 with ⟨b1, b2⟩ | b0
        · exact absurd r0 (b2 ((bShl 1 (gi h 171 7)) - 1) (by omega) (by omega))
        · exact b0
      refine x_aload_n 190 hK rfl rfl l0 ?_
      refine x_iconst 191 hK rfl rfl ?_
      refine x_putI 194 hK rfl rfl (sp_171 (h := h4) hG4) ?_
      refine x_aload_n 195 hK rfl rfl l0 ?_
      refine x_iload_n 196 hK rfl rfl l3 ?_
      have bz607 := bcF_r b_
      refine x_callS 199 hK hmono rfl (Or.inl rfl) rfl [.int (I b_)] [.ref 171] rfl rfl (Nat.le_of_ble_eq_true rfl) (Nat.le_of_ble_eq_true rfl) (CLd_le (Nat.le_of_ble_eq_true rfl) (ctJ6_bitCount_0f7a4F hSP (x := b_))) ?_
      rintro v9 h9 ⟨e9, rfl⟩
      rw [e9]
      clear e9
      refine x_i2l 200 hK rfl rfl (by omega) ?_
      have hGp608 : GD gE gRL sh (wI h4 171 1 0) := GD_w1 (hG4) (r := 54) rfl (by omega) rfl (by omega) (by omega)
      have z610 : gi (wI h4 171 1 0) 171 1 = 0 := gi_same (by omega)
      have z610r : mrow (wI h4 171 1 0) = [] := mrow_0 (gi_same (by omega))
      refine x_callV 203 hK hmono rfl rfl [.ref 171, .long (J (bcF b_))] [] rfl rfl (Nat.le_of_ble_eq_true rfl) (Nat.le_of_ble_eq_true rfl) rfl (sp_171 (h := h4) hG4) (CLd_le (Nat.le_of_ble_eq_true rfl) (ctX11_entersF hSP hGp608 (by omega) (by omega))) ?_
      rintro v609 h609 ⟨rfl, hG609, hF609, t609, s609⟩
      rw [z610] at t609
      rw [z610r] at s609
      replace t609 : gi h609 171 1 = 1 := t609
      change mrow h609 = [(bcF b_)] at s609
      refine x_aload_n 204 hK rfl rfl l0 ?_
      refine x_iload 206 hK rfl rfl l4 ?_
      refine x_i2l 207 hK rfl rfl (by omega) ?_
      have z612 : gi h609 171 1 = 1 := t609
      have z612r : mrow h609 = [(bcF b_)] := s609
      refine x_callV 210 hK hmono rfl rfl [.ref 171, .long (J f)] [] rfl rfl (Nat.le_of_ble_eq_true rfl) (Nat.le_of_ble_eq_true rfl) rfl (sp_171 (h := h609) hG609) (CLd_le (Nat.le_of_ble_eq_true rfl) (ctX11_entersF hSP hG609 (by omega) (by omega))) ?_
      rintro v611 h611 ⟨rfl, hG611, hF611, t611, s611⟩
      rw [z612] at t611
      rw [z612r] at s611
      replace t611 : gi h611 171 1 = 2 := t611
      change mrow h611 = [(bcF b_), f] at s611
      refine x_iload_n 211 hK rfl rfl l3 ?_
      exact x_iret hK rfl ⟨Or.inr ⟨n0, b_, rfl, by omega, ⟨b3.1, fun q hq r0 => b3.2 q (by have hq : 0 ≤ q ∧ q < (bShl 1 (gi h 171 7)) := hq; exact ⟨hq.1, by omega⟩) r0⟩, by rw [← b2]; exact s611⟩, hG611, ((FRM_w (hF4) (r := 54) rfl rfl).trans ((hF609).mono rfl)).trans ((hF611).mono rfl)⟩
    · refine x_iload_n 76 hK rfl rfl l2 ?_
      refine x_istore 78 hK rfl rfl _ rfl ?_
      refine x_iconst 79 hK rfl rfl ?_
      refine x_istore 81 hK rfl rfl _ rfl ?_
      exact inner _ t 0 _ rfl (by omega) (by omega) (by rw [t0]; exact (Int.sub_zero _).symm) (lk1_n (lk1_n l0 (by decide) (Or.inl rfl)) (by decide) (Or.inl rfl)) (lk1_n (lk1_n l1 (by decide) (Or.inl rfl)) (by decide) (Or.inl rfl)) (lk1_n (lk1_n l2 (by decide) (Or.inl rfl)) (by decide) (Or.inl rfl)) (lk1_n (lk1_n l3 (by decide) (Or.inl rfl)) (by decide) (Or.inl rfl)) (lk1_n (lk1_n l4 (by decide) (Or.inl rfl)) (by decide) (Or.inl rfl)) (lk1_n (lk1_n l5 (by decide) (Or.inl rfl)) (by decide) (Or.inl rfl)) (lk1_n lk1_s (by decide) (Or.inl rfl)) lk1_s
  have all : ∀ (mz : Nat) (t i : Int) (h4 : aH) (ls : List (Nat × Value)), (((gi h 171 7) - i).toNat = mz) → ((0 ≤ n ∧ n ≤ 99) ∧ (gi h 171 7) ≠ 0) → (gi h4 171 1 = gi h 171 1) → (mrow h4 = mrow h) → (0 ≤ i ∧ i ≤ (gi h 171 7)) → (t = sumF fd 0 i.toNat) → lk ls 0 = some (.ref 171) → lk ls 1 = some (.int (I n)) → lk ls 2 = some (.int (I t)) → lk ls 3 = some (.int (I i)) → GD gE gRL sh h4 → FRM gRL [(0, 54, 0, 0), (0, 54, 1, 1), (1, 55, 0, 39)] h h4 → K 30 ls [] h4 0 0 := by
    intro mz
    induction mz using Nat.strongRecOn with
    | ind mz ih =>
    intro t i h4 ls hm n0 r14 rw4 i0 t0 l0 l1 l2 l3 hG4 hF4
    have m4 : gi h4 171 7 = (gi h 171 7) := FRM_gi hF4 (r := 54) rfl (by decide)
    have s2 := s1 (by omega)
    have fi := fun y : i < (gi h 171 7) => hf i.toNat (by omega)
    have stb := sumF_b (f := fd) (a := 0) (B := 99) (m := (gi h 171 7)) (by omega) (by omega) (fun j hj => (hf j hj).2) i.toNat (by omega)
    have ss := sumF_s (f := fd) i0.1
    rw [Int.sub_zero, Int.sub_zero] at ss
    refine x_iload_n 31 hK rfl rfl l3 ?_
    refine x_aload_n 32 hK rfl rfl l0 ?_
    have g613 := gri (0) (8) hG (a := 171) (r := 54) (k := 7) rfl rfl
    refine x_getE 35 hK rfl (Or.inl rfl) rfl (sp_171 (h := h4) hG4) (e := (gi h 171 7)) (m4) ?_
    refine x_if_icmp_ge 56 38 hK rfl rfl rfl (by omega) (by omega) (fun c4 => ?_) (fun c4 => ?_)
    · refine x_iconst 57 hK rfl rfl ?_
      refine x_istore_n 58 hK rfl rfl _ rfl ?_
      refine x_iconst 59 hK rfl rfl ?_
      refine x_istore 61 hK rfl rfl _ rfl ?_
      refine x_iconst 62 hK rfl rfl ?_
      refine x_istore 64 hK rfl rfl _ rfl ?_
      exact sets _ t (-1) 0 0 _ _ rfl (n0) (r14) (rw4) (by rw [t0, show i.toNat = (gi h 171 7).toNat by omega]) (by omega) (by omega) (Or.inl ⟨rfl, fun q h1 h2 => by omega⟩) (lk1_n (lk1_n (lk1_n l0 (by decide) (Or.inl rfl)) (by decide) (Or.inl rfl)) (by decide) (Or.inl rfl)) (lk1_n (lk1_n (lk1_n l1 (by decide) (Or.inl rfl)) (by decide) (Or.inl rfl)) (by decide) (Or.inl rfl)) (lk1_n (lk1_n (lk1_n l2 (by decide) (Or.inl rfl)) (by decide) (Or.inl rfl)) (by decide) (Or.inl rfl)) (lk1_n (lk1_n lk1_s (by decide) (Or.inl rfl)) (by decide) (Or.inl rfl)) (lk1_n lk1_s (by decide) (Or.inl rfl)) lk1_s (hG4) (hF4)
    · have fi2 := fi (by omega)
      refine x_iload_n 39 hK rfl rfl l2 ?_
      refine x_aload_n 40 hK rfl rfl l0 ?_
      refine x_getR 43 hK rfl rfl (sp_171 (h := h4) hG4) (rf_171_14 (h := h4) hG4) ?_
      refine x_bipush 45 hK rfl rfl rfl ?_
      refine x_iload_n 46 hK rfl rfl l3 ?_
      refine x_iadd 47 hK rfl rfl ?_
      refine x_ialoadE 48 hK rfl rfl (sp_178 (h := h4) hG4) (by omega) (by omega) (by omega) (e' := (fd i.toNat)) (((FRM_gi hF4 (r := 61) rfl rfl).trans ((gi_to (show (41 + i).toNat = 41 + i.toNat by omega)).trans (fi (by omega)).1))) ?_
      refine x_iadd 49 hK rfl rfl ?_
      refine x_istore_n 50 hK rfl rfl _ rfl ?_
      refine x_iinc 53 hK rfl rfl (lk1_n l3 (by decide) (Or.inl rfl)) _ rfl ?_
      refine x_goto 30 hK rfl rfl ?_
      exact ih _ (by omega) (t + (fd i.toNat)) (i + 1) _ _ rfl (n0) (r14) (rw4) (by omega) (by rw [ss, t0]) (lk1_n (lk1_n l0 (by decide) (Or.inl rfl)) (by decide) (Or.inl rfl)) (lk1_n (lk1_n l1 (by decide) (Or.inl rfl)) (by decide) (Or.inl rfl)) (lk1_n lk1_s (by decide) (Or.inl rfl)) lk1_s (hG4) (hF4)
  refine x_aload_n 1 hK rfl rfl rfl ?_
  refine x_iconst 2 hK rfl rfl ?_
  refine x_putI 5 hK rfl rfl (sp_171 (h := h) hG) ?_
  refine x_iload_n 6 hK rfl rfl rfl ?_
  refine x_i2l 7 hK rfl rfl (by omega) ?_
  refine x_lconstE 8 0 hK rfl rfl rfl ?_
  refine x_ldc2_w 11 hK rfl rfl ?_
  have hGp614 : GD gE gRL sh (wI h 171 0 0) := GD_w1 (hG) (r := 54) rfl (by omega) rfl (by omega) (by omega)
  refine x_callS 14 hK hmono rfl (Or.inl rfl) rfl [.long (J n), .long (J 0), .long (J 99)] [] rfl rfl (Nat.le_of_ble_eq_true rfl) (Nat.le_of_ble_eq_true rfl) (CLd_le (Nat.le_of_ble_eq_true rfl) (ctX11_in (by omega) (by omega) (by omega))) ?_
  rintro v9 h9 ⟨e9, ⟨rfl, i1615, i2615⟩ | ⟨rfl, i1615⟩⟩ <;> rw [e9] <;> clear e9
  · refine x_if_eq 24 17 hK rfl rfl rfl (by omega) (fun c => by omega) (fun _ => ?_)
    refine x_aload_n 18 hK rfl rfl rfl ?_
    have g616 := gri (0) (8) hG (a := 171) (r := 54) (k := 7) rfl rfl
    refine x_getE 21 hK rfl (Or.inl rfl) rfl (sp_171 (h := h) hG) (e := (gi h 171 7)) (gi_k (by decide) _) ?_
    refine x_if_ne 26 24 hK rfl rfl rfl (by omega) (fun c12 => ?_) (fun c12 => ?_)
    · refine x_iconst 27 hK rfl rfl ?_
      refine x_istore_n 28 hK rfl rfl [(2, .int (I 0)), (0, .ref 171), (1, .int (I n))] rfl ?_
      refine x_iconst 29 hK rfl rfl ?_
      refine x_istore_n 30 hK rfl rfl [(3, .int (I 0)), (2, .int (I 0)), (0, .ref 171), (1, .int (I n))] rfl ?_
      exact all _ 0 0 _ _ rfl (⟨⟨by omega, by omega⟩, by omega⟩) (gi_k (by decide) _) (mrow_k (by decide)) (by omega) (rfl) rfl rfl rfl rfl (GD_w1 (hG) (r := 54) rfl (by omega) rfl (by omega) (by omega)) (FRM_w ((FRM.rf : FRM gRL [(0, 54, 0, 0), (0, 54, 1, 1), (1, 55, 0, 39)] h h)) (r := 54) rfl rfl)
    · refine x_iconst 25 hK rfl rfl ?_
      exact x_iret hK rfl ⟨Or.inl ⟨fun z => by have z1 := z.1; have z2 := z.2; omega, rfl, mrow_k (by decide), gi_k (by decide) _⟩, GD_w1 (hG) (r := 54) rfl (by omega) rfl (by omega) (by omega), FRM_w ((FRM.rf : FRM gRL [(0, 54, 0, 0), (0, 54, 1, 1), (1, 55, 0, 39)] h h)) (r := 54) rfl rfl⟩
  · refine x_if_eq 24 17 hK rfl rfl rfl (by omega) (fun _ => ?_) (fun c => by omega)
    refine x_iconst 25 hK rfl rfl ?_
    exact x_iret hK rfl ⟨Or.inl ⟨fun z => by have z1 := z.1; have z2 := z.2; omega, rfl, mrow_k (by decide), gi_k (by decide) _⟩, GD_w1 (hG) (r := 54) rfl (by omega) rfl (by omega) (by omega), FRM_w ((FRM.rf : FRM gRL [(0, 54, 0, 0), (0, 54, 1, 1), (1, 55, 0, 39)] h h)) (r := 54) rfl rfl⟩
end
