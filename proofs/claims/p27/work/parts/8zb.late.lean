/-! LATE -/
theorem dlA_12 (h : aH) (t : Int) : dlA h (t + 12) = dlA h t := by
  have e : askF h (t + 12) = askF h t := by
    funext q
    unfold askF
    rw [show (t + 12) % 12 = t % 12 by omega]
  unfold dlA
  rw [e]
/-- when an order of STEP k from now is done -/
noncomputable def dnF (h : aH) (t : Int) (k : Nat) : Int := (k : Int) + dlA h (t + k)
theorem dnF_b (h : aH) (t : Int) (k : Nat) : (k : Int) + 1 ≤ dnF h t k ∧ dnF h t k ≤ k + 12 := by
  have := dlA_b h (t + k)
  unfold dnF
  omega
theorem dnF_12 (h : aH) (t : Int) (k : Nat) : dnF h t (k + 12) = dnF h t k + 12 := by
  unfold dnF
  rw [show t + ((k + 12 : Nat) : Int) = t + (k : Int) + 12 by omega, dlA_12]
  omega
/-- it is overtaken by one of those from STEP a on, n of them -/
noncomputable def ovF (f : Nat → Int) (v : Int) (a : Int) : Nat → Bool
  | 0 => false
  | n + 1 => ovF f v a n || decide (f (a + n).toNat < v)
theorem ovF_s {f : Nat → Int} {v a i : Int} (h : a ≤ i) : ovF f v a (i + 1 - a).toNat = (ovF f v a (i - a).toNat || decide (f i.toNat < v)) := by
  rw [show (i + 1 - a).toNat = (i - a).toNat + 1 by omega]
  show (ovF f v a (i - a).toNat || decide (f (a + ((i - a).toNat : Int)).toNat < v)) = _
  rw [show a + ((i - a).toNat : Int) = i by omega]
theorem ovF_t {f : Nat → Int} {v a : Int} : ∀ {n m : Nat}, n ≤ m → ovF f v a n = true → ovF f v a m = true
  | n, 0, h, e => by
    have : n = 0 := by omega
    rw [this] at e
    exact e
  | n, m + 1, h, e => by
    by_cases c : n = m + 1
    · rw [← c]; exact e
    · show (ovF f v a m || _) = true
      rw [ovF_t (show n ≤ m by omega) e]
      rfl
/-- how many of the first i -/
noncomputable def ltF (f : Nat → Int) (n : Int) : Nat → Int
  | 0 => 0
  | i + 1 => ltF f n i + b2i (ovF f (f i) (i + 1) (n - (i + 1)).toNat)
theorem ltF_s {f : Nat → Int} {n i : Int} (h : 0 ≤ i) : ltF f n (i + 1).toNat = ltF f n i.toNat + b2i (ovF f (f i.toNat) (i + 1) (n - (i + 1)).toNat) := by
  rw [tn_s h]
  show ltF f n i.toNat + b2i (ovF f (f i.toNat) ((i.toNat : Int) + 1) (n - ((i.toNat : Int) + 1)).toNat) = _
  rw [show ((i.toNat : Nat) : Int) = i by omega]
theorem ltF_b (f : Nat → Int) (n : Int) : ∀ i : Nat, 0 ≤ ltF f n i ∧ ltF f n i ≤ i
  | 0 => ⟨Int.le_refl _, Int.le_refl _⟩
  | i + 1 => by
    have := ltF_b f n i
    have z : 0 ≤ b2i (ovF f (f i) (i + 1) (n - (i + 1)).toNat) ∧ b2i (ovF f (f i) (i + 1) (n - (i + 1)).toNat) ≤ 1 := by cases ovF f (f i) (i + 1) (n - (i + 1)).toNat <;> decide
    show 0 ≤ ltF f n i + b2i _ ∧ ltF f n i + b2i _ ≤ ((i + 1 : Nat) : Int)
    omega
theorem b2i_01 (b : Bool) : 0 ≤ b2i b ∧ b2i b ≤ 1 := by cases b <;> decide
set_option maxRecDepth 4000 in
theorem ctX10_lookAheadF {SP : CT} (hSP : MONO SP) {sh : List (Nat × Nat)} {h : aH} (hG : GD gE gRL sh h) {s u : Nat} (hP : PT h) (hX : XI h) (hD : DR h s u) (h0 : 0 ≤ (gi h 23 0) ∧ (gi h 23 0) ≤ 1000000) (hml : ∀ j : Nat, (j : Int) < gi h 19 0 → 0 ≤ gi h 20 j ∧ gi h 20 j ≤ 999) : CLd SP 7 mX10_lookAhead [.ref 0] h 0 0 (fun rv h' => rv = none ∧ GD gE gRL sh h' ∧ FRM gRL [(0, 8, 3, 3), (0, 10, 0, 39), (0, 41, 5, 5), (0, 42, 0, 29), (0, 43, 0, 30)] h h' ∧ ∀ j : Nat, j < 30 → gi h' 128 j = dnF h (gi h 23 0) j) := by
  refine x_met _ rfl (Nat.le_of_ble_eq_true rfl) (fun K hK => ?_)
  have hmono := MONO_CLd hSP 6
  have hD2 := hD
  obtain ⟨h5, hu, pS, pL, ⟨c0, c1, c2⟩, r0, r1, r2⟩ := hD2
  have g19 := gri 0 16 hG (a := 19) (r := 13) (k := 0) rfl rfl
  have tm := tm2 (gi h 171 5)
  have rocks : ∀ (mz : Nat) (i : Int) (h4 : aH) (ls : List (Nat × Value)), ((gi h 19 0 - i).toNat = mz) → (0 ≤ i ∧ i ≤ gi h 19 0) → (∀ j : Nat, j < 30 → gi h4 128 j = dnF h (gi h 23 0) j) → lk ls 0 = some (.ref 0) → lk ls 1 = some (.int (I i)) → GD gE gRL sh h4 → FRM gRL [(0, 8, 3, 3), (0, 10, 0, 39), (0, 41, 5, 5), (0, 42, 0, 29), (0, 43, 0, 30)] h h4 → K 100 ls [] h4 0 0 := by
    intro mz
    induction mz using Nat.strongRecOn with
    | ind mz ih =>
    intro i h4 ls hm i0 dn l0 l1 hG4 hF4
    have gm := fun z : i < gi h 19 0 => hml i.toNat (by omega)
    have gl2 := fun z : i < gi h 19 0 => grn 0 8 hG (a := 21) (r := 15) (k := i.toNat) rfl rfl (by omega)
    refine x_iload_n 101 hK rfl rfl l1 ?_
    refine x_aload_n 102 hK rfl rfl l0 ?_
    refine x_getR 105 hK rfl rfl (sp_0 (h := h4) hG4) (rf_0_7 (h := h4) hG4) ?_
    have g578 := gri (0) (16) hG (a := 19) (r := 13) (k := 0) rfl rfl
    refine x_getE 108 hK rfl (Or.inl rfl) rfl (sp_19 (h := h4) hG4) (e := (gi h 19 0)) (FRM_gi hF4 (r := 13) rfl rfl) ?_
    refine x_if_icmp_ge 169 111 hK rfl rfl rfl (by omega) (by omega) (fun c5 => ?_) (fun c5 => ?_)
    · exact x_vret hK rfl ⟨rfl, hG4, hF4, dn⟩
    · have gm2 := gm (by omega)
      have gl3 := gl2 (by omega)
      refine x_aload_n 112 hK rfl rfl l0 ?_
      refine x_getR 115 hK rfl rfl (sp_0 (h := h4) hG4) (rf_0_7 (h := h4) hG4) ?_
      refine x_getR 118 hK rfl rfl (sp_19 (h := h4) hG4) (rf_19_1 (h := h4) hG4) ?_
      refine x_iload_n 119 hK rfl rfl l1 ?_
      have g579 := gi_r h 20 i.toNat
      refine x_ialoadE 120 hK rfl rfl (sp_20 (h := h4) hG4) (by omega) (by omega) (by omega) (e' := (gi h 20 i.toNat)) (FRM_gi hF4 (r := 14) rfl rfl) ?_
      refine x_aload_n 121 hK rfl rfl l0 ?_
      refine x_getR 124 hK rfl rfl (sp_0 (h := h4) hG4) (rf_0_10 (h := h4) hG4) ?_
      have g580 := gi_r h 23 0
      refine x_getE 127 hK rfl (Or.inl rfl) rfl (sp_23 (h := h4) hG4) (e := (gi h 23 0)) (FRM_gi hF4 (r := 17) rfl rfl) ?_
      refine x_isub 128 hK rfl rfl ?_
      refine x_istore_n 129 hK rfl rfl _ rfl ?_
      refine x_iload_n 130 hK rfl rfl lk1_s ?_
      refine x_iconst 131 hK rfl rfl ?_
      refine x_if_icmp_lt 163 134 hK rfl rfl rfl (by omega) (by omega) (fun c20 => ?_) (fun c20 => ?_)
      · refine x_iinc 166 hK rfl rfl (lk1_n l1 (by decide) (Or.inl rfl)) _ rfl ?_
        refine x_goto 100 hK rfl rfl ?_
        exact ih _ (by omega) (i + 1) _ _ rfl (by omega) (fun j hj => (rfl).trans (dn j hj)) (lk1_n (lk1_n l0 (by decide) (Or.inl rfl)) (by decide) (Or.inl rfl)) lk1_s (hG4) (hF4)
      · refine x_iload_n 135 hK rfl rfl lk1_s ?_
        refine x_bipush 137 hK rfl rfl rfl ?_
        refine x_if_icmp_gt 163 140 hK rfl rfl rfl (by omega) (by omega) (fun c26 => ?_) (fun c26 => ?_)
        · refine x_iinc 166 hK rfl rfl (lk1_n l1 (by decide) (Or.inl rfl)) _ rfl ?_
          refine x_goto 100 hK rfl rfl ?_
          exact ih _ (by omega) (i + 1) _ _ rfl (by omega) (fun j hj => (rfl).trans (dn j hj)) (lk1_n (lk1_n l0 (by decide) (Or.inl rfl)) (by decide) (Or.inl rfl)) lk1_s (hG4) (hF4)
        · refine x_aload_n 141 hK rfl rfl (lk1_n l0 (by decide) (Or.inl rfl)) ?_
          refine x_getR 144 hK rfl rfl (sp_0 (h := h4) hG4) (rf_0_13 (h := h4) hG4) ?_
          refine x_getR 147 hK rfl rfl (sp_127 (h := h4) hG4) (rf_127_1 (h := h4) hG4) ?_
          refine x_iload_n 148 hK rfl rfl lk1_s ?_
          refine x_dup2 149 hK rfl rfl rfl rfl ?_
          have g581 := gi_r h4 129 ((gi h 20 i.toNat) - (gi h 23 0)).toNat
          refine x_ialoadE 150 hK rfl rfl (sp_129 (h := h4) hG4) (by omega) (by omega) (by omega) (e' := (gi h4 129 ((gi h 20 i.toNat) - (gi h 23 0)).toNat)) (rfl) ?_
          refine x_iconst 151 hK rfl rfl ?_
          refine x_aload_n 152 hK rfl rfl (lk1_n l0 (by decide) (Or.inl rfl)) ?_
          refine x_getR 155 hK rfl rfl (sp_0 (h := h4) hG4) (rf_0_7 (h := h4) hG4) ?_
          refine x_getR 158 hK rfl rfl (sp_19 (h := h4) hG4) (rf_19_2 (h := h4) hG4) ?_
          refine x_iload_n 159 hK rfl rfl (lk1_n l1 (by decide) (Or.inl rfl)) ?_
          have g582 := grn (0) (8) hG (a := 21) (r := 15) (k := i.toNat) rfl rfl (by omega)
          refine x_ialoadE 160 hK rfl rfl (sp_21 (h := h4) hG4) (by omega) (by omega) (by omega) (e' := (gi h 21 i.toNat)) (FRM_gi hF4 (r := 15) rfl rfl) ?_
          refine x_ishlX 161 hK rfl rfl (fun q42 rq42 => ?_)
          refine x_iorX 162 hK rfl rfl (fun q43 rq43 => ?_)
          refine x_iastore 163 hK rfl rfl (sp_129 (h := h4) hG4) (by omega) (by omega) (by omega) ?_
          refine x_iinc 166 hK rfl rfl (lk1_n l1 (by decide) (Or.inl rfl)) _ rfl ?_
          refine x_goto 100 hK rfl rfl ?_
          exact ih _ (by omega) (i + 1) _ _ rfl (by omega) (fun j hj => (gi_a (by decide) _).trans (dn j hj)) (lk1_n (lk1_n l0 (by decide) (Or.inl rfl)) (by decide) (Or.inl rfl)) lk1_s (GD_wn (hG4) (r := 43) rfl rfl) (FRM_wn 0 30 (hF4) (r := 43) rfl rfl rfl (by omega) (by omega))
  have done : ∀ (mz : Nat) (i : Int) (h4 : aH) (ls : List (Nat × Value)), ((30 - i).toNat = mz) → (0 ≤ i ∧ i ≤ 30) → (∀ j : Nat, (j : Int) < i → gi h4 128 j = dnF h (gi h 23 0) j) → lk ls 0 = some (.ref 0) → lk ls 1 = some (.int (I i)) → GD gE gRL sh h4 → FRM gRL [(0, 8, 3, 3), (0, 10, 0, 39), (0, 41, 5, 5), (0, 42, 0, 29), (0, 43, 0, 30)] h h4 → K 27 ls [] h4 0 0 := by
    intro mz
    induction mz using Nat.strongRecOn with
    | ind mz ih =>
    intro i h4 ls hm i0 dn l0 l1 hG4 hF4
    have hD4 : DR h4 s u := DR_F hF4 rfl hD
    have dl4 : dlA h4 = dlA h := funext fun z => dlA_F hF4 rfl z
    have n4 : gi h4 23 0 = (gi h 23 0) := FRM_gi hF4 (r := 17) rfl rfl
    have db12 := dnF_b h (gi h 23 0) (i - 12).toNat
    refine x_iload_n 28 hK rfl rfl l1 ?_
    refine x_bipush 30 hK rfl rfl rfl ?_
    refine x_if_icmp_ge 87 33 hK rfl rfl rfl (by omega) (by omega) (fun c3 => ?_) (fun c3 => ?_)
    · refine x_aload_n 88 hK rfl rfl l0 ?_
      refine x_getR 91 hK rfl rfl (sp_0 (h := h4) hG4) (rf_0_13 (h := h4) hG4) ?_
      refine x_getR 94 hK rfl rfl (sp_127 (h := h4) hG4) (rf_127_1 (h := h4) hG4) ?_
      refine x_iconst 95 hK rfl rfl ?_
      refine x_callS 98 hK hmono rfl (Or.inl rfl) rfl [.ref 129, .int (I 0)] [] rfl rfl (Nat.le_of_ble_eq_true rfl) (Nat.le_of_ble_eq_true rfl) (CLd_le (Nat.le_of_ble_eq_true rfl) (kJ7_fill_53178_0 hSP [.ref 129, .int (I 0)] _ (xOk_ok rfl _ h4 hF4 hX) ⟨gv_r (by decide) rfl, ⟨_, rfl, Int.le_refl _, Int.le_refl _, trivial⟩, trivial⟩ hG4 gov_n)) ?_
      rintro v583 h583 ⟨hG583, hF583, o583, m583, q583, z583, -⟩
      obtain rfl := List.mem_singleton.mp m583
      obtain rfl := QS_v q583
      refine x_iconst 99 hK rfl rfl ?_
      refine x_istore_n 100 hK rfl rfl _ rfl ?_
      exact rocks _ 0 _ _ rfl (by omega) (fun j hj => (FRM_gi hF583 (r := 42) rfl rfl).trans (dn j (by omega))) (lk1_n l0 (by decide) (Or.inl rfl)) lk1_s (hG583) ((hF4).trans ((hF583).mono rfl))
    · refine x_aload_n 34 hK rfl rfl l0 ?_
      refine x_getR 37 hK rfl rfl (sp_0 (h := h4) hG4) (rf_0_13 (h := h4) hG4) ?_
      refine x_getR 40 hK rfl rfl (sp_127 (h := h4) hG4) (rf_127_0 (h := h4) hG4) ?_
      refine x_iload_n 41 hK rfl rfl l1 ?_
      refine x_iload_n 42 hK rfl rfl l1 ?_
      refine x_bipush 44 hK rfl rfl rfl ?_
      refine x_if_icmp_ge 65 47 hK rfl rfl rfl (by omega) (by omega) (fun c18 => ?_) (fun c18 => ?_)
      · refine x_aload_n 66 hK rfl rfl l0 ?_
        refine x_getR 69 hK rfl rfl (sp_0 (h := h4) hG4) (rf_0_13 (h := h4) hG4) ?_
        refine x_getR 72 hK rfl rfl (sp_127 (h := h4) hG4) (rf_127_0 (h := h4) hG4) ?_
        refine x_iload_n 73 hK rfl rfl l1 ?_
        refine x_bipush 75 hK rfl rfl rfl ?_
        refine x_isub 76 hK rfl rfl ?_
        refine x_ialoadE 77 hK rfl rfl (sp_128 (h := h4) hG4) (by omega) (by omega) (by omega) (e' := (dnF h (gi h 23 0) (i - 12).toNat)) ((dn (i - 12).toNat (by omega))) ?_
        refine x_bipush 79 hK rfl rfl rfl ?_
        refine x_iadd 80 hK rfl rfl ?_
        refine x_iastore 81 hK rfl rfl (sp_128 (h := h4) hG4) (by omega) (by omega) (by omega) ?_
        refine x_iinc 84 hK rfl rfl l1 _ rfl ?_
        refine x_goto 27 hK rfl rfl ?_
        have dn2 : ∀ j : Nat, (j : Int) < i + 1 → gi (wI h4 128 i.toNat ((dnF h (gi h 23 0) (i - 12).toNat) + 12)) 128 j = dnF h (gi h 23 0) j := fun j hj => by
          by_cases q : j = i.toNat
          · rw [q]
            refine (gi_same (by omega)).trans ?_
            rw [show i.toNat = (i - 12).toNat + 12 by omega, dnF_12]
          · exact ((gi_k (by omega) _)).trans (dn j (by omega))
        exact ih _ (by omega) (i + 1) _ _ rfl (by omega) (dn2) (lk1_n l0 (by decide) (Or.inl rfl)) lk1_s (GD_wn (hG4) (r := 42) rfl rfl) (FRM_wn 0 29 (hF4) (r := 42) rfl rfl rfl (by omega) (by omega))
      · refine x_iload_n 48 hK rfl rfl l1 ?_
        refine x_aload_n 49 hK rfl rfl l0 ?_
        refine x_aload_n 50 hK rfl rfl l0 ?_
        refine x_getR 53 hK rfl rfl (sp_0 (h := h4) hG4) (rf_0_10 (h := h4) hG4) ?_
        have g584 := gi_r h 23 0
        refine x_getE 56 hK rfl (Or.inl rfl) rfl (sp_23 (h := h4) hG4) (e := (gi h 23 0)) (n4) ?_
        refine x_iload_n 57 hK rfl rfl l1 ?_
        refine x_iadd 58 hK rfl rfl ?_
        refine x_callV 61 hK hmono rfl rfl [.ref 0, .int (I ((gi h 23 0) + i))] [.int (I i), .int (I i), .ref 128] rfl rfl (Nat.le_of_ble_eq_true rfl) (Nat.le_of_ble_eq_true rfl) rfl (sp_0 (h := h4) hG4) (CLd_le (Nat.le_of_ble_eq_true rfl) (ctX10_delayA hSP hG4 (show PT h4 from PT_F hF4 (by decide) hP) (show XI h4 from (xOk_ok rfl _ h4 hF4 hX)) hD4 (t := ((gi h 23 0) + i)) (by omega))) ?_
        rw [dl4]
        rintro v585 h585 ⟨rfl, hG585, hF585⟩
        have db := dlA_b h ((gi h 23 0) + i)
        refine x_iadd 62 hK rfl rfl ?_
        refine x_goto 80 hK rfl rfl ?_
        refine x_iastore 81 hK rfl rfl (sp_128 (h := h585) hG585) (by omega) (by omega) (by omega) ?_
        refine x_iinc 84 hK rfl rfl l1 _ rfl ?_
        refine x_goto 27 hK rfl rfl ?_
        have dn2 : ∀ j : Nat, (j : Int) < i + 1 → gi (wI h585 128 i.toNat (i + (dlA h ((gi h 23 0) + i)))) 128 j = dnF h (gi h 23 0) j := fun j hj => by
          by_cases q : j = i.toNat
          · rw [q]
            refine (gi_same (by omega)).trans ?_
            unfold dnF
            rw [show ((i.toNat : Nat) : Int) = i by omega]
          · exact ((gi_k (by omega) _).trans (FRM_gi hF585 (r := 42) rfl rfl)).trans (dn j (by omega))
        exact ih _ (by omega) (i + 1) _ _ rfl (by omega) (dn2) (lk1_n l0 (by decide) (Or.inl rfl)) lk1_s (GD_wn (hG585) (r := 42) rfl rfl) (FRM_wn 0 29 ((hF4).trans ((hF585).mono rfl)) (r := 42) rfl rfl rfl (by omega) (by omega))
  refine x_aload_n 1 hK rfl rfl rfl ?_
  refine x_getR 4 hK rfl rfl (sp_0 (h := h) hG) (rf_0_13 (h := h) hG) ?_
  refine x_aload_n 5 hK rfl rfl rfl ?_
  refine x_getR 8 hK rfl rfl (sp_0 (h := h) hG) (pS) ?_
  have g586 := gi_r h s 2
  refine x_getE 11 hK rfl (Or.inl rfl) rfl (shx (h := h) hG (r := 5) (ss_r h5).1 rfl) (e := (gi h s 2)) (rfl) ?_
  refine x_iconst 12 hK rfl rfl ?_
  refine x_irem 13 hK rfl rfl (gi_r _ _ _) (by omega) (by omega) (by omega) ?_
  rw [c2]
  generalize (gi h 171 5).tmod 2 = t at *
  refine x_iconst 14 hK rfl rfl ?_
  refine x_if_icmp_ne 21 17 hK rfl rfl rfl (by omega) (by omega) (fun c9 => ?_) (fun c9 => ?_)
  · refine x_iconst 22 hK rfl rfl ?_
    refine x_putZ 25 hK rfl rfl (sp_127 (h := h) hG) (by omega) ?_
    refine x_iconst 26 hK rfl rfl ?_
    refine x_istore_n 27 hK rfl rfl [(1, .int (I 0)), (0, .ref 0)] rfl ?_
    exact done _ 0 _ _ rfl (by omega) (fun j hj => absurd hj (by omega)) rfl rfl (GD_w1 (hG) (r := 41) rfl (by omega) rfl (by omega) (by omega)) (FRM_w ((FRM.rf : FRM gRL [(0, 8, 3, 3), (0, 10, 0, 39), (0, 41, 5, 5), (0, 42, 0, 29), (0, 43, 0, 30)] h h)) (r := 41) rfl rfl)
  · refine x_iconst 18 hK rfl rfl ?_
    refine x_goto 22 hK rfl rfl ?_
    refine x_putZ 25 hK rfl rfl (sp_127 (h := h) hG) (by omega) ?_
    refine x_iconst 26 hK rfl rfl ?_
    refine x_istore_n 27 hK rfl rfl [(1, .int (I 0)), (0, .ref 0)] rfl ?_
    exact done _ 0 _ _ rfl (by omega) (fun j hj => absurd hj (by omega)) rfl rfl (GD_w1 (hG) (r := 41) rfl (by omega) rfl (by omega) (by omega)) (FRM_w ((FRM.rf : FRM gRL [(0, 8, 3, 3), (0, 10, 0, 39), (0, 41, 5, 5), (0, 42, 0, 29), (0, 43, 0, 30)] h h)) (r := 41) rfl rfl)
set_option maxRecDepth 4000 in
theorem ctX0_isOvertakenF {SP : CT} (hSP : MONO SP) {sh : List (Nat × Nat)} {h : aH} (hG : GD gE gRL sh h) {f : Nat → Int} (hf : ∀ j : Nat, j < 30 → gi h 128 j = f j) {k n : Int} (hk : 0 ≤ k ∧ k < n) (hn : n ≤ 30) : CLd SP 1 mX0_isOvertaken [.ref 127, .int (I k), .int (I n)] h 0 0 (fun rv h' => h' = h ∧ rv = some (.int (I (b2i (ovF f (f k.toNat) (k + 1) (n - (k + 1)).toNat))))) := by
  refine x_met _ rfl (Nat.le_of_ble_eq_true rfl) (fun K hK => ?_)
  have hmono := MONO_CLd hSP 0
  have gf : ∀ j : Nat, j < 30 → r32 (f j) := fun j hj => by rw [← hf j hj]; exact gi_r _ _ _
  have gk := gf k.toNat (by omega)
  have loop : ∀ (mz : Nat) (i : Int) (ls : List (Nat × Value)), ((n - i).toNat = mz) → (k + 1 ≤ i ∧ i ≤ n) → (ovF f (f k.toNat) (k + 1) (i - (k + 1)).toNat = false) → lk ls 0 = some (.ref 127) → lk ls 1 = some (.int (I k)) → lk ls 2 = some (.int (I n)) → lk ls 3 = some (.int (I i)) → K 4 ls [] h 0 0 := by
    intro mz
    induction mz using Nat.strongRecOn with
    | ind mz ih =>
    intro i ls hm i0 no l0 l1 l2 l3
    have gi_ := fun z : i < n => gf i.toNat (by omega)
    refine x_iload_n 5 hK rfl rfl l3 ?_
    refine x_iload_n 6 hK rfl rfl l2 ?_
    refine x_if_icmp_ge 32 9 hK rfl rfl rfl (by omega) (by omega) (fun c3 => ?_) (fun c3 => ?_)
    · refine x_iconst 33 hK rfl rfl ?_
      rw [show (i - (k + 1)).toNat = (n - (k + 1)).toNat by omega] at no
      exact x_zret hK rfl (by omega) ⟨rfl, by rw [no]; rfl⟩
    · have gi2 := gi_ (by omega)
      refine x_aload_n 10 hK rfl rfl l0 ?_
      refine x_getR 13 hK rfl rfl (sp_127 (h := h) hG) (rf_127_0 (h := h) hG) ?_
      refine x_iload_n 14 hK rfl rfl l3 ?_
      refine x_ialoadE 15 hK rfl rfl (sp_128 (h := h) hG) (by omega) (by omega) (by omega) (e' := (f i.toNat)) ((hf i.toNat (by omega))) ?_
      refine x_aload_n 16 hK rfl rfl l0 ?_
      refine x_getR 19 hK rfl rfl (sp_127 (h := h) hG) (rf_127_0 (h := h) hG) ?_
      refine x_iload_n 20 hK rfl rfl l1 ?_
      refine x_ialoadE 21 hK rfl rfl (sp_128 (h := h) hG) (by omega) (by omega) (by omega) (e' := (f k.toNat)) ((hf k.toNat (by omega))) ?_
      refine x_if_icmp_ge 26 24 hK rfl rfl rfl (by omega) (by omega) (fun c15 => ?_) (fun c15 => ?_)
      · refine x_iinc 29 hK rfl rfl l3 _ rfl ?_
        refine x_goto 4 hK rfl rfl ?_
        exact ih _ (by omega) (i + 1) _ rfl (by omega) (by rw [ovF_s i0.1, no, decide_eq_false (show ¬ f i.toNat < (f k.toNat) by omega)]; rfl) (lk1_n l0 (by decide) (Or.inl rfl)) (lk1_n l1 (by decide) (Or.inl rfl)) (lk1_n l2 (by decide) (Or.inl rfl)) lk1_s
      · refine x_iconst 25 hK rfl rfl ?_
        have yes : ovF f (f k.toNat) (k + 1) (n - (k + 1)).toNat = true := ovF_t (n := (i + 1 - (k + 1)).toNat) (by omega) (by rw [ovF_s i0.1, decide_eq_true (show f i.toNat < (f k.toNat) by omega), Bool.or_true])
        exact x_zret hK rfl (by omega) ⟨rfl, by rw [yes]; rfl⟩
  refine x_iload_n 1 hK rfl rfl rfl ?_
  refine x_iconst 2 hK rfl rfl ?_
  refine x_iadd 3 hK rfl rfl ?_
  refine x_istore_n 4 hK rfl rfl [(3, .int (I (k + 1))), (0, .ref 127), (1, .int (I k)), (2, .int (I n))] rfl ?_
  exact loop _ (k + 1) _ rfl (by omega) (by rw [show k + 1 - (k + 1) = 0 by omega]; rfl) rfl rfl rfl rfl
set_option maxRecDepth 4000 in
theorem ctX10_lateF {SP : CT} (hSP : MONO SP) {sh : List (Nat × Nat)} {h : aH} (hG : GD gE gRL sh h) {s u : Nat} (hP : PT h) (hX : XI h) (hD : DR h s u) (h0 : 0 ≤ (gi h 23 0) ∧ (gi h 23 0) ≤ 1000000) (hml : ∀ j : Nat, (j : Int) < gi h 19 0 → 0 ≤ gi h 20 j ∧ gi h 20 j ≤ 999) {n : Int} (rn : r32 n) : CLd SP 9 mX10_late [.ref 0, .int (I n)] h 0 0 (fun rv h' => ((¬ (1 ≤ n ∧ n ≤ 30) ∧ rv = some (.int (I (-1))) ∧ h' = h) ∨ ((1 ≤ n ∧ n ≤ 30) ∧ rv = some (.int (I (ltF (dnF h (gi h 23 0)) n n.toNat))) ∧ gi h' 3 1 = n ∧ crow h' = (List.range n.toNat).map (dnF h (gi h 23 0)))) ∧ GD gE gRL sh h' ∧ FRM gRL [(0, 3, 1, 1), (0, 8, 3, 3), (0, 10, 0, 39), (0, 41, 5, 5), (0, 42, 0, 29), (0, 43, 0, 30), (1, 4, 0, 29)] h h') := by
  refine x_met _ rfl (Nat.le_of_ble_eq_true rfl) (fun K hK => ?_)
  have hmono := MONO_CLd hSP 8
  have loop : ∀ (mz : Nat) (c i : Int) (h4 : aH) (ls : List (Nat × Value)), ((n - i).toNat = mz) → (1 ≤ n ∧ n ≤ 30) → (0 ≤ i ∧ i ≤ n) → (c = ltF (dnF h (gi h 23 0)) n i.toNat) → (∀ j : Nat, j < 30 → gi h4 128 j = (dnF h (gi h 23 0)) j) → (gi h4 3 1 = i) → (crow h4 = (List.range i.toNat).map (dnF h (gi h 23 0))) → lk ls 0 = some (.ref 0) → lk ls 1 = some (.int (I n)) → lk ls 2 = some (.int (I c)) → lk ls 3 = some (.int (I i)) → GD gE gRL sh h4 → FRM gRL [(0, 3, 1, 1), (0, 8, 3, 3), (0, 10, 0, 39), (0, 41, 5, 5), (0, 42, 0, 29), (0, 43, 0, 30), (1, 4, 0, 29)] h h4 → K 28 ls [] h4 0 0 := by
    intro mz
    induction mz using Nat.strongRecOn with
    | ind mz ih =>
    intro c i h4 ls hm n0 i0 c0 dn r1 rw4 l0 l1 l2 l3 hG4 hF4
    have cb := ltF_b (dnF h (gi h 23 0)) n i.toNat
    have fb := dnF_b h (gi h 23 0) i.toNat
    refine x_iload_n 29 hK rfl rfl l3 ?_
    refine x_iload_n 30 hK rfl rfl l1 ?_
    refine x_if_icmp_ge 76 33 hK rfl rfl rfl (by omega) (by omega) (fun c3 => ?_) (fun c3 => ?_)
    · refine x_iload_n 77 hK rfl rfl l2 ?_
      obtain rfl : i = n := by omega
      exact x_iret hK rfl ⟨Or.inr ⟨n0, by rw [c0], r1, rw4⟩, hG4, hF4⟩
    · refine x_aload_n 34 hK rfl rfl l0 ?_
      refine x_getR 37 hK rfl rfl (sp_0 (h := h4) hG4) (rf_0_1 (h := h4) hG4) ?_
      refine x_aload_n 38 hK rfl rfl l0 ?_
      refine x_getR 41 hK rfl rfl (sp_0 (h := h4) hG4) (rf_0_13 (h := h4) hG4) ?_
      refine x_getR 44 hK rfl rfl (sp_127 (h := h4) hG4) (rf_127_0 (h := h4) hG4) ?_
      refine x_iload_n 45 hK rfl rfl l3 ?_
      refine x_ialoadE 46 hK rfl rfl (sp_128 (h := h4) hG4) (by omega) (by omega) (by omega) (e' := ((dnF h (gi h 23 0)) i.toNat)) ((dn i.toNat (by omega))) ?_
      refine x_i2l 47 hK rfl rfl (by omega) ?_
      have z588 : gi h4 3 1 = i := r1
      have z588r : crow h4 = ((List.range i.toNat).map (dnF h (gi h 23 0))) := rw4
      refine x_callV 50 hK hmono rfl rfl [.ref 3, .long (J ((dnF h (gi h 23 0)) i.toNat))] [] rfl rfl (Nat.le_of_ble_eq_true rfl) (Nat.le_of_ble_eq_true rfl) rfl (sp_3 (h := h4) hG4) (CLd_le (Nat.le_of_ble_eq_true rfl) (ctX3_add hSP hG4 (by omega) (by omega))) ?_
      rintro v587 h587 ⟨rfl, hG587, hF587, t587, s587⟩
      rw [z588] at t587
      rw [z588r] at s587
      refine x_iload_n 51 hK rfl rfl l2 ?_
      refine x_aload_n 52 hK rfl rfl l0 ?_
      refine x_getR 55 hK rfl rfl (sp_0 (h := h587) hG587) (rf_0_13 (h := h587) hG587) ?_
      refine x_iload_n 56 hK rfl rfl l3 ?_
      refine x_iload_n 57 hK rfl rfl l1 ?_
      refine x_callV 60 hK hmono rfl rfl [.ref 127, .int (I i), .int (I n)] [.int (I c)] rfl rfl (Nat.le_of_ble_eq_true rfl) (Nat.le_of_ble_eq_true rfl) rfl (sp_127 (h := h587) hG587) (CLd_le (Nat.le_of_ble_eq_true rfl) (ctX0_isOvertakenF hSP hG587 (f := (dnF h (gi h 23 0))) (fun j hj => (FRM_gi hF587 (r := 42) rfl rfl).trans (dn j hj)) (k := i) (n := n) (by omega) (by omega))) ?_
      rintro v9 h9 ⟨e9, rfl⟩
      rw [e9]
      clear e9
      have ob := b2i_01 (ovF (dnF h (gi h 23 0)) ((dnF h (gi h 23 0)) i.toNat) (i + 1) (n - (i + 1)).toNat)
      refine x_if_eq 67 63 hK rfl rfl rfl (by omega) (fun c21 => ?_) (fun c21 => ?_)
      · refine x_iconst 68 hK rfl rfl ?_
        refine x_iadd 69 hK rfl rfl ?_
        refine x_istore_n 70 hK rfl rfl _ rfl ?_
        refine x_iinc 73 hK rfl rfl (lk1_n l3 (by decide) (Or.inl rfl)) _ rfl ?_
        refine x_goto 28 hK rfl rfl ?_
        exact ih _ (by omega) (c + 0) (i + 1) _ _ rfl (n0) (by omega) (by rw [ltF_s i0.1, c0]; omega) (fun j hj => (FRM_gi hF587 (r := 42) rfl rfl).trans (dn j hj)) (t587) (by rw [s587, tn_s i0.1, List.range_succ, List.map_append]; rfl) (lk1_n (lk1_n l0 (by decide) (Or.inl rfl)) (by decide) (Or.inl rfl)) (lk1_n (lk1_n l1 (by decide) (Or.inl rfl)) (by decide) (Or.inl rfl)) (lk1_n lk1_s (by decide) (Or.inl rfl)) lk1_s (hG587) ((hF4).trans ((hF587).mono rfl))
      · refine x_iconst 64 hK rfl rfl ?_
        refine x_goto 68 hK rfl rfl ?_
        refine x_iadd 69 hK rfl rfl ?_
        refine x_istore_n 70 hK rfl rfl _ rfl ?_
        refine x_iinc 73 hK rfl rfl (lk1_n l3 (by decide) (Or.inl rfl)) _ rfl ?_
        refine x_goto 28 hK rfl rfl ?_
        exact ih _ (by omega) (c + 1) (i + 1) _ _ rfl (n0) (by omega) (by rw [ltF_s i0.1, c0]; omega) (fun j hj => (FRM_gi hF587 (r := 42) rfl rfl).trans (dn j hj)) (t587) (by rw [s587, tn_s i0.1, List.range_succ, List.map_append]; rfl) (lk1_n (lk1_n l0 (by decide) (Or.inl rfl)) (by decide) (Or.inl rfl)) (lk1_n (lk1_n l1 (by decide) (Or.inl rfl)) (by decide) (Or.inl rfl)) (lk1_n lk1_s (by decide) (Or.inl rfl)) lk1_s (hG587) ((hF4).trans ((hF587).mono rfl))
  refine x_iload_n 1 hK rfl rfl rfl ?_
  refine x_iconst 2 hK rfl rfl ?_
  refine x_if_icmp_lt 11 5 hK rfl rfl rfl (by omega) (by omega) (fun c3 => ?_) (fun c3 => ?_)
  · refine x_iconst 12 hK rfl rfl ?_
    exact x_iret hK rfl ⟨Or.inl ⟨by omega, rfl, rfl⟩, hG, FRM.rf⟩
  · refine x_iload_n 6 hK rfl rfl rfl ?_
    refine x_bipush 8 hK rfl rfl rfl ?_
    refine x_if_icmp_le 13 11 hK rfl rfl rfl (by omega) (by omega) (fun c8 => ?_) (fun c8 => ?_)
    · refine x_aload_n 14 hK rfl rfl rfl ?_
      refine x_callV 17 hK hmono rfl rfl [.ref 0] [] rfl rfl (Nat.le_of_ble_eq_true rfl) (Nat.le_of_ble_eq_true rfl) rfl (sp_0 (h := h) hG) (CLd_le (Nat.le_of_ble_eq_true rfl) (ctX10_lookAheadF hSP hG hP hX hD h0 hml)) ?_
      rintro v590 h590 ⟨rfl, hG590, hF590, dn590⟩
      refine x_aload_n 18 hK rfl rfl rfl ?_
      refine x_getR 21 hK rfl rfl (sp_0 (h := h590) hG590) (rf_0_1 (h := h590) hG590) ?_
      refine x_callV 24 hK hmono rfl rfl [.ref 3] [] rfl rfl (Nat.le_of_ble_eq_true rfl) (Nat.le_of_ble_eq_true rfl) rfl (sp_3 (h := h590) hG590) (CLd_le (Nat.le_of_ble_eq_true rfl) (ctX3_clear hSP hG590)) ?_
      rintro v591 h591 ⟨rfl, hG591, hF591, t591, s591⟩
      refine x_iconst 25 hK rfl rfl ?_
      refine x_istore_n 26 hK rfl rfl [(2, .int (I 0)), (0, .ref 0), (1, .int (I n))] rfl ?_
      refine x_iconst 27 hK rfl rfl ?_
      refine x_istore_n 28 hK rfl rfl [(3, .int (I 0)), (2, .int (I 0)), (0, .ref 0), (1, .int (I n))] rfl ?_
      exact loop _ 0 0 _ _ rfl (⟨by omega, by omega⟩) (by omega) (rfl) (fun j hj => (FRM_gi hF591 (r := 42) rfl rfl).trans (dn590 j hj)) (t591) (s591) rfl rfl rfl rfl (hG591) (((hF590).mono rfl).trans ((hF591).mono rfl))
    · refine x_iconst 12 hK rfl rfl ?_
      exact x_iret hK rfl ⟨Or.inl ⟨by omega, rfl, rfl⟩, hG, FRM.rf⟩
set_option maxRecDepth 4000 in
theorem ctX11_lateF {SP : CT} (hSP : MONO SP) {sh : List (Nat × Nat)} {h : aH} (hG : GD gE gRL sh h) (hX : XI h) {n : Int} (h0 : 0 ≤ gi h 178 0 ∧ gi h 178 0 ≤ 1000000) (rn : r32 n) : CLd SP 9 mX11_late [.ref 171, .int (I n)] h 0 0 (fun rv h' => ((¬ (1 ≤ n ∧ n ≤ 30) ∧ rv = some (.int (I (-1))) ∧ mrow h' = mrow h ∧ gi h' 171 1 = gi h 171 1) ∨ ((1 ≤ n ∧ n ≤ 30) ∧ rv = some (.int (I (ltF (dnF h (gi h 178 0)) n n.toNat))) ∧ mrow h' = (List.range n.toNat).map (dnF h (gi h 178 0)))) ∧ GD gE gRL sh h' ∧ FRM gRL [(0, 54, 0, 0), (0, 54, 1, 1), (0, 67, 0, 79), (0, 68, 0, 3), (1, 55, 0, 39)] h h') := by
  refine x_met _ rfl (Nat.le_of_ble_eq_true rfl) (fun K hK => ?_)
  have hmono := MONO_CLd hSP 8
  have loop : ∀ (mz : Nat) (c i : Int) (h4 : aH) (ls : List (Nat × Value)), ((n - i).toNat = mz) → (1 ≤ n ∧ n ≤ 30) → (0 ≤ i ∧ i ≤ n) → (c = ltF (dnF h (gi h 178 0)) n i.toNat) → (gi h4 171 1 = i) → (mrow h4 = (List.range i.toNat).map (dnF h (gi h 178 0))) → lk ls 0 = some (.ref 171) → lk ls 1 = some (.int (I n)) → lk ls 2 = some (.int (I c)) → lk ls 3 = some (.int (I i)) → GD gE gRL sh h4 → FRM gRL [(0, 54, 0, 0), (0, 54, 1, 1), (0, 67, 0, 79), (0, 68, 0, 3), (1, 55, 0, 39)] h h4 → K 28 ls [] h4 0 0 := by
    intro mz
    induction mz using Nat.strongRecOn with
    | ind mz ih =>
    intro c i h4 ls hm n0 i0 c0 r1 rw4 l0 l1 l2 l3 hG4 hF4
    have cb := ltF_b (dnF h (gi h 178 0)) n i.toNat
    have fb := dnF_b h (gi h 178 0) i.toNat
    have iho := ih
    have n4 : gi h4 178 0 = (gi h 178 0) := FRM_gi hF4 (r := 61) rfl rfl
    have inner : ∀ (mz : Nat) (v q j : Int) (h5 : aH) (ls : List (Nat × Value)), ((n - j).toNat = mz) → (v = (dnF h (gi h 178 0)) i.toNat) → (i < n) → (q = b2i (ovF (dnF h (gi h 178 0)) v (i + 1) (j - (i + 1)).toNat)) → (0 ≤ q ∧ q ≤ 1) → (i + 1 ≤ j ∧ j ≤ n) → (gi h5 171 1 = i) → (mrow h5 = (List.range i.toNat).map (dnF h (gi h 178 0))) → lk ls 0 = some (.ref 171) → lk ls 1 = some (.int (I n)) → lk ls 2 = some (.int (I c)) → lk ls 3 = some (.int (I i)) → lk ls 4 = some (.int (I v)) → lk ls 5 = some (.int (I q)) → lk ls 6 = some (.int (I j)) → GD gE gRL sh h5 → FRM gRL [(0, 54, 0, 0), (0, 54, 1, 1), (0, 67, 0, 79), (0, 68, 0, 3), (1, 55, 0, 39)] h h5 → K 57 ls [] h5 0 0 := by
      intro mz
      induction mz using Nat.strongRecOn with
      | ind mz ih =>
      intro v q j h5 ls hm v0 li q0 q1 j0 r15 rw5 l0 l1 l2 l3 l4 l5 l6 hG5 hF5
      have n5 : gi h5 178 0 = (gi h 178 0) := FRM_gi hF5 (r := 61) rfl rfl
      have fj := dnF_b h (gi h 178 0) j.toNat
      have ej : (dnF h (gi h 178 0)) j.toNat = j + dlA h ((gi h 178 0) + j) := by unfold dnF; rw [show ((j.toNat : Nat) : Int) = j by omega]
      refine x_iload 59 hK rfl rfl l6 ?_
      refine x_iload_n 60 hK rfl rfl l1 ?_
      refine x_if_icmp_ge 102 63 hK rfl rfl rfl (by omega) (by omega) (fun c3 => ?_) (fun c3 => ?_)
      · refine x_iload_n 103 hK rfl rfl l2 ?_
        refine x_iload 105 hK rfl rfl l5 ?_
        refine x_callS 108 hK hmono rfl (Or.inl rfl) rfl [.int (I q)] [.int (I c)] rfl rfl (Nat.le_of_ble_eq_true rfl) (Nat.le_of_ble_eq_true rfl) (CLd_le (Nat.le_of_ble_eq_true rfl) (ctX11_flag (by omega))) ?_
        rintro v9 h9 ⟨e9, rfl⟩
        rw [e9]
        clear e9
        refine x_iadd 109 hK rfl rfl ?_
        refine x_istore_n 110 hK rfl rfl _ rfl ?_
        refine x_aload_n 111 hK rfl rfl (lk1_n l0 (by decide) (Or.inl rfl)) ?_
        refine x_iload 113 hK rfl rfl (lk1_n l4 (by decide) (Or.inl rfl)) ?_
        refine x_i2l 114 hK rfl rfl (by omega) ?_
        have z594 : gi h5 171 1 = i := r15
        have z594r : mrow h5 = ((List.range i.toNat).map (dnF h (gi h 178 0))) := rw5
        refine x_callV 117 hK hmono rfl rfl [.ref 171, .long (J v)] [] rfl rfl (Nat.le_of_ble_eq_true rfl) (Nat.le_of_ble_eq_true rfl) rfl (sp_171 (h := h5) hG5) (CLd_le (Nat.le_of_ble_eq_true rfl) (ctX11_entersF hSP hG5 (by omega) (by omega))) ?_
        rintro v593 h593 ⟨rfl, hG593, hF593, t593, s593⟩
        rw [z594] at t593
        rw [z594r] at s593
        refine x_iinc 120 hK rfl rfl (lk1_n l3 (by decide) (Or.inl rfl)) _ rfl ?_
        refine x_goto 28 hK rfl rfl ?_
        exact iho _ (by omega) (c + q) (i + 1) _ _ rfl (n0) (by omega) (by rw [ltF_s i0.1, c0, q0, show j = n by omega, v0]) (t593) (by rw [s593, tn_s i0.1, List.range_succ, List.map_append, v0]; rfl) (lk1_n (lk1_n l0 (by decide) (Or.inl rfl)) (by decide) (Or.inl rfl)) (lk1_n (lk1_n l1 (by decide) (Or.inl rfl)) (by decide) (Or.inl rfl)) (lk1_n lk1_s (by decide) (Or.inl rfl)) lk1_s (hG593) ((hF5).trans ((hF593).mono rfl))
      · refine x_iload 65 hK rfl rfl l5 ?_
        refine x_if_ne 89 68 hK rfl rfl rfl (by omega) (fun c17 => ?_) (fun c17 => ?_)
        · refine x_iconst 90 hK rfl rfl ?_
          refine x_goto 94 hK rfl rfl ?_
          refine x_istore 96 hK rfl rfl _ rfl ?_
          refine x_iinc 99 hK rfl rfl (lk1_n l6 (by decide) (Or.inl rfl)) _ rfl ?_
          refine x_goto 57 hK rfl rfl ?_
          have os : (ovF (dnF h (gi h 178 0)) v (i + 1) (j + 1 - (i + 1)).toNat) = ((ovF (dnF h (gi h 178 0)) v (i + 1) (j - (i + 1)).toNat) || decide ((dnF h (gi h 178 0)) j.toNat < v)) := ovF_s j0.1
          have o1 : (ovF (dnF h (gi h 178 0)) v (i + 1) (j - (i + 1)).toNat) = true := by
            cases hc : (ovF (dnF h (gi h 178 0)) v (i + 1) (j - (i + 1)).toNat) with
            | true => rfl
            | false => rw [hc] at q0; have q0 : q = 0 := q0; omega
          have qn : (1 : Int) = b2i (ovF (dnF h (gi h 178 0)) v (i + 1) (j + 1 - (i + 1)).toNat) := by rw [os, o1, Bool.true_or]; rfl
          exact ih _ (by omega) v 1 (j + 1) _ _ rfl (v0) (li) (qn) (by omega) (by omega) (r15) (rw5) (lk1_n (lk1_n l0 (by decide) (Or.inl rfl)) (by decide) (Or.inl rfl)) (lk1_n (lk1_n l1 (by decide) (Or.inl rfl)) (by decide) (Or.inl rfl)) (lk1_n (lk1_n l2 (by decide) (Or.inl rfl)) (by decide) (Or.inl rfl)) (lk1_n (lk1_n l3 (by decide) (Or.inl rfl)) (by decide) (Or.inl rfl)) (lk1_n (lk1_n l4 (by decide) (Or.inl rfl)) (by decide) (Or.inl rfl)) (lk1_n lk1_s (by decide) (Or.inl rfl)) lk1_s (hG5) (hF5)
        · refine x_iload 70 hK rfl rfl l6 ?_
          refine x_aload_n 71 hK rfl rfl l0 ?_
          refine x_aload_n 72 hK rfl rfl l0 ?_
          refine x_getR 75 hK rfl rfl (sp_171 (h := h5) hG5) (rf_171_14 (h := h5) hG5) ?_
          refine x_iconst 76 hK rfl rfl ?_
          have g595 := gi_r h 178 0
          refine x_ialoadE 77 hK rfl rfl (sp_178 (h := h5) hG5) (by omega) (by omega) (by omega) (e' := (gi h 178 0)) (n5) ?_
          refine x_iload 79 hK rfl rfl l6 ?_
          refine x_iadd 80 hK rfl rfl ?_
          have fq596 : FRM gRL [(0, 54, 0, 0), (0, 54, 1, 1), (0, 67, 0, 79), (0, 68, 0, 3), (1, 55, 0, 39)] h h5 := hF5
          have hXp596 : XI h5 := xOk_ok rfl h h5 fq596 hX
          have ed596 : dlA h5 ((gi h 178 0) + j) = dlA h ((gi h 178 0) + j) := dlA_F fq596 rfl _
          refine x_callV 83 hK hmono rfl rfl [.ref 171, .int (I ((gi h 178 0) + j))] [.int (I j)] rfl rfl (Nat.le_of_ble_eq_true rfl) (Nat.le_of_ble_eq_true rfl) rfl (sp_171 (h := h5) hG5) (CLd_le (Nat.le_of_ble_eq_true rfl) (ctX11_delayAtF hSP hG5 hXp596 (t := ((gi h 178 0) + j)) (by omega))) ?_
          rw [ed596]
          rintro v596 h596 ⟨rfl, hG596, hF596⟩
          have db596 := dlA_b h ((gi h 178 0) + j)
          refine x_iadd 84 hK rfl rfl ?_
          refine x_iload 86 hK rfl rfl l4 ?_
          refine x_if_icmp_ge 93 89 hK rfl rfl rfl (by omega) (by omega) (fun c35 => ?_) (fun c35 => ?_)
          · refine x_iconst 94 hK rfl rfl ?_
            refine x_istore 96 hK rfl rfl _ rfl ?_
            refine x_iinc 99 hK rfl rfl (lk1_n l6 (by decide) (Or.inl rfl)) _ rfl ?_
            refine x_goto 57 hK rfl rfl ?_
            have os : (ovF (dnF h (gi h 178 0)) v (i + 1) (j + 1 - (i + 1)).toNat) = ((ovF (dnF h (gi h 178 0)) v (i + 1) (j - (i + 1)).toNat) || decide ((dnF h (gi h 178 0)) j.toNat < v)) := ovF_s j0.1
            have o0 : (ovF (dnF h (gi h 178 0)) v (i + 1) (j - (i + 1)).toNat) = false := by
              cases hc : (ovF (dnF h (gi h 178 0)) v (i + 1) (j - (i + 1)).toNat) with
              | true => rw [hc] at q0; have q0 : q = 1 := q0; omega
              | false => rfl
            have qn : (0 : Int) = b2i (ovF (dnF h (gi h 178 0)) v (i + 1) (j + 1 - (i + 1)).toNat) := by rw [os, o0, Bool.false_or, decide_eq_false (by omega)]; rfl
            exact ih _ (by omega) v 0 (j + 1) _ _ rfl (v0) (li) (qn) (by omega) (by omega) ((FRM_gi hF596 (r := 54) rfl rfl).trans (r15)) ((mrow_F hF596 rfl rfl).trans (rw5)) (lk1_n (lk1_n l0 (by decide) (Or.inl rfl)) (by decide) (Or.inl rfl)) (lk1_n (lk1_n l1 (by decide) (Or.inl rfl)) (by decide) (Or.inl rfl)) (lk1_n (lk1_n l2 (by decide) (Or.inl rfl)) (by decide) (Or.inl rfl)) (lk1_n (lk1_n l3 (by decide) (Or.inl rfl)) (by decide) (Or.inl rfl)) (lk1_n (lk1_n l4 (by decide) (Or.inl rfl)) (by decide) (Or.inl rfl)) (lk1_n lk1_s (by decide) (Or.inl rfl)) lk1_s (hG596) ((hF5).trans ((hF596).mono rfl))
          · refine x_iconst 90 hK rfl rfl ?_
            refine x_goto 94 hK rfl rfl ?_
            refine x_istore 96 hK rfl rfl _ rfl ?_
            refine x_iinc 99 hK rfl rfl (lk1_n l6 (by decide) (Or.inl rfl)) _ rfl ?_
            refine x_goto 57 hK rfl rfl ?_
            have os : (ovF (dnF h (gi h 178 0)) v (i + 1) (j + 1 - (i + 1)).toNat) = ((ovF (dnF h (gi h 178 0)) v (i + 1) (j - (i + 1)).toNat) || decide ((dnF h (gi h 178 0)) j.toNat < v)) := ovF_s j0.1
            have o0 : (ovF (dnF h (gi h 178 0)) v (i + 1) (j - (i + 1)).toNat) = false := by
              cases hc : (ovF (dnF h (gi h 178 0)) v (i + 1) (j - (i + 1)).toNat) with
              | true => rw [hc] at q0; have q0 : q = 1 := q0; omega
              | false => rfl
            have qn : (1 : Int) = b2i (ovF (dnF h (gi h 178 0)) v (i + 1) (j + 1 - (i + 1)).toNat) := by rw [os, o0, Bool.false_or, decide_eq_true (by omega)]; rfl
            exact ih _ (by omega) v 1 (j + 1) _ _ rfl (v0) (li) (qn) (by omega) (by omega) ((FRM_gi hF596 (r := 54) rfl rfl).trans (r15)) ((mrow_F hF596 rfl rfl).trans (rw5)) (lk1_n (lk1_n l0 (by decide) (Or.inl rfl)) (by decide) (Or.inl rfl)) (lk1_n (lk1_n l1 (by decide) (Or.inl rfl)) (by decide) (Or.inl rfl)) (lk1_n (lk1_n l2 (by decide) (Or.inl rfl)) (by decide) (Or.inl rfl)) (lk1_n (lk1_n l3 (by decide) (Or.inl rfl)) (by decide) (Or.inl rfl)) (lk1_n (lk1_n l4 (by decide) (Or.inl rfl)) (by decide) (Or.inl rfl)) (lk1_n lk1_s (by decide) (Or.inl rfl)) lk1_s (hG596) ((hF5).trans ((hF596).mono rfl))
    refine x_iload_n 29 hK rfl rfl l3 ?_
    refine x_iload_n 30 hK rfl rfl l1 ?_
    refine x_if_icmp_ge 123 33 hK rfl rfl rfl (by omega) (by omega) (fun c3 => ?_) (fun c3 => ?_)
    · refine x_iload_n 124 hK rfl rfl l2 ?_
      obtain rfl : i = n := by omega
      exact x_iret hK rfl ⟨Or.inr ⟨n0, by rw [c0], rw4⟩, hG4, hF4⟩
    · refine x_iload_n 34 hK rfl rfl l3 ?_
      refine x_aload_n 35 hK rfl rfl l0 ?_
      refine x_aload_n 36 hK rfl rfl l0 ?_
      refine x_getR 39 hK rfl rfl (sp_171 (h := h4) hG4) (rf_171_14 (h := h4) hG4) ?_
      refine x_iconst 40 hK rfl rfl ?_
      have g597 := gi_r h 178 0
      refine x_ialoadE 41 hK rfl rfl (sp_178 (h := h4) hG4) (by omega) (by omega) (by omega) (e' := (gi h 178 0)) (n4) ?_
      refine x_iload_n 42 hK rfl rfl l3 ?_
      refine x_iadd 43 hK rfl rfl ?_
      have fq598 : FRM gRL [(0, 54, 0, 0), (0, 54, 1, 1), (0, 67, 0, 79), (0, 68, 0, 3), (1, 55, 0, 39)] h h4 := hF4
      have hXp598 : XI h4 := xOk_ok rfl h h4 fq598 hX
      have ed598 : dlA h4 ((gi h 178 0) + i) = dlA h ((gi h 178 0) + i) := dlA_F fq598 rfl _
      refine x_callV 46 hK hmono rfl rfl [.ref 171, .int (I ((gi h 178 0) + i))] [.int (I i)] rfl rfl (Nat.le_of_ble_eq_true rfl) (Nat.le_of_ble_eq_true rfl) rfl (sp_171 (h := h4) hG4) (CLd_le (Nat.le_of_ble_eq_true rfl) (ctX11_delayAtF hSP hG4 hXp598 (t := ((gi h 178 0) + i)) (by omega))) ?_
      rw [ed598]
      rintro v598 h598 ⟨rfl, hG598, hF598⟩
      have db598 := dlA_b h ((gi h 178 0) + i)
      refine x_iadd 47 hK rfl rfl ?_
      refine x_istore 49 hK rfl rfl _ rfl ?_
      refine x_iconst 50 hK rfl rfl ?_
      refine x_istore 52 hK rfl rfl _ rfl ?_
      refine x_iload_n 53 hK rfl rfl (lk1_n (lk1_n l3 (by decide) (Or.inl rfl)) (by decide) (Or.inl rfl)) ?_
      refine x_iconst 54 hK rfl rfl ?_
      refine x_iadd 55 hK rfl rfl ?_
      refine x_istore 57 hK rfl rfl _ rfl ?_
      exact inner _ (i + (dlA h ((gi h 178 0) + i))) 0 (i + 1) _ _ rfl (by unfold dnF; rw [show ((i.toNat : Nat) : Int) = i by omega]) (by omega) (by rw [show i + 1 - (i + 1) = 0 by omega]; rfl) (by omega) (by omega) ((FRM_gi hF598 (r := 54) rfl rfl).trans (r1)) ((mrow_F hF598 rfl rfl).trans (rw4)) (lk1_n (lk1_n (lk1_n l0 (by decide) (Or.inl rfl)) (by decide) (Or.inl rfl)) (by decide) (Or.inl rfl)) (lk1_n (lk1_n (lk1_n l1 (by decide) (Or.inl rfl)) (by decide) (Or.inl rfl)) (by decide) (Or.inl rfl)) (lk1_n (lk1_n (lk1_n l2 (by decide) (Or.inl rfl)) (by decide) (Or.inl rfl)) (by decide) (Or.inl rfl)) (lk1_n (lk1_n (lk1_n l3 (by decide) (Or.inl rfl)) (by decide) (Or.inl rfl)) (by decide) (Or.inl rfl)) (lk1_n (lk1_n lk1_s (by decide) (Or.inl rfl)) (by decide) (Or.inl rfl)) (lk1_n lk1_s (by decide) (Or.inl rfl)) lk1_s (hG598) ((hF4).trans ((hF598).mono rfl))
  refine x_aload_n 1 hK rfl rfl rfl ?_
  refine x_iconst 2 hK rfl rfl ?_
  refine x_putI 5 hK rfl rfl (sp_171 (h := h) hG) ?_
  refine x_iload_n 6 hK rfl rfl rfl ?_
  refine x_i2l 7 hK rfl rfl (by omega) ?_
  refine x_lconstE 8 1 hK rfl rfl rfl ?_
  refine x_ldc2_w 11 hK rfl rfl ?_
  have hGp599 : GD gE gRL sh (wI h 171 0 0) := GD_w1 (hG) (r := 54) rfl (by omega) rfl (by omega) (by omega)
  refine x_callS 14 hK hmono rfl (Or.inl rfl) rfl [.long (J n), .long (J 1), .long (J 30)] [] rfl rfl (Nat.le_of_ble_eq_true rfl) (Nat.le_of_ble_eq_true rfl) (CLd_le (Nat.le_of_ble_eq_true rfl) (ctX11_in (by omega) (by omega) (by omega))) ?_
  rintro v9 h9 ⟨e9, ⟨rfl, i1600, i2600⟩ | ⟨rfl, i1600⟩⟩ <;> rw [e9] <;> clear e9
  · refine x_if_ne 19 17 hK rfl rfl rfl (by omega) (fun _ => ?_) (fun c => by omega)
    refine x_aload_n 20 hK rfl rfl rfl ?_
    refine x_iconst 21 hK rfl rfl ?_
    refine x_putI 24 hK rfl rfl (sp_171 (h := h) hG) ?_
    refine x_iconst 25 hK rfl rfl ?_
    refine x_istore_n 26 hK rfl rfl [(2, .int (I 0)), (0, .ref 171), (1, .int (I n))] rfl ?_
    refine x_iconst 27 hK rfl rfl ?_
    refine x_istore_n 28 hK rfl rfl [(3, .int (I 0)), (2, .int (I 0)), (0, .ref 171), (1, .int (I n))] rfl ?_
    exact loop _ 0 0 _ _ rfl (⟨by omega, by omega⟩) (by omega) (rfl) (gi_same (by omega)) (mrow_0 (gi_same (by omega))) rfl rfl rfl rfl (GD_w1 (GD_w1 (hG) (r := 54) rfl (by omega) rfl (by omega) (by omega)) (r := 54) rfl (by omega) rfl (by omega) (by omega)) (FRM_w (FRM_w ((FRM.rf : FRM gRL [(0, 54, 0, 0), (0, 54, 1, 1), (0, 67, 0, 79), (0, 68, 0, 3), (1, 55, 0, 39)] h h)) (r := 54) rfl rfl) (r := 54) rfl rfl)
  · refine x_if_ne 19 17 hK rfl rfl rfl (by omega) (fun c => by omega) (fun _ => ?_)
    refine x_iconst 18 hK rfl rfl ?_
    exact x_iret hK rfl ⟨Or.inl ⟨by omega, rfl, mrow_k (by decide), gi_k (by decide) _⟩, GD_w1 (hG) (r := 54) rfl (by omega) rfl (by omega) (by omega), FRM_w ((FRM.rf : FRM gRL [(0, 54, 0, 0), (0, 54, 1, 1), (0, 67, 0, 79), (0, 68, 0, 3), (1, 55, 0, 39)] h h)) (r := 54) rfl rfl⟩
