/-! LANES THAT CAN BE REACHED -/
theorem bit_s : ∀ s : Nat, s < 512 → (∀ j : Nat, j < 9 → bitS s j = 0 ∨ bitS s j = 1) ∧ (s : Int) = bitS s 0 + 2 * bitS s 1 + 4 * bitS s 2 + 8 * bitS s 3 + 16 * bitS s 4 + 32 * bitS s 5 + 64 * bitS s 6 + 128 * bitS s 7 + 256 * bitS s 8 := by decide +kernel
theorem BS_u {s t : Int} {u : Nat → Int} (h : BS s u) (k : BS t u) : s = t := by
  have h1 := h.1
  have k1 := k.1
  obtain ⟨n, hn⟩ : ∃ n : Nat, s = n := ⟨s.toNat, by omega⟩
  obtain ⟨m, hm⟩ : ∃ m : Nat, t = m := ⟨t.toNat, by omega⟩
  have e : ∀ j : Nat, j < 9 → bitS s j = bitS t j := fun j hj => by
    have a := (bit_s n (by omega)).1 j hj
    have b := (bit_s m (by omega)).1 j hj
    have c := (h.2 j hj).trans (k.2 j hj).symm
    rw [hn, hm] at c ⊢
    omega
  have a := (bit_s n (by omega)).2
  have b := (bit_s m (by omega)).2
  rw [← hn] at a
  rw [← hm] at b
  rw [a, b, e 0 (by omega), e 1 (by omega), e 2 (by omega), e 3 (by omega), e 4 (by omega), e 5 (by omega), e 6 (by omega), e 7 (by omega), e 8 (by omega)]
noncomputable def BSi (c i : Int) (u : Nat → Int) : Prop := (0 ≤ c ∧ c ≤ 511) ∧ ∀ j : Nat, j < 9 → (bitS c j = 1 ↔ (j : Int) < i ∧ u j < 1000)
theorem BSi_0 (u : Nat → Int) : BSi 0 0 u := by
  have z : ∀ j : Nat, j < 9 → bitS 0 j ≠ 1 := by decide +kernel
  exact ⟨by omega, fun j hj => ⟨fun y => absurd y (z j hj), fun y => by have := y.1; omega⟩⟩
theorem BSi_9 {c : Int} {u : Nat → Int} (h : BSi c 9 u) : BS c u := ⟨h.1, fun j hj => (h.2 j hj).trans ⟨fun z => z.2, fun z => ⟨by omega, z⟩⟩⟩
theorem BSi_y {c i : Int} {u : Nat → Int} (h : BSi c i u) (hi : 0 ≤ i ∧ i ≤ 8) (hu : u i.toNat < 1000) : BSi (bOr c (bShl 1 i)) (i + 1) u := by
  have z : RB (bOr c (bShl 1 i)) (fun j : Nat => if (j : Int) < i + 1 ∧ u j < 1000 then 1 else 0) := by
    refine RB_or (f := fun j : Nat => if (j : Int) < i ∧ u j < 1000 then 1 else 0) ⟨h.1, fun j hj => (h.2 j hj).trans ?_⟩ hi fun j hj => ?_
    · show _ ↔ 0 < if (j : Int) < i ∧ u j < 1000 then (1 : Int) else 0
      by_cases c : (j : Int) < i ∧ u j < 1000
      · rw [if_pos c]; exact ⟨fun _ => by omega, fun _ => c⟩
      · rw [if_neg c]; exact ⟨fun y => absurd y c, fun y => by omega⟩
    · show 0 < (if (j : Int) < i + 1 ∧ u j < 1000 then (1 : Int) else 0) ↔ 0 < (if (j : Int) < i ∧ u j < 1000 then (1 : Int) else 0) ∨ (j : Int) = i
      by_cases q : (j : Int) = i
      · rw [if_pos ⟨by omega, by rw [show j = i.toNat by omega]; exact hu⟩]
        exact ⟨fun _ => Or.inr q, fun _ => by omega⟩
      · rw [show (if (j : Int) < i + 1 ∧ u j < 1000 then (1 : Int) else 0) = if (j : Int) < i ∧ u j < 1000 then 1 else 0 from if_c ⟨fun z => ⟨by omega, z.2⟩, fun z => ⟨by omega, z.2⟩⟩]
        exact ⟨Or.inl, fun z => z.resolve_right q⟩
  refine ⟨z.1, fun j hj => (z.2 j hj).trans ?_⟩
  show (0 < if (j : Int) < i + 1 ∧ u j < 1000 then (1 : Int) else 0) ↔ _
  by_cases c : (j : Int) < i + 1 ∧ u j < 1000
  · rw [if_pos c]; exact ⟨fun _ => c, fun _ => by omega⟩
  · rw [if_neg c]; exact ⟨fun y => by omega, fun y => absurd y c⟩
theorem or_0 : ∀ s : Nat, s < 512 → bOr s 0 = s := by decide +kernel
theorem BSi_n {c i : Int} {u : Nat → Int} (h : BSi c i u) (hi : 0 ≤ i ∧ i ≤ 8) (hu : ¬ u i.toNat < 1000) : BSi (bOr c 0) (i + 1) u := by
  have h1 := h.1
  obtain ⟨n, hn⟩ : ∃ n : Nat, c = n := ⟨c.toNat, by omega⟩
  have e : bOr c 0 = c := by rw [hn]; exact or_0 n (by omega)
  rw [e]
  refine ⟨h.1, fun j hj => (h.2 j hj).trans ⟨fun z => ⟨by omega, z.2⟩, fun z => ⟨?_, z.2⟩⟩⟩
  by_cases q : (j : Int) = i
  · have y := z.2
    rw [show j = i.toNat by omega] at y
    exact absurd y hu
  · omega
set_option maxRecDepth 4000 in
theorem ctJ7_fill_53178129 {SP : CT} (hSP : MONO SP) {sh : List (Nat × Nat)} {h : aH} (hG : GD gE gRL sh h) : CLd SP 1 mJ7_fill_53178 [.ref 129, .int (I 0)] h 0 0 (fun rv h' => rv = none ∧ GD gE gRL sh h' ∧ FRM gRL [(0, 43, 0, 30)] h h' ∧ ∀ j : Nat, j < 31 → gi h' 129 j = 0) := by
  refine x_met _ rfl (Nat.le_of_ble_eq_true rfl) (fun K hK => ?_)
  have hmono := MONO_CLd hSP 0
  have loop : ∀ (mz : Nat) (i : Int) (h4 : aH) (ls : List (Nat × Value)), ((31 - i).toNat = mz) → (0 ≤ i ∧ i ≤ 31) → (∀ j : Nat, (j : Int) < i → gi h4 129 j = 0) → lk ls 0 = some (.ref 129) → lk ls 1 = some (.int (I 0)) → lk ls 2 = some (.int (I i)) → lk ls 3 = some (.int (I 31)) → GD gE gRL sh h4 → FRM gRL [(0, 43, 0, 30)] h h4 → K 5 ls [] h4 0 0 := by
    intro mz
    induction mz using Nat.strongRecOn with
    | ind mz ih =>
    intro i h4 ls hm i0 dn l0 l1 l2 l3 hG4 hF4
    refine x_iload_n 6 hK rfl rfl l2 ?_
    refine x_iload_n 7 hK rfl rfl l3 ?_
    refine x_if_icmp_ge 20 10 hK rfl rfl rfl (by omega) (by omega) (fun c3 => ?_) (fun c3 => ?_)
    · exact x_vret hK rfl ⟨rfl, hG4, hF4, fun j hj => dn j (by omega)⟩
    · refine x_aload_n 11 hK rfl rfl l0 ?_
      refine x_iload_n 12 hK rfl rfl l2 ?_
      refine x_iload_n 13 hK rfl rfl l1 ?_
      refine x_iastore 14 hK rfl rfl (sp_129 (h := h4) hG4) (by omega) (by omega) (by omega) ?_
      refine x_iinc 17 hK rfl rfl l2 _ rfl ?_
      refine x_goto 5 hK rfl rfl ?_
      exact ih _ (by omega) (i + 1) _ _ rfl (by omega) (fun j hj => if c : j = i.toNat then (by subst c; exact gi_same (by omega)) else (gi_k c _).trans (dn j (by omega))) (lk1_n l0 (by decide) (Or.inl rfl)) (lk1_n l1 (by decide) (Or.inl rfl)) lk1_s (lk1_n l3 (by decide) (Or.inl rfl)) (GD_wn (hG4) (r := 43) rfl rfl) (FRM_wn 0 30 (hF4) (r := 43) rfl rfl rfl (by omega) (by omega))
  refine x_iconst 1 hK rfl rfl ?_
  refine x_istore_n 2 hK rfl rfl [(2, .int (I 0)), (0, .ref 129), (1, .int (I 0))] rfl ?_
  refine x_aload_n 3 hK rfl rfl rfl ?_
  refine x_arraylength 4 hK rfl rfl (sp_129 (h := h) hG) (by decide) ?_
  change K 4 _ (.int (I 31) :: _) _ _ _
  refine x_istore_n 5 hK rfl rfl [(3, .int (I 31)), (2, .int (I 0)), (0, .ref 129), (1, .int (I 0))] rfl ?_
  exact loop _ 0 _ _ rfl (by omega) (fun j hj => absurd hj (by omega)) rfl rfl rfl rfl (hG) ((FRM.rf : FRM gRL [(0, 43, 0, 30)] h h))
set_option maxRecDepth 4000 in
theorem ctX10_lookAheadR {SP : CT} (hSP : MONO SP) {sh : List (Nat × Nat)} {h : aH} (hG : GD gE gRL sh h) {s u : Nat} (hP : PT h) (hX : XI h) (hD : DR h s u) (h0 : 0 ≤ (gi h 23 0) ∧ (gi h 23 0) ≤ 1000000) (hml : ∀ j : Nat, (j : Int) < gi h 19 0 → 0 ≤ gi h 20 j ∧ gi h 20 j ≤ 999) : CLd SP 7 mX10_lookAhead [.ref 0] h 0 0 (fun rv h' => rv = none ∧ GD gE gRL sh h' ∧ FRM gRL [(0, 8, 3, 3), (0, 10, 0, 39), (0, 41, 5, 5), (0, 42, 0, 29), (0, 43, 0, 30)] h h' ∧ (∀ j : Nat, j < 30 → gi h' 128 j = dnF h (gi h 23 0) j) ∧ ∀ t : Nat, 1 ≤ t → t ≤ 30 → RB (gi h' 129 t) (fun g : Nat => hitN (gi h 20) (gi h 21) ((gi h 23 0) + (t : Int)) (g : Int) (gi h 19 0).toNat)) := by
  refine x_met _ rfl (Nat.le_of_ble_eq_true rfl) (fun K hK => ?_)
  have hmono := MONO_CLd hSP 6
  have hD2 := hD
  obtain ⟨h5, hu, pS, pL, ⟨c0, c1, c2⟩, r0, r1, r2⟩ := hD2
  have g19 := gri 0 16 hG (a := 19) (r := 13) (k := 0) rfl rfl
  have tm := tm2 (gi h 171 5)
  have rocks : ∀ (mz : Nat) (i : Int) (h4 : aH) (ls : List (Nat × Value)), ((gi h 19 0 - i).toNat = mz) → (0 ≤ i ∧ i ≤ gi h 19 0) → (∀ j : Nat, j < 30 → gi h4 128 j = dnF h (gi h 23 0) j) → (∀ t : Nat, 1 ≤ t → t ≤ 30 → RB (gi h4 129 t) (fun g : Nat => hitN (gi h 20) (gi h 21) ((gi h 23 0) + (t : Int)) (g : Int) i.toNat)) → lk ls 0 = some (.ref 0) → lk ls 1 = some (.int (I i)) → GD gE gRL sh h4 → FRM gRL [(0, 8, 3, 3), (0, 10, 0, 39), (0, 41, 5, 5), (0, 42, 0, 29), (0, 43, 0, 30)] h h4 → K 100 ls [] h4 0 0 := by
    intro mz
    induction mz using Nat.strongRecOn with
    | ind mz ih =>
    intro i h4 ls hm i0 dn rb l0 l1 hG4 hF4
    have gm := fun z : i < gi h 19 0 => hml i.toNat (by omega)
    have gl2 := fun z : i < gi h 19 0 => grn 0 8 hG (a := 21) (r := 15) (k := i.toNat) rfl rfl (by omega)
    refine x_iload_n 101 hK rfl rfl l1 ?_
    refine x_aload_n 102 hK rfl rfl l0 ?_
    refine x_getR 105 hK rfl rfl (sp_0 (h := h4) hG4) (rf_0_7 (h := h4) hG4) ?_
    have g679 := gri (0) (16) hG (a := 19) (r := 13) (k := 0) rfl rfl
    refine x_getE 108 hK rfl (Or.inl rfl) rfl (sp_19 (h := h4) hG4) (e := (gi h 19 0)) (FRM_gi hF4 (r := 13) rfl rfl) ?_
    refine x_if_icmp_ge 169 111 hK rfl rfl rfl (by omega) (by omega) (fun c5 => ?_) (fun c5 => ?_)
    · exact x_vret hK rfl ⟨rfl, hG4, hF4, dn, fun t h1 h2 => by
        rw [show (gi h 19 0).toNat = i.toNat by omega]
        exact rb t h1 h2⟩
    · have gm2 := gm (by omega)
      have gl3 := gl2 (by omega)
      refine x_aload_n 112 hK rfl rfl l0 ?_
      refine x_getR 115 hK rfl rfl (sp_0 (h := h4) hG4) (rf_0_7 (h := h4) hG4) ?_
      refine x_getR 118 hK rfl rfl (sp_19 (h := h4) hG4) (rf_19_1 (h := h4) hG4) ?_
      refine x_iload_n 119 hK rfl rfl l1 ?_
      have g680 := gi_r h 20 i.toNat
      refine x_ialoadE 120 hK rfl rfl (sp_20 (h := h4) hG4) (by omega) (by omega) (by omega) (e' := (gi h 20 i.toNat)) (FRM_gi hF4 (r := 14) rfl rfl) ?_
      refine x_aload_n 121 hK rfl rfl l0 ?_
      refine x_getR 124 hK rfl rfl (sp_0 (h := h4) hG4) (rf_0_10 (h := h4) hG4) ?_
      have g681 := gi_r h 23 0
      refine x_getE 127 hK rfl (Or.inl rfl) rfl (sp_23 (h := h4) hG4) (e := (gi h 23 0)) (FRM_gi hF4 (r := 17) rfl rfl) ?_
      refine x_isub 128 hK rfl rfl ?_
      refine x_istore_n 129 hK rfl rfl _ rfl ?_
      refine x_iload_n 130 hK rfl rfl lk1_s ?_
      refine x_iconst 131 hK rfl rfl ?_
      refine x_if_icmp_lt 163 134 hK rfl rfl rfl (by omega) (by omega) (fun c20 => ?_) (fun c20 => ?_)
      · refine x_iinc 166 hK rfl rfl (lk1_n l1 (by decide) (Or.inl rfl)) _ rfl ?_
        refine x_goto 100 hK rfl rfl ?_
        have rb2 : ∀ t : Nat, 1 ≤ t → t ≤ 30 → RB (gi h4 129 t) (fun g : Nat => hitN (gi h 20) (gi h 21) ((gi h 23 0) + (t : Int)) (g : Int) (i + 1).toNat) := fun t h1 h2 => by
          refine RB_c (rb t h1 h2) fun g hg => ?_
          show 0 < hitN (gi h 20) (gi h 21) ((gi h 23 0) + (t : Int)) (g : Int) i.toNat ↔ 0 < hitN (gi h 20) (gi h 21) ((gi h 23 0) + (t : Int)) (g : Int) (i + 1).toNat
          rw [hitN_s i0.1, if_neg (fun z => by have := z.1; omega), Int.add_zero]
        exact ih _ (by omega) (i + 1) _ _ rfl (by omega) (fun j hj => (rfl).trans (dn j hj)) (rb2) (lk1_n (lk1_n l0 (by decide) (Or.inl rfl)) (by decide) (Or.inl rfl)) lk1_s (hG4) (hF4)
      · refine x_iload_n 135 hK rfl rfl lk1_s ?_
        refine x_bipush 137 hK rfl rfl rfl ?_
        refine x_if_icmp_gt 163 140 hK rfl rfl rfl (by omega) (by omega) (fun c26 => ?_) (fun c26 => ?_)
        · refine x_iinc 166 hK rfl rfl (lk1_n l1 (by decide) (Or.inl rfl)) _ rfl ?_
          refine x_goto 100 hK rfl rfl ?_
          have rb2 : ∀ t : Nat, 1 ≤ t → t ≤ 30 → RB (gi h4 129 t) (fun g : Nat => hitN (gi h 20) (gi h 21) ((gi h 23 0) + (t : Int)) (g : Int) (i + 1).toNat) := fun t h1 h2 => by
            refine RB_c (rb t h1 h2) fun g hg => ?_
            show 0 < hitN (gi h 20) (gi h 21) ((gi h 23 0) + (t : Int)) (g : Int) i.toNat ↔ 0 < hitN (gi h 20) (gi h 21) ((gi h 23 0) + (t : Int)) (g : Int) (i + 1).toNat
            rw [hitN_s i0.1, if_neg (fun z => by have := z.1; omega), Int.add_zero]
          exact ih _ (by omega) (i + 1) _ _ rfl (by omega) (fun j hj => (rfl).trans (dn j hj)) (rb2) (lk1_n (lk1_n l0 (by decide) (Or.inl rfl)) (by decide) (Or.inl rfl)) lk1_s (hG4) (hF4)
        · refine x_aload_n 141 hK rfl rfl (lk1_n l0 (by decide) (Or.inl rfl)) ?_
          refine x_getR 144 hK rfl rfl (sp_0 (h := h4) hG4) (rf_0_13 (h := h4) hG4) ?_
          refine x_getR 147 hK rfl rfl (sp_127 (h := h4) hG4) (rf_127_1 (h := h4) hG4) ?_
          refine x_iload_n 148 hK rfl rfl lk1_s ?_
          refine x_dup2 149 hK rfl rfl rfl rfl ?_
          have g682 := gi_r h4 129 ((gi h 20 i.toNat) - (gi h 23 0)).toNat
          refine x_ialoadE 150 hK rfl rfl (sp_129 (h := h4) hG4) (by omega) (by omega) (by omega) (e' := (gi h4 129 ((gi h 20 i.toNat) - (gi h 23 0)).toNat)) (rfl) ?_
          refine x_iconst 151 hK rfl rfl ?_
          refine x_aload_n 152 hK rfl rfl (lk1_n l0 (by decide) (Or.inl rfl)) ?_
          refine x_getR 155 hK rfl rfl (sp_0 (h := h4) hG4) (rf_0_7 (h := h4) hG4) ?_
          refine x_getR 158 hK rfl rfl (sp_19 (h := h4) hG4) (rf_19_2 (h := h4) hG4) ?_
          refine x_iload_n 159 hK rfl rfl (lk1_n l1 (by decide) (Or.inl rfl)) ?_
          have g683 := grn (0) (8) hG (a := 21) (r := 15) (k := i.toNat) rfl rfl (by omega)
          refine x_ialoadE 160 hK rfl rfl (sp_21 (h := h4) hG4) (by omega) (by omega) (by omega) (e' := (gi h 21 i.toNat)) (FRM_gi hF4 (r := 15) rfl rfl) ?_
          have g684 := bShl_r 1 (gi h 21 i.toNat)
          refine x_ishlF 161 hK rfl rfl ?_
          have g685 := bOr_r (gi h4 129 ((gi h 20 i.toNat) - (gi h 23 0)).toNat) (bShl 1 (gi h 21 i.toNat))
          refine x_iorF 162 hK rfl rfl ?_
          refine x_iastore 163 hK rfl rfl (sp_129 (h := h4) hG4) (by omega) (by omega) (by omega) ?_
          refine x_iinc 166 hK rfl rfl (lk1_n l1 (by decide) (Or.inl rfl)) _ rfl ?_
          refine x_goto 100 hK rfl rfl ?_
          have rb2 : ∀ t : Nat, 1 ≤ t → t ≤ 30 → RB (gi (wI h4 129 ((gi h 20 i.toNat) - (gi h 23 0)).toNat (bOr (gi h4 129 ((gi h 20 i.toNat) - (gi h 23 0)).toNat) (bShl 1 (gi h 21 i.toNat)))) 129 t) (fun g : Nat => hitN (gi h 20) (gi h 21) ((gi h 23 0) + (t : Int)) (g : Int) (i + 1).toNat) := fun t h1 h2 => by
            by_cases c : t = ((gi h 20 i.toNat) - (gi h 23 0)).toNat
            · rw [show gi (wI h4 129 ((gi h 20 i.toNat) - (gi h 23 0)).toNat (bOr (gi h4 129 ((gi h 20 i.toNat) - (gi h 23 0)).toNat) (bShl 1 (gi h 21 i.toNat)))) 129 t = (bOr (gi h4 129 ((gi h 20 i.toNat) - (gi h 23 0)).toNat) (bShl 1 (gi h 21 i.toNat))) from by rw [c]; exact gi_same (bOr_r _ _)]
              have z := rb t h1 h2
              rw [show gi h4 129 ((gi h 20 i.toNat) - (gi h 23 0)).toNat = gi h4 129 t from by rw [c]]
              refine RB_or z (by omega) fun g hg => ?_
              show 0 < hitN (gi h 20) (gi h 21) ((gi h 23 0) + (t : Int)) (g : Int) (i + 1).toNat ↔ 0 < hitN (gi h 20) (gi h 21) ((gi h 23 0) + (t : Int)) (g : Int) i.toNat ∨ _
              have hb := hitN_b (gi h 20) (gi h 21) ((gi h 23 0) + (t : Int)) (g : Int) i.toNat
              rw [hitN_s i0.1]
              by_cases d : (g : Int) = gi h 21 i.toNat
              · rw [if_pos ⟨by omega, d.symm⟩]
                omega
              · rw [if_neg (fun z => d z.2.symm)]
                omega
            · rw [show gi (wI h4 129 ((gi h 20 i.toNat) - (gi h 23 0)).toNat (bOr (gi h4 129 ((gi h 20 i.toNat) - (gi h 23 0)).toNat) (bShl 1 (gi h 21 i.toNat)))) 129 t = gi h4 129 t from gi_k c _]
              refine RB_c (rb t h1 h2) fun g hg => ?_
              show 0 < hitN (gi h 20) (gi h 21) ((gi h 23 0) + (t : Int)) (g : Int) i.toNat ↔ 0 < hitN (gi h 20) (gi h 21) ((gi h 23 0) + (t : Int)) (g : Int) (i + 1).toNat
              rw [hitN_s i0.1, if_neg (fun z => by have := z.1; omega), Int.add_zero]
          exact ih _ (by omega) (i + 1) _ _ rfl (by omega) (fun j hj => (gi_a (by decide) _).trans (dn j hj)) (rb2) (lk1_n (lk1_n l0 (by decide) (Or.inl rfl)) (by decide) (Or.inl rfl)) lk1_s (GD_wn (hG4) (r := 43) rfl rfl) (FRM_wn 0 30 (hF4) (r := 43) rfl rfl rfl (by omega) (by omega))
  have done : ∀ (mz : Nat) (i : Int) (h4 : aH) (ls : List (Nat × Value)), ((30 - i).toNat = mz) → (0 ≤ i ∧ i ≤ 30) → (∀ j : Nat, (j : Int) < i → gi h4 128 j = dnF h (gi h 23 0) j) → lk ls 0 = some (.ref 0) → lk ls 1 = some (.int (I i)) → GD gE gRL sh h4 → FRM gRL [(0, 8, 3, 3), (0, 10, 0, 39), (0, 41, 5, 5), (0, 42, 0, 29), (0, 43, 0, 30)] h h4 → K 27 ls [] h4 0 0 := by
    intro mz
    induction mz using Nat.strongRecOn with
    | ind mz ih =>
    intro i h4 ls hm i0 dn l0 l1 hG4 hF4
    have hD4 : DR h4 s u := DR_F hF4 rfl hD
    have dl4 : dlA h4 = dlA h := funext fun z => dlA_F hF4 rfl z
    have n4 : gi h4 23 0 = (gi h 23 0) := FRM_gi hF4 (r := 17) rfl rfl
    have db12 := dnF_b h (gi h 23 0) (i - 12).toNat
    refine x_iload_n 28 hK rfl rfl l1 ?_
    refine x_bipush 30 hK rfl rfl rfl ?_
    refine x_if_icmp_ge 87 33 hK rfl rfl rfl (by omega) (by omega) (fun c3 => ?_) (fun c3 => ?_)
    · refine x_aload_n 88 hK rfl rfl l0 ?_
      refine x_getR 91 hK rfl rfl (sp_0 (h := h4) hG4) (rf_0_13 (h := h4) hG4) ?_
      refine x_getR 94 hK rfl rfl (sp_127 (h := h4) hG4) (rf_127_1 (h := h4) hG4) ?_
      refine x_iconst 95 hK rfl rfl ?_
      refine x_callS 98 hK hmono rfl (Or.inl rfl) rfl [.ref 129, .int (I 0)] [] rfl rfl (Nat.le_of_ble_eq_true rfl) (Nat.le_of_ble_eq_true rfl) (CLd_le (Nat.le_of_ble_eq_true rfl) (ctJ7_fill_53178129 hSP hG4)) ?_
      rintro v686 h686 ⟨rfl, hG686, hF686, fz686⟩
      refine x_iconst 99 hK rfl rfl ?_
      refine x_istore_n 100 hK rfl rfl _ rfl ?_
      exact rocks _ 0 _ _ rfl (by omega) (fun j hj => (FRM_gi hF686 (r := 42) rfl rfl).trans (dn j (by omega))) (fun t h1 h2 => by
        rw [show gi h686 129 t = 0 from fz686 t (by omega)]
        exact RB_c RB_0 fun g hg => Iff.rfl) (lk1_n l0 (by decide) (Or.inl rfl)) lk1_s (hG686) ((hF4).trans ((hF686).mono rfl))
    · refine x_aload_n 34 hK rfl rfl l0 ?_
      refine x_getR 37 hK rfl rfl (sp_0 (h := h4) hG4) (rf_0_13 (h := h4) hG4) ?_
      refine x_getR 40 hK rfl rfl (sp_127 (h := h4) hG4) (rf_127_0 (h := h4) hG4) ?_
      refine x_iload_n 41 hK rfl rfl l1 ?_
      refine x_iload_n 42 hK rfl rfl l1 ?_
      refine x_bipush 44 hK rfl rfl rfl ?_
      refine x_if_icmp_ge 65 47 hK rfl rfl rfl (by omega) (by omega) (fun c18 => ?_) (fun c18 => ?_)
      · refine x_aload_n 66 hK rfl rfl l0 ?_
        refine x_getR 69 hK rfl rfl (sp_0 (h := h4) hG4) (rf_0_13 (h := h4) hG4) ?_
        refine x_getR 72 hK rfl rfl (sp_127 (h := h4) hG4) (rf_127_0 (h := h4) hG4) ?_
        refine x_iload_n 73 hK rfl rfl l1 ?_
        refine x_bipush 75 hK rfl rfl rfl ?_
        refine x_isub 76 hK rfl rfl ?_
        refine x_ialoadE 77 hK rfl rfl (sp_128 (h := h4) hG4) (by omega) (by omega) (by omega) (e' := (dnF h (gi h 23 0) (i - 12).toNat)) ((dn (i - 12).toNat (by omega))) ?_
        refine x_bipush 79 hK rfl rfl rfl ?_
        refine x_iadd 80 hK rfl rfl ?_
        refine x_iastore 81 hK rfl rfl (sp_128 (h := h4) hG4) (by omega) (by omega) (by omega) ?_
        refine x_iinc 84 hK rfl rfl l1 _ rfl ?_
        refine x_goto 27 hK rfl rfl ?_
        have dn2 : ∀ j : Nat, (j : Int) < i + 1 → gi (wI h4 128 i.toNat ((dnF h (gi h 23 0) (i - 12).toNat) + 12)) 128 j = dnF h (gi h 23 0) j := fun j hj => by
          by_cases q : j = i.toNat
          · rw [q]
            refine (gi_same (by omega)).trans ?_
            rw [show i.toNat = (i - 12).toNat + 12 by omega, dnF_12]
          · exact ((gi_k (by omega) _)).trans (dn j (by omega))
        exact ih _ (by omega) (i + 1) _ _ rfl (by omega) (dn2) (lk1_n l0 (by decide) (Or.inl rfl)) lk1_s (GD_wn (hG4) (r := 42) rfl rfl) (FRM_wn 0 29 (hF4) (r := 42) rfl rfl rfl (by omega) (by omega))
      · refine x_iload_n 48 hK rfl rfl l1 ?_
        refine x_aload_n 49 hK rfl rfl l0 ?_
        refine x_aload_n 50 hK rfl rfl l0 ?_
        refine x_getR 53 hK rfl rfl (sp_0 (h := h4) hG4) (rf_0_10 (h := h4) hG4) ?_
        have g687 := gi_r h 23 0
        refine x_getE 56 hK rfl (Or.inl rfl) rfl (sp_23 (h := h4) hG4) (e := (gi h 23 0)) (n4) ?_
        refine x_iload_n 57 hK rfl rfl l1 ?_
        refine x_iadd 58 hK rfl rfl ?_
        refine x_callV 61 hK hmono rfl rfl [.ref 0, .int (I ((gi h 23 0) + i))] [.int (I i), .int (I i), .ref 128] rfl rfl (Nat.le_of_ble_eq_true rfl) (Nat.le_of_ble_eq_true rfl) rfl (sp_0 (h := h4) hG4) (CLd_le (Nat.le_of_ble_eq_true rfl) (ctX10_delayA hSP hG4 (show PT h4 from PT_F hF4 (by decide) hP) (show XI h4 from (xOk_ok rfl _ h4 hF4 hX)) hD4 (t := ((gi h 23 0) + i)) (by omega))) ?_
        rw [dl4]
        rintro v688 h688 ⟨rfl, hG688, hF688⟩
        have db := dlA_b h ((gi h 23 0) + i)
        refine x_iadd 62 hK rfl rfl ?_
        refine x_goto 80 hK rfl rfl ?_
        refine x_iastore 81 hK rfl rfl (sp_128 (h := h688) hG688) (by omega) (by omega) (by omega) ?_
        refine x_iinc 84 hK rfl rfl l1 _ rfl ?_
        refine x_goto 27 hK rfl rfl ?_
        have dn2 : ∀ j : Nat, (j : Int) < i + 1 → gi (wI h688 128 i.toNat (i + (dlA h ((gi h 23 0) + i)))) 128 j = dnF h (gi h 23 0) j := fun j hj => by
          by_cases q : j = i.toNat
          · rw [q]
            refine (gi_same (by omega)).trans ?_
            unfold dnF
            rw [show ((i.toNat : Nat) : Int) = i by omega]
          · exact ((gi_k (by omega) _).trans (FRM_gi hF688 (r := 42) rfl rfl)).trans (dn j (by omega))
        exact ih _ (by omega) (i + 1) _ _ rfl (by omega) (dn2) (lk1_n l0 (by decide) (Or.inl rfl)) lk1_s (GD_wn (hG688) (r := 42) rfl rfl) (FRM_wn 0 29 ((hF4).trans ((hF688).mono rfl)) (r := 42) rfl rfl rfl (by omega) (by omega))
  refine x_aload_n 1 hK rfl rfl rfl ?_
  refine x_getR 4 hK rfl rfl (sp_0 (h := h) hG) (rf_0_13 (h := h) hG) ?_
  refine x_aload_n 5 hK rfl rfl rfl ?_
  refine x_getR 8 hK rfl rfl (sp_0 (h := h) hG) (pS) ?_
  have g689 := gi_r h s 2
  refine x_getE 11 hK rfl (Or.inl rfl) rfl (shx (h := h) hG (r := 5) (ss_r h5).1 rfl) (e := (gi h s 2)) (rfl) ?_
  refine x_iconst 12 hK rfl rfl ?_
  refine x_irem 13 hK rfl rfl (gi_r _ _ _) (by omega) (by omega) (by omega) ?_
  rw [c2]
  generalize (gi h 171 5).tmod 2 = t at *
  refine x_iconst 14 hK rfl rfl ?_
  refine x_if_icmp_ne 21 17 hK rfl rfl rfl (by omega) (by omega) (fun c9 => ?_) (fun c9 => ?_)
  · refine x_iconst 22 hK rfl rfl ?_
    refine x_putZ 25 hK rfl rfl (sp_127 (h := h) hG) (by omega) ?_
    refine x_iconst 26 hK rfl rfl ?_
    refine x_istore_n 27 hK rfl rfl [(1, .int (I 0)), (0, .ref 0)] rfl ?_
    exact done _ 0 _ _ rfl (by omega) (fun j hj => absurd hj (by omega)) rfl rfl (GD_w1 (hG) (r := 41) rfl (by omega) rfl (by omega) (by omega)) (FRM_w ((FRM.rf : FRM gRL [(0, 8, 3, 3), (0, 10, 0, 39), (0, 41, 5, 5), (0, 42, 0, 29), (0, 43, 0, 30)] h h)) (r := 41) rfl rfl)
  · refine x_iconst 18 hK rfl rfl ?_
    refine x_goto 22 hK rfl rfl ?_
    refine x_putZ 25 hK rfl rfl (sp_127 (h := h) hG) (by omega) ?_
    refine x_iconst 26 hK rfl rfl ?_
    refine x_istore_n 27 hK rfl rfl [(1, .int (I 0)), (0, .ref 0)] rfl ?_
    exact done _ 0 _ _ rfl (by omega) (fun j hj => absurd hj (by omega)) rfl rfl (GD_w1 (hG) (r := 41) rfl (by omega) rfl (by omega) (by omega)) (FRM_w ((FRM.rf : FRM gRL [(0, 8, 3, 3), (0, 10, 0, 39), (0, 41, 5, 5), (0, 42, 0, 29), (0, 43, 0, 30)] h h)) (r := 41) rfl rfl)
set_option maxRecDepth 4000 in
theorem ctX10_firstFree {SP : CT} (hSP : MONO SP) {sh : List (Nat × Nat)} {h : aH} (hG : GD gE gRL sh h) : CLd SP 2 mX10_firstFree [.ref 0] h 0 0 (fun rv h' => h' = h ∧ rv = some (.int (I (if gi h 23 3 = gi h 23 0 then 1 else 0)))) := by
  refine x_met _ rfl (Nat.le_of_ble_eq_true rfl) (fun K hK => ?_)
  have hmono := MONO_CLd hSP 1
  refine x_aload_n 1 hK rfl rfl rfl ?_
  refine x_getR 4 hK rfl rfl (sp_0 (h := h) hG) (rf_0_10 (h := h) hG) ?_
  refine x_callV 7 hK hmono rfl rfl [.ref 23] [] rfl rfl (Nat.le_of_ble_eq_true rfl) (Nat.le_of_ble_eq_true rfl) rfl (sp_23 (h := h) hG) (CLd_le (Nat.le_of_ble_eq_true rfl) (ctX8_gaveNow hSP hG)) ?_
  rintro v9 h9 ⟨e9, rfl⟩
  rw [e9]
  clear e9
  have fr : (if gi h 23 3 = gi h 23 0 then 1 else 0) = (0 : Int) ∨ (if gi h 23 3 = gi h 23 0 then 1 else 0) = (1 : Int) := by split <;> omega
  obtain ⟨w, ew⟩ : ∃ w : Int, w = (if gi h 23 3 = gi h 23 0 then 1 else 0) := ⟨_, rfl⟩
  rw [← ew] at fr hK ⊢
  refine x_if_eq 14 10 hK rfl rfl rfl (by omega) (fun c4 => ?_) (fun c4 => ?_)
  · refine x_iconst 15 hK rfl rfl ?_
    obtain rfl : w = 0 := by omega
    exact x_iret hK rfl ⟨rfl, rfl⟩
  · refine x_iconst 11 hK rfl rfl ?_
    refine x_goto 15 hK rfl rfl ?_
    obtain rfl : w = 1 := by omega
    exact x_iret hK rfl ⟨rfl, rfl⟩
