/-! LEAVES: a rule that is worked out, fractions, reading numbers -/
/-- an answer that is an int, whichever it is -/
theorem int_ans {h : aH} {rv : Option Value} {o : List AV × OV × List (Nat × Int × Int)} {l : OT} (hm : o ∈ l) (hl : (l.all fun o => match o.1 with
  | [(0, 0, _, _)] => true
  | _ => false) = true) (g : gst gRL (fun _ => none) [] h o.1 rv.toList) : ∃ n : Int, r32 n ∧ rv = some (.int (I n)) := by
  have z := List.all_eq_true.mp hl o hm
  split at z
  · rename_i lo hi he
    rw [he] at g
    obtain ⟨n, h1, h2, -⟩ := QS_i g
    exact ⟨n, h1, h2⟩
  · cases z
theorem VC_at {c : Nat → Int} {n : Int} (hv : VCd c n) {k : Nat} (hk : (k : Int) < n) : 0 ≤ hgt c k ∧ hgt c k ≤ k ∧ (c k = 3000 → 1 ≤ hgt c k ∧ hgt c (k + 1) = hgt c k) ∧ (c k ≠ 3000 → 2000 ≤ c k → 2 ≤ hgt c k ∧ hgt c (k + 1) = hgt c k - 1) ∧ (c k < 2000 → hgt c (k + 1) = hgt c k + 1) ∧ (1000 ≤ c k → c k < 2000 → c k ≤ 1003) := by
  obtain ⟨h1, h2, h3, h4, h5⟩ := hv.2 k hk
  have e : hgt c (k + 1) = hgt c k + (if c k = 3000 then 0 else if 2000 ≤ c k then -1 else 1) := rfl
  refine ⟨h1, h2, fun z => ⟨h3 z, ?_⟩, fun z y => ⟨h4 z y, ?_⟩, fun z => ?_, h5⟩
  · rw [e, if_pos z]; omega
  · rw [e, if_neg z, if_pos y]; omega
  · rw [e, if_neg (by omega), if_neg (by omega)]
theorem td8 {a : Int} (h : r32 a) : -268435456 ≤ a.tdiv 8 ∧ a.tdiv 8 ≤ 268435456 := by
  by_cases c : 0 ≤ a
  · rw [Int.tdiv_eq_ediv_of_nonneg c]; omega
  · have e : a.tdiv 8 = -((-a).tdiv 8) := by rw [Int.neg_tdiv, Int.neg_neg]
    rw [e, Int.tdiv_eq_ediv_of_nonneg (by omega)]; omega
theorem ctX11_ruled {SP : CT} (hSP : MONO SP) {sh : List (Nat × Nat)} {h : aH} (hG : GD gE gRL sh h) (hX : XI h) : CLd SP 4 mX11_ruled [.ref 171] h 0 0 (fun rv h' => (∃ n, rv = some (.int (I n)) ∧ 1 ≤ n ∧ n ≤ 12) ∧ GD gE gRL sh h' ∧ FRM gRL [(0, 67, 0, 79)] h h') := by
  refine x_met _ rfl (Nat.le_of_ble_eq_true rfl) (fun K hK => ?_)
  have hmono := MONO_CLd hSP 3
  have hc80 : gi h 171 25 ≤ 80 := hX.1
  have hcl := gri 0 80 hG (a := 171) (r := 54) (k := 25) rfl rfl
  have loop : ∀ (m : Nat) (k : Nat) (h1 : aH) (ls : List (Nat × Value)), ((gi h 171 25 - k).toNat = m) → (k : Int) ≤ gi h 171 25 → lk ls 0 = some (.ref 171) → lk ls 1 = some (.int (I (hgt (fun k => gi h 182 k) k))) → lk ls 2 = some (.int (I (k : Int))) → GD gE gRL sh h1 → FRM gRL [(0, 67, 0, 79)] h h1 → K 4 ls [] h1 0 0 := by
    intro m
    induction m using Nat.strongRecOn with
    | ind m ih =>
    intro k h1 ls hm hk l0 l1 l2 hG1 hF
    have hc : gi h1 171 25 = gi h 171 25 := FRM_gi hF (r := 54) rfl rfl
    have hcd : ∀ j, gi h1 182 j = gi h 182 j := fun j => by
      show (aI h1 182 j).toInt = (aI h 182 j).toInt
      rw [hF.1 182 j fun r' hr' => by
        have hr : 65 = r' := Option.some.inj ((show gRL[182]? = some 65 from rfl).symm.trans hr')
        subst hr; rfl]
    have hX1 : XI h1 := xOk_ok rfl h h1 hF hX
    have gr := gi_r h1
    have hq : (k : Int) < gi h 171 25 → _ := fun z => VC_at (c := fun k => gi h 182 k) hX (k := k) z
    generalize hgt (fun k => gi h 182 k) k = t at *
    refine x_iload_n 5 hK rfl rfl l2 ?_
    refine x_aload_n 6 hK rfl rfl l0 ?_
    refine x_getE 9 hK rfl (Or.inl rfl) rfl (sp_171 (h := h1) hG1) (e := (gi h 171 25)) (hc) ?_
    refine x_if_icmp_ge 125 12 hK rfl rfl rfl (by first | omega | exact gi_r _ _ _ | (have z1 := gr 184 0; omega)) (by first | omega | exact gi_r _ _ _ | (have z1 := gr 184 0; omega)) (fun c4 => ?_) (fun c4 => ?_)
    · refine x_aload_n 126 hK rfl rfl l0 ?_
      refine x_getE 129 hK rfl (Or.inl rfl) rfl (sp_171 (h := h1) hG1) (e := (gi h 171 25)) (hc) ?_
      refine x_if_ne 146 132 hK rfl rfl rfl (by first | omega | exact gi_r _ _ _ | (have z1 := gr 184 0; omega)) (fun c7 => ?_) (fun c7 => ?_)
      · refine x_aload_n 147 hK rfl rfl l0 ?_
        refine x_getR 150 hK rfl rfl (sp_171 (h := h1) hG1) (rf_171_27 (h := h1) hG1) ?_
        refine x_iconst 151 hK rfl rfl ?_
        refine x_ialoadE 152 hK rfl rfl (sp_184 (h := h1) hG1) (by first | omega | exact gi_r _ _ _ | (have z1 := gr 184 0; omega)) (by first | omega | exact gi_r _ _ _ | (have z1 := gr 184 0; omega)) (by first | omega | exact gi_r _ _ _ | (have z1 := gr 184 0; omega)) (e' := (gi h1 184 0)) (rfl) ?_
        refine x_istore_n 153 hK rfl rfl _ rfl ?_
        refine x_iconst 154 hK rfl rfl ?_
        refine x_bipush 156 hK rfl rfl rfl ?_
        refine x_iload_n 157 hK rfl rfl lk1_s ?_
        refine x_min 160 hK rfl rfl (Nat.le_of_ble_eq_true rfl) (by first | omega | exact gi_r _ _ _ | (have z1 := gr 184 0; omega)) (by first | omega | exact gi_r _ _ _ | (have z1 := gr 184 0; omega)) ?_
        refine x_max 163 hK rfl rfl (Nat.le_of_ble_eq_true rfl) (by first | omega | exact gi_r _ _ _ | (have z1 := gr 184 0; omega)) (by first | omega | exact gi_r _ _ _ | (have z1 := gr 184 0; omega)) ?_
        exact x_iret hK rfl ⟨⟨_, rfl, by omega, by omega⟩, hG1, hF⟩
      · refine x_aload_n 133 hK rfl rfl l0 ?_
        refine x_getR 136 hK rfl rfl (sp_171 (h := h1) hG1) (rf_171_28 (h := h1) hG1) ?_
        refine x_iconst 137 hK rfl rfl ?_
        refine x_ialoadE 138 hK rfl rfl (sp_185 (h := h1) hG1) (by first | omega | exact gi_r _ _ _ | (have z1 := gr 184 0; omega)) (by first | omega | exact gi_r _ _ _ | (have z1 := gr 184 0; omega)) (by first | omega | exact gi_r _ _ _ | (have z1 := gr 184 0; omega)) (e' := (gi h1 185 0)) (rfl) ?_
        refine x_bipush 140 hK rfl rfl rfl ?_
        refine x_idiv 141 hK rfl rfl (gi_r _ _ _) (by omega) (by omega) (by omega) ?_
        have td := td8 (gr 185 0)
        generalize (gi h1 185 0).tdiv 8 = w8 at *
        refine x_iconst 142 hK rfl rfl ?_
        refine x_iadd 143 hK rfl rfl ?_
        refine x_goto 152 hK rfl rfl ?_
        refine x_istore_n 153 hK rfl rfl _ rfl ?_
        refine x_iconst 154 hK rfl rfl ?_
        refine x_bipush 156 hK rfl rfl rfl ?_
        refine x_iload_n 157 hK rfl rfl lk1_s ?_
        refine x_min 160 hK rfl rfl (Nat.le_of_ble_eq_true rfl) (by first | omega | exact gi_r _ _ _ | (have z1 := gr 184 0; omega)) (by first | omega | exact gi_r _ _ _ | (have z1 := gr 184 0; omega)) ?_
        refine x_max 163 hK rfl rfl (Nat.le_of_ble_eq_true rfl) (by first | omega | exact gi_r _ _ _ | (have z1 := gr 184 0; omega)) (by first | omega | exact gi_r _ _ _ | (have z1 := gr 184 0; omega)) ?_
        exact x_iret hK rfl ⟨⟨_, rfl, by omega, by omega⟩, hG1, hF⟩
    · refine x_aload_n 13 hK rfl rfl l0 ?_
      refine x_getR 16 hK rfl rfl (sp_171 (h := h1) hG1) (rf_171_23 (h := h1) hG1) ?_
      refine x_iload_n 17 hK rfl rfl l2 ?_
      refine x_ialoadE 18 hK rfl rfl (sp_182 (h := h1) hG1) (by omega) (by omega) (by omega) (e' := gi h 182 k) ((hcd _).trans (by rw [Int.toNat_natCast])) ?_
      have hq2 := hq (by omega)
      have gc := gi_r h 182 k
      generalize gi h 182 k = c at *
      refine x_istore_n 19 hK rfl rfl _ rfl ?_
      refine x_iload_n 20 hK rfl rfl lk1_s ?_
      refine x_sipush 23 hK rfl rfl rfl ?_
      refine x_if_icmp_ne 46 26 hK rfl rfl rfl (by first | omega | exact gi_r _ _ _ | (have z1 := gr 184 0; omega)) (by first | omega | exact gi_r _ _ _ | (have z1 := gr 184 0; omega)) (fun c42 => ?_) (fun c42 => ?_)
      · refine x_iload_n 47 hK rfl rfl lk1_s ?_
        refine x_sipush 50 hK rfl rfl rfl ?_
        refine x_if_icmp_lt 89 53 hK rfl rfl rfl (by first | omega | exact gi_r _ _ _ | (have z1 := gr 184 0; omega)) (by first | omega | exact gi_r _ _ _ | (have z1 := gr 184 0; omega)) (fun c45 => ?_) (fun c45 => ?_)
        · refine x_aload_n 90 hK rfl rfl (lk1_n l0 (by decide) (Or.inl rfl)) ?_
          refine x_getR 93 hK rfl rfl (sp_171 (h := h1) hG1) (rf_171_27 (h := h1) hG1) ?_
          refine x_iload_n 94 hK rfl rfl (lk1_n l1 (by decide) (Or.inl rfl)) ?_
          refine x_iload_n 95 hK rfl rfl lk1_s ?_
          refine x_sipush 98 hK rfl rfl rfl ?_
          refine x_if_icmp_lt 114 101 hK rfl rfl rfl (by first | omega | exact gi_r _ _ _ | (have z1 := gr 184 0; omega)) (by first | omega | exact gi_r _ _ _ | (have z1 := gr 184 0; omega)) (fun c51 => ?_) (fun c51 => ?_)
          · refine x_iload_n 115 hK rfl rfl lk1_s ?_
            refine x_iastore 116 hK rfl rfl (sp_184 (h := h1) hG1) (by first | omega | exact gi_r _ _ _ | (have z1 := gr 184 0; omega)) (by first | omega | exact gi_r _ _ _ | (have z1 := gr 184 0; omega)) (by first | omega | exact gi_r _ _ _ | (have z1 := gr 184 0; omega)) ?_
            refine x_iinc 119 hK rfl rfl (lk1_n l1 (by decide) (Or.inl rfl)) _ rfl ?_
            refine x_iinc 122 hK rfl rfl (lk1_n (lk1_n l2 (by decide) (Or.inl rfl)) (by decide) (Or.inl rfl)) _ rfl ?_
            refine x_goto 4 hK rfl rfl ?_
            have hh : hgt (fun k => gi h 182 k) (k + 1) = (t + 1) := by omega
            refine ih _ (by omega) (k + 1) _ _ rfl (by omega) (lk1_n (lk1_n (lk1_n l0 (by decide) (Or.inl rfl)) (by decide) (Or.inl rfl)) (by decide) (Or.inl rfl)) (by rw [hh]; exact (lk1_n lk1_s (by decide) (Or.inl rfl))) lk1_s (GD_wn (hG1) (r := 67) rfl rfl) (FRM_wn 0 79 (hF) (r := 67) rfl rfl rfl (by omega) (by omega))
          · refine x_aload_n 102 hK rfl rfl (lk1_n l0 (by decide) (Or.inl rfl)) ?_
            refine x_getR 105 hK rfl rfl (sp_171 (h := h1) hG1) (rf_171_28 (h := h1) hG1) ?_
            refine x_iload_n 106 hK rfl rfl lk1_s ?_
            refine x_sipush 109 hK rfl rfl rfl ?_
            refine x_isub 110 hK rfl rfl ?_
            refine x_ialoadE 111 hK rfl rfl (sp_185 (h := h1) hG1) (by first | omega | exact gi_r _ _ _ | (have z1 := gr 184 0; omega)) (by first | omega | exact gi_r _ _ _ | (have z1 := gr 184 0; omega)) (by first | omega | exact gi_r _ _ _ | (have z1 := gr 184 0; omega)) (e' := (gi h1 185 (c - 1000).toNat)) (rfl) ?_
            refine x_goto 115 hK rfl rfl ?_
            refine x_iastore 116 hK rfl rfl (sp_184 (h := h1) hG1) (by first | omega | exact gi_r _ _ _ | (have z1 := gr 184 0; omega)) (by first | omega | exact gi_r _ _ _ | (have z1 := gr 184 0; omega)) (by first | omega | exact gi_r _ _ _ | (have z1 := gr 184 0; omega)) ?_
            refine x_iinc 119 hK rfl rfl (lk1_n l1 (by decide) (Or.inl rfl)) _ rfl ?_
            refine x_iinc 122 hK rfl rfl (lk1_n (lk1_n l2 (by decide) (Or.inl rfl)) (by decide) (Or.inl rfl)) _ rfl ?_
            refine x_goto 4 hK rfl rfl ?_
            have hh : hgt (fun k => gi h 182 k) (k + 1) = (t + 1) := by omega
            refine ih _ (by omega) (k + 1) _ _ rfl (by omega) (lk1_n (lk1_n (lk1_n l0 (by decide) (Or.inl rfl)) (by decide) (Or.inl rfl)) (by decide) (Or.inl rfl)) (by rw [hh]; exact (lk1_n lk1_s (by decide) (Or.inl rfl))) lk1_s (GD_wn (hG1) (r := 67) rfl rfl) (FRM_wn 0 79 (hF) (r := 67) rfl rfl rfl (by omega) (by omega))
        · refine x_iinc 56 hK rfl rfl (lk1_n l1 (by decide) (Or.inl rfl)) _ rfl ?_
          refine x_aload_n 57 hK rfl rfl (lk1_n (lk1_n l0 (by decide) (Or.inl rfl)) (by decide) (Or.inl rfl)) ?_
          refine x_getR 60 hK rfl rfl (sp_171 (h := h1) hG1) (rf_171_27 (h := h1) hG1) ?_
          refine x_iload_n 61 hK rfl rfl lk1_s ?_
          refine x_iconst 62 hK rfl rfl ?_
          refine x_isub 63 hK rfl rfl ?_
          refine x_iload_n 64 hK rfl rfl (lk1_n lk1_s (by decide) (Or.inl rfl)) ?_
          refine x_sipush 67 hK rfl rfl rfl ?_
          refine x_isub 68 hK rfl rfl ?_
          refine x_aload_n 69 hK rfl rfl (lk1_n (lk1_n l0 (by decide) (Or.inl rfl)) (by decide) (Or.inl rfl)) ?_
          refine x_getR 72 hK rfl rfl (sp_171 (h := h1) hG1) (rf_171_27 (h := h1) hG1) ?_
          refine x_iload_n 73 hK rfl rfl lk1_s ?_
          refine x_iconst 74 hK rfl rfl ?_
          refine x_isub 75 hK rfl rfl ?_
          refine x_ialoadE 76 hK rfl rfl (sp_184 (h := h1) hG1) (by first | omega | exact gi_r _ _ _ | (have z1 := gr 184 0; omega)) (by first | omega | exact gi_r _ _ _ | (have z1 := gr 184 0; omega)) (by first | omega | exact gi_r _ _ _ | (have z1 := gr 184 0; omega)) (e' := (gi h1 184 ((t + (-1)) - 1).toNat)) (rfl) ?_
          refine x_aload_n 77 hK rfl rfl (lk1_n (lk1_n l0 (by decide) (Or.inl rfl)) (by decide) (Or.inl rfl)) ?_
          refine x_getR 80 hK rfl rfl (sp_171 (h := h1) hG1) (rf_171_27 (h := h1) hG1) ?_
          refine x_iload_n 81 hK rfl rfl lk1_s ?_
          refine x_ialoadE 82 hK rfl rfl (sp_184 (h := h1) hG1) (by first | omega | exact gi_r _ _ _ | (have z1 := gr 184 0; omega)) (by first | omega | exact gi_r _ _ _ | (have z1 := gr 184 0; omega)) (by first | omega | exact gi_r _ _ _ | (have z1 := gr 184 0; omega)) (e' := (gi h1 184 (t + (-1)).toNat)) (rfl) ?_
          refine x_callS 85 hK hmono rfl (Or.inl rfl) rfl [.int (I (c - 2000)), .int (I (gi h1 184 ((t + (-1)) - 1).toNat)), .int (I (gi h1 184 (t + (-1)).toNat))] [.int (I ((t + (-1)) - 1)), .ref 184] rfl rfl (Nat.le_of_ble_eq_true rfl) (Nat.le_of_ble_eq_true rfl) (CLd_le (Nat.le_of_ble_eq_true rfl) (kX11_worked_3 hSP [.int (I (c - 2000)), .int (I (gi h1 184 ((t + (-1)) - 1).toNat)), .int (I (gi h1 184 (t + (-1)).toNat))] _ hX1 ⟨gv_i (by first | omega | exact gi_r _ _ _) (by first | omega | exact (gi_r _ _ _).1) (by first | omega | exact (gi_r _ _ _).2), gv_i (gi_r _ _ _) (gi_r _ _ _).1 (gi_r _ _ _).2, gv_i (gi_r _ _ _) (gi_r _ _ _).1 (gi_r _ _ _).2, trivial⟩ hG1 gov_n)) ?_
          rintro v9 h9 ⟨hG9, hF9, o9, m9, q9, -, -⟩
          obtain ⟨w, hw, rfl⟩ := int_ans m9 rfl q9
          replace hF9 : FRM gRL [(0, 67, 0, 79)] h h9 := hF.trans (hF9.mono rfl)
          refine x_iastore 86 hK rfl rfl (sp_184 (h := h9) hG9) (by first | omega | exact gi_r _ _ _ | (have z1 := gr 184 0; omega)) (by first | omega | exact gi_r _ _ _ | (have z1 := gr 184 0; omega)) (by first | omega | exact gi_r _ _ _ | (have z1 := gr 184 0; omega)) ?_
          refine x_goto 119 hK rfl rfl ?_
          refine x_iinc 122 hK rfl rfl (lk1_n (lk1_n l2 (by decide) (Or.inl rfl)) (by decide) (Or.inl rfl)) _ rfl ?_
          refine x_goto 4 hK rfl rfl ?_
          have hh : hgt (fun k => gi h 182 k) (k + 1) = (t + (-1)) := by omega
          refine ih _ (by omega) (k + 1) _ _ rfl (by omega) (lk1_n (lk1_n (lk1_n l0 (by decide) (Or.inl rfl)) (by decide) (Or.inl rfl)) (by decide) (Or.inl rfl)) (by rw [hh]; exact (lk1_n lk1_s (by decide) (Or.inl rfl))) lk1_s (GD_wn (hG9) (r := 67) rfl rfl) (FRM_wn 0 79 (hF9) (r := 67) rfl rfl rfl (by omega) (by omega))
      · refine x_aload_n 27 hK rfl rfl (lk1_n l0 (by decide) (Or.inl rfl)) ?_
        refine x_getR 30 hK rfl rfl (sp_171 (h := h1) hG1) (rf_171_27 (h := h1) hG1) ?_
        refine x_iload_n 31 hK rfl rfl (lk1_n l1 (by decide) (Or.inl rfl)) ?_
        refine x_iconst 32 hK rfl rfl ?_
        refine x_isub 33 hK rfl rfl ?_
        refine x_aload_n 34 hK rfl rfl (lk1_n l0 (by decide) (Or.inl rfl)) ?_
        refine x_getR 37 hK rfl rfl (sp_171 (h := h1) hG1) (rf_171_27 (h := h1) hG1) ?_
        refine x_iload_n 38 hK rfl rfl (lk1_n l1 (by decide) (Or.inl rfl)) ?_
        refine x_iconst 39 hK rfl rfl ?_
        refine x_isub 40 hK rfl rfl ?_
        refine x_ialoadE 41 hK rfl rfl (sp_184 (h := h1) hG1) (by first | omega | exact gi_r _ _ _ | (have z1 := gr 184 0; omega)) (by first | omega | exact gi_r _ _ _ | (have z1 := gr 184 0; omega)) (by first | omega | exact gi_r _ _ _ | (have z1 := gr 184 0; omega)) (e' := (gi h1 184 (t - 1).toNat)) (rfl) ?_
        refine x_ineg 42 hK rfl rfl ?_
        refine x_iastore 43 hK rfl rfl (sp_184 (h := h1) hG1) (by first | omega | exact gi_r _ _ _ | (have z1 := gr 184 0; omega)) (by first | omega | exact gi_r _ _ _ | (have z1 := gr 184 0; omega)) (by first | omega | exact gi_r _ _ _ | (have z1 := gr 184 0; omega)) ?_
        refine x_goto 119 hK rfl rfl ?_
        refine x_iinc 122 hK rfl rfl (lk1_n l2 (by decide) (Or.inl rfl)) _ rfl ?_
        refine x_goto 4 hK rfl rfl ?_
        have hh : hgt (fun k => gi h 182 k) (k + 1) = t := by omega
        refine ih _ (by omega) (k + 1) _ _ rfl (by omega) (lk1_n (lk1_n l0 (by decide) (Or.inl rfl)) (by decide) (Or.inl rfl)) (by rw [hh]; exact (lk1_n (lk1_n l1 (by decide) (Or.inl rfl)) (by decide) (Or.inl rfl))) lk1_s (GD_wn (hG1) (r := 67) rfl rfl) (FRM_wn 0 79 (hF) (r := 67) rfl rfl rfl (by omega) (by omega))
  refine x_iconst 1 hK rfl rfl ?_
  refine x_istore_n 2 hK rfl rfl [(1, .int (I 0)), (0, .ref 171)] rfl ?_
  refine x_iconst 3 hK rfl rfl ?_
  refine x_istore_n 4 hK rfl rfl [(2, .int (I 0)), (1, .int (I 0)), (0, .ref 171)] rfl ?_
  exact loop _ 0 h _ rfl (by omega) rfl rfl rfl hG FRM.rf
theorem ctX11_enters {SP : CT} (hSP : MONO SP) {sh : List (Nat × Nat)} {h : aH} (hG : GD gE gRL sh h) {v : Int} (hr : 0 ≤ gi h 171 1 ∧ gi h 171 1 ≤ 39) : CLd SP 1 mX11_enters [.ref 171, .long (J v)] h 0 0 (fun rv h' => rv = none ∧ GD gE gRL sh h' ∧ FRM gRL [(0, 54, 1, 1), (1, 55, 0, 39)] h h' ∧ gi h' 171 1 = gi h 171 1 + 1) := by
  refine x_met _ rfl (Nat.le_of_ble_eq_true rfl) (fun K hK => ?_)
  have hmono := MONO_CLd hSP 0
  refine x_aload_n 1 hK rfl rfl rfl ?_
  refine x_getR 4 hK rfl rfl (sp_171 (h := h) hG) (rf_171_2 (h := h) hG) ?_
  refine x_aload_n 5 hK rfl rfl rfl ?_
  refine x_getE 8 hK rfl (Or.inl rfl) rfl (sp_171 (h := h) hG) (e := (gi h 171 1)) (rfl) ?_
  refine x_lload_n 9 hK rfl rfl rfl ?_
  refine x_lastore 10 hK rfl rfl (sp_172 (h := h) hG) (by omega) (by omega) (by omega) ?_
  refine x_aload_n 11 hK rfl rfl rfl ?_
  refine x_dup 12 hK rfl rfl rfl ?_
  refine x_getE 15 hK rfl (Or.inl rfl) rfl (sp_171 (h := h) hG) (e := (gi h 171 1)) (rfl) ?_
  refine x_iconst 16 hK rfl rfl ?_
  refine x_iadd 17 hK rfl rfl ?_
  refine x_putI 20 hK rfl rfl (sp_171 (h := h) hG) ?_
  exact x_vret hK rfl ⟨rfl, GD_w1 (GD_J (hG)) (r := 54) rfl (by omega) rfl (by omega) (by omega), FRM_w (FRM_Jn 0 39 (FRM.rf) (r := 55) rfl rfl rfl (by omega) (by omega)) (r := 54) rfl rfl, gi_same (by omega)⟩
theorem gcd_step {a b : Int} (ha : 0 ≤ a) (hb : 0 < b) : Nat.gcd b.toNat (a % b).toNat = Nat.gcd a.toNat b.toNat := by
  rw [Int.toNat_emod ha (by omega), Nat.gcd_comm a.toNat b.toNat, Nat.gcd_rec b.toNat a.toNat]
  exact Nat.gcd_comm _ _
theorem ctX11_common {SP : CT} (hSP : MONO SP) {h : aH} : ∀ (n : Nat) (a b : Int), 0 ≤ a → 0 ≤ b → r64 a → r64 b → b < 2 ^ n → CLd SP (2 * n + 1) mX11_common [.long (J a), .long (J b)] h 0 0 (fun rv h' => h' = h ∧ rv = some (.long (J (Nat.gcd a.toNat b.toNat : Int)))) := by
  have base : ∀ (d : Nat) (a b : Int), 0 ≤ a → 0 ≤ b → r64 a → r64 b → (0 < b → CLd SP d mX11_common [.long (J b), .long (J (a % b))] h 0 0 (fun rv h' => h' = h ∧ rv = some (.long (J (Nat.gcd a.toNat b.toNat : Int))))) → CLd SP (d + 1) mX11_common [.long (J a), .long (J b)] h 0 0 (fun rv h' => h' = h ∧ rv = some (.long (J (Nat.gcd a.toNat b.toNat : Int)))) := by
    intro d a b ha hb ra rb hc
    refine x_met _ rfl (Nat.le_of_ble_eq_true rfl) (fun K hK => ?_)
    have hmono := MONO_CLd hSP d
    refine x_lload_n 1 hK rfl rfl rfl ?_
    refine x_lconstE 2 0 hK rfl rfl rfl ?_
    refine x_lcmp_ne 10 6 hK rfl rfl rfl rfl (by omega) (by omega) (fun c3 => ?_) (fun c3 => ?_)
    · refine x_lload_n 11 hK rfl rfl rfl ?_
      refine x_lload_n 12 hK rfl rfl rfl ?_
      refine x_lload_n 13 hK rfl rfl rfl ?_
      refine x_lremp 14 hK rfl rfl (by omega) (by omega) (by omega) (by omega) ?_
      refine x_callS 17 hK hmono rfl (Or.inl rfl) rfl [.long (J b), .long (J (a % b))] [] rfl rfl (Nat.le_of_ble_eq_true rfl) (Nat.le_of_ble_eq_true rfl) (hc (by omega)) ?_
      rintro v9 h9 ⟨rfl, rfl⟩
      exact x_lret hK rfl ⟨rfl, rfl⟩
    · refine x_lload_n 7 hK rfl rfl rfl ?_
      refine x_goto 17 hK rfl rfl ?_
      refine x_lret hK rfl ⟨rfl, ?_⟩
      have e : b = 0 := by omega
      subst e
      rw [show (0 : Int).toNat = 0 from rfl, Nat.gcd_zero_right, Int.toNat_of_nonneg ha]
  have lt : ∀ a b : Int, 0 < b → 0 ≤ a % b ∧ a % b < b := fun a b hb => ⟨Int.emod_nonneg _ (by omega), Int.emod_lt_of_pos _ hb⟩
  intro n
  induction n with
  | zero =>
    intro a b ha hb ra rb hlt
    refine base 0 a b ha hb ra rb fun z => ?_
    have : b < 1 := hlt
    omega
  | succ n ih =>
    intro a b ha hb ra rb hlt
    refine base (2 * n + 2) a b ha hb ra rb fun z => ?_
    have l1 := lt a b z
    rw [← gcd_step ha z]
    by_cases c : a % b < 2 ^ n
    · exact CLd_le (Nat.le_succ _) (ih b (a % b) hb l1.1 rb ⟨by omega, by omega⟩ c)
    · have p1 : (0 : Int) < 2 ^ n := Int.pow_pos (by decide)
      refine base (2 * n + 1) b (a % b) hb l1.1 rb ⟨by omega, by omega⟩ fun y => ?_
      have l2 := lt b (a % b) y
      rw [← gcd_step hb y]
      refine ih (a % b) (b % (a % b)) l1.1 l2.1 ⟨by omega, by omega⟩ ⟨by omega, by omega⟩ ?_
      have e1 : b % (a % b) ≤ b - a % b := by
        have h1 := Int.emod_add_mul_ediv b (a % b)
        have h2 : 1 ≤ b / (a % b) := (Int.le_ediv_iff_mul_le y).mpr (by omega)
        have h3 : a % b * 1 ≤ a % b * (b / (a % b)) := Int.mul_le_mul_of_nonneg_left h2 l1.1
        omega
      have e2 : (2 : Int) ^ (n + 1) = 2 * 2 ^ n := by rw [Int.pow_succ]; omega
      omega
theorem ctX11_tellsFraction {SP : CT} (hSP : MONO SP) {sh : List (Nat × Nat)} {h : aH} (hG : GD gE gRL sh h) {a b : Int} (ha : 0 ≤ a) (hb : 1 ≤ b) (ra : r64 a) (rb : r64 b) : CLd SP 130 mX11_tellsFraction [.ref 171, .long (J a), .long (J b)] h 0 0 (fun rv h' => rv = none ∧ GD gE gRL sh h' ∧ FRM gRL [(0, 54, 1, 1), (1, 55, 0, 39)] h h' ∧ gi h' 171 1 = 2) := by
  refine x_met _ rfl (Nat.le_of_ble_eq_true rfl) (fun K hK => ?_)
  have hmono := MONO_CLd hSP 129
  have g1 : 0 < Nat.gcd a.toNat b.toNat := Nat.gcd_pos_of_pos_right _ (by omega)
  have g2 : Nat.gcd a.toNat b.toNat ≤ b.toNat := Nat.gcd_le_right _ (by omega)
  have hcm := ctX11_common hSP (h := h) 63 a b ha (by omega) ra rb (by have := rb.2; omega)
  generalize Nat.gcd a.toNat b.toNat = g at *
  have ex1 : 0 ≤ a / (g : Int) := Int.ediv_nonneg ha (by omega)
  have ex2 : a / (g : Int) ≤ a := Int.ediv_le_self _ ha
  have ex3 : 0 ≤ b / (g : Int) := Int.ediv_nonneg (by omega) (by omega)
  have ex4 : b / (g : Int) ≤ b := Int.ediv_le_self _ (by omega)
  refine x_lload_n 1 hK rfl rfl rfl ?_
  refine x_lload_n 2 hK rfl rfl rfl ?_
  refine x_callS 5 hK hmono rfl (Or.inl rfl) rfl [.long (J a), .long (J b)] [] rfl rfl (Nat.le_of_ble_eq_true rfl) (Nat.le_of_ble_eq_true rfl) (CLd_le (Nat.le_of_ble_eq_true rfl) hcm) ?_
  rintro v9 h9 ⟨e9, rfl⟩
  rw [e9]
  refine x_lstore 7 hK rfl rfl [(5, .long (J (g : Int))), (0, .ref 171), (1, .long (J a)), (3, .long (J b))] rfl ?_
  refine x_aload_n 8 hK rfl rfl rfl ?_
  refine x_iconst 9 hK rfl rfl ?_
  refine x_putI 12 hK rfl rfl (sp_171 (h := h) hG) ?_
  refine x_aload_n 13 hK rfl rfl rfl ?_
  refine x_lload_n 14 hK rfl rfl rfl ?_
  refine x_lload 16 hK rfl rfl rfl ?_
  refine x_ldivp 17 hK rfl rfl (by omega) (by omega) (by omega) (by omega) ?_
  refine x_callV 20 hK hmono rfl rfl [.ref 171, .long (J (a / (g : Int)))] [] rfl rfl (Nat.le_of_ble_eq_true rfl) (Nat.le_of_ble_eq_true rfl) rfl (sp_171 (h := h) hG) (CLd_le (Nat.le_of_ble_eq_true rfl) (ctX11_enters hSP (h := (wI h 171 1 0)) (GD_w1 (hG) (r := 54) rfl (by omega) rfl (by omega) (by omega)) (by rw [gi_same (by omega)]; omega))) ?_
  rintro v9 h1 ⟨rfl, hG1, hF1, e1⟩
  rw [gi_same (by omega)] at e1
  replace hF1 : FRM gRL [(0, 54, 1, 1), (1, 55, 0, 39)] h h1 := (FRM_w (FRM.rf) (r := 54) rfl rfl).trans hF1
  refine x_aload_n 21 hK rfl rfl rfl ?_
  refine x_lload_n 22 hK rfl rfl rfl ?_
  refine x_lload 24 hK rfl rfl rfl ?_
  refine x_ldivp 25 hK rfl rfl (by omega) (by omega) (by omega) (by omega) ?_
  refine x_callV 28 hK hmono rfl rfl [.ref 171, .long (J (b / (g : Int)))] [] rfl rfl (Nat.le_of_ble_eq_true rfl) (Nat.le_of_ble_eq_true rfl) rfl (sp_171 (h := h1) hG1) (CLd_le (Nat.le_of_ble_eq_true rfl) (ctX11_enters hSP hG1 (by omega))) ?_
  rintro v9 h2 ⟨rfl, hG2, hF2, e2⟩
  exact x_vret hK rfl ⟨rfl, hG2, hF1.trans hF2, by omega⟩
theorem ctX3_tellFraction {SP : CT} (hSP : MONO SP) {sh : List (Nat × Nat)} {h : aH} (hG : GD gE gRL sh h) (hX : XI h) {a b : Int} (ra : r64 a) (rb : r64 b) : CLd SP 4 mX3_tellFraction [.ref 3, .long (J a), .long (J b)] h 0 0 (fun rv h' => rv = none ∧ GD gE gRL sh h' ∧ FRM gRL [(0, 3, 1, 1), (1, 4, 0, 29)] h h') := by
  refine x_met _ rfl (Nat.le_of_ble_eq_true rfl) (fun K hK => ?_)
  have hmono := MONO_CLd hSP 3
  have loop : ∀ (m : Nat) (k x y : Int) (ls : List (Nat × Value)), ((100 - k).toNat = m) → 0 ≤ k → k ≤ 100 → r64 x → r64 y → lk ls 0 = some (.ref 3) → lk ls 1 = some (.long (J a)) → lk ls 3 = some (.long (J b)) → lk ls 5 = some (.long (J x)) → lk ls 7 = some (.long (J y)) → lk ls 9 = some (.int (I k)) → K 9 ls [] h 0 0 := by
    intro m
    induction m using Nat.strongRecOn with
    | ind m ih =>
    intro k x y ls hm h0 h1 rx ry l0 l1 l3 l5 l7 l9
    refine x_iload 11 hK rfl rfl l9 ?_
    refine x_bipush 13 hK rfl rfl rfl ?_
    refine x_if_icmp_ge 44 16 hK rfl rfl rfl (by omega) (by omega) (fun c3 => ?_) (fun c3 => ?_)
    · refine x_lload 46 hK rfl rfl l5 ?_
      refine x_lconstE 47 0 hK rfl rfl rfl ?_
      refine x_lcmp_ne 55 51 hK rfl rfl rfl rfl (by omega) (by omega) (fun c6 => ?_) (fun c6 => ?_)
      · refine x_lload 57 hK rfl rfl l5 ?_
        refine x_lstore 59 hK rfl rfl _ rfl ?_
        refine x_aload_n 60 hK rfl rfl (lk2_n l0 (by decide) (by decide) (Or.inl rfl)) ?_
        refine x_lload_n 61 hK rfl rfl (lk2_n l1 (by decide) (by decide) (Or.inr (by decide))) ?_
        refine x_lload 63 hK rfl rfl lk2_s ?_
        refine x_ldivX 64 hK rfl rfl (by omega) (by omega) (fun q63 rq63 => ?_)
        refine x_lload_n 65 hK rfl rfl (lk2_n l3 (by decide) (by decide) (Or.inr (by decide))) ?_
        refine x_lload 67 hK rfl rfl lk2_s ?_
        refine x_ldivX 68 hK rfl rfl (by omega) (by omega) (fun q67 rq67 => ?_)
        refine x_callV 71 hK hmono rfl rfl [.ref 3, .long (J q63), .long (J q67)] [] rfl rfl (Nat.le_of_ble_eq_true rfl) (Nat.le_of_ble_eq_true rfl) rfl (sp_3 (h := h) hG) (CLd_le (Nat.le_of_ble_eq_true rfl) (kX3_tellTwo_0 hSP [.ref 3, .long (J q63), .long (J q67)] _ hX ⟨gv_r (by decide) rfl, gv_l (by omega) (by omega) (by omega), gv_l (by omega) (by omega) (by omega), trivial⟩ hG gov_n)) ?_
        rintro v9 h9 ⟨hG9, hF9, o9, m9, q9, -, -⟩
        have e9 : v9 = none := by
          simp only [sX3_tellTwo_0, List.mem_cons, List.not_mem_nil, or_false] at m9
          rcases m9 with rfl | rfl <;> exact QS_v q9
        subst e9
        exact x_vret hK rfl ⟨rfl, hG9, hF9.mono rfl⟩
      · refine x_lconstE 52 1 hK rfl rfl rfl ?_
        refine x_goto 57 hK rfl rfl ?_
        refine x_lstore 59 hK rfl rfl _ rfl ?_
        refine x_aload_n 60 hK rfl rfl (lk2_n l0 (by decide) (by decide) (Or.inl rfl)) ?_
        refine x_lload_n 61 hK rfl rfl (lk2_n l1 (by decide) (by decide) (Or.inr (by decide))) ?_
        refine x_lload 63 hK rfl rfl lk2_s ?_
        refine x_ldivX 64 hK rfl rfl (by omega) (by omega) (fun q63 rq63 => ?_)
        refine x_lload_n 65 hK rfl rfl (lk2_n l3 (by decide) (by decide) (Or.inr (by decide))) ?_
        refine x_lload 67 hK rfl rfl lk2_s ?_
        refine x_ldivX 68 hK rfl rfl (by omega) (by omega) (fun q67 rq67 => ?_)
        refine x_callV 71 hK hmono rfl rfl [.ref 3, .long (J q63), .long (J q67)] [] rfl rfl (Nat.le_of_ble_eq_true rfl) (Nat.le_of_ble_eq_true rfl) rfl (sp_3 (h := h) hG) (CLd_le (Nat.le_of_ble_eq_true rfl) (kX3_tellTwo_0 hSP [.ref 3, .long (J q63), .long (J q67)] _ hX ⟨gv_r (by decide) rfl, gv_l (by omega) (by omega) (by omega), gv_l (by omega) (by omega) (by omega), trivial⟩ hG gov_n)) ?_
        rintro v9 h9 ⟨hG9, hF9, o9, m9, q9, -, -⟩
        have e9 : v9 = none := by
          simp only [sX3_tellTwo_0, List.mem_cons, List.not_mem_nil, or_false] at m9
          rcases m9 with rfl | rfl <;> exact QS_v q9
        subst e9
        exact x_vret hK rfl ⟨rfl, hG9, hF9.mono rfl⟩
    · refine x_lload 18 hK rfl rfl l7 ?_
      refine x_lconstE 19 0 hK rfl rfl rfl ?_
      refine x_lcmp_eq 44 23 hK rfl rfl rfl rfl (by omega) (by omega) (fun c32 => ?_) (fun c32 => ?_)
      · refine x_lload 46 hK rfl rfl l5 ?_
        refine x_lconstE 47 0 hK rfl rfl rfl ?_
        refine x_lcmp_ne 55 51 hK rfl rfl rfl rfl (by omega) (by omega) (fun c35 => ?_) (fun c35 => ?_)
        · refine x_lload 57 hK rfl rfl l5 ?_
          refine x_lstore 59 hK rfl rfl _ rfl ?_
          refine x_aload_n 60 hK rfl rfl (lk2_n l0 (by decide) (by decide) (Or.inl rfl)) ?_
          refine x_lload_n 61 hK rfl rfl (lk2_n l1 (by decide) (by decide) (Or.inr (by decide))) ?_
          refine x_lload 63 hK rfl rfl lk2_s ?_
          refine x_ldivX 64 hK rfl rfl (by omega) (by omega) (fun q63 rq63 => ?_)
          refine x_lload_n 65 hK rfl rfl (lk2_n l3 (by decide) (by decide) (Or.inr (by decide))) ?_
          refine x_lload 67 hK rfl rfl lk2_s ?_
          refine x_ldivX 68 hK rfl rfl (by omega) (by omega) (fun q67 rq67 => ?_)
          refine x_callV 71 hK hmono rfl rfl [.ref 3, .long (J q63), .long (J q67)] [] rfl rfl (Nat.le_of_ble_eq_true rfl) (Nat.le_of_ble_eq_true rfl) rfl (sp_3 (h := h) hG) (CLd_le (Nat.le_of_ble_eq_true rfl) (kX3_tellTwo_0 hSP [.ref 3, .long (J q63), .long (J q67)] _ hX ⟨gv_r (by decide) rfl, gv_l (by omega) (by omega) (by omega), gv_l (by omega) (by omega) (by omega), trivial⟩ hG gov_n)) ?_
          rintro v9 h9 ⟨hG9, hF9, o9, m9, q9, -, -⟩
          have e9 : v9 = none := by
            simp only [sX3_tellTwo_0, List.mem_cons, List.not_mem_nil, or_false] at m9
            rcases m9 with rfl | rfl <;> exact QS_v q9
          subst e9
          exact x_vret hK rfl ⟨rfl, hG9, hF9.mono rfl⟩
        · refine x_lconstE 52 1 hK rfl rfl rfl ?_
          refine x_goto 57 hK rfl rfl ?_
          refine x_lstore 59 hK rfl rfl _ rfl ?_
          refine x_aload_n 60 hK rfl rfl (lk2_n l0 (by decide) (by decide) (Or.inl rfl)) ?_
          refine x_lload_n 61 hK rfl rfl (lk2_n l1 (by decide) (by decide) (Or.inr (by decide))) ?_
          refine x_lload 63 hK rfl rfl lk2_s ?_
          refine x_ldivX 64 hK rfl rfl (by omega) (by omega) (fun q63 rq63 => ?_)
          refine x_lload_n 65 hK rfl rfl (lk2_n l3 (by decide) (by decide) (Or.inr (by decide))) ?_
          refine x_lload 67 hK rfl rfl lk2_s ?_
          refine x_ldivX 68 hK rfl rfl (by omega) (by omega) (fun q67 rq67 => ?_)
          refine x_callV 71 hK hmono rfl rfl [.ref 3, .long (J q63), .long (J q67)] [] rfl rfl (Nat.le_of_ble_eq_true rfl) (Nat.le_of_ble_eq_true rfl) rfl (sp_3 (h := h) hG) (CLd_le (Nat.le_of_ble_eq_true rfl) (kX3_tellTwo_0 hSP [.ref 3, .long (J q63), .long (J q67)] _ hX ⟨gv_r (by decide) rfl, gv_l (by omega) (by omega) (by omega), gv_l (by omega) (by omega) (by omega), trivial⟩ hG gov_n)) ?_
          rintro v9 h9 ⟨hG9, hF9, o9, m9, q9, -, -⟩
          have e9 : v9 = none := by
            simp only [sX3_tellTwo_0, List.mem_cons, List.not_mem_nil, or_false] at m9
            rcases m9 with rfl | rfl <;> exact QS_v q9
          subst e9
          exact x_vret hK rfl ⟨rfl, hG9, hF9.mono rfl⟩
      · refine x_lload 25 hK rfl rfl l5 ?_
        refine x_lload 27 hK rfl rfl l7 ?_
        refine x_lremX 28 hK rfl rfl (by omega) (by omega) (fun q27 rq27 => ?_)
        refine x_lstore 30 hK rfl rfl _ rfl ?_
        refine x_lload 32 hK rfl rfl (lk2_n l7 (by decide) (by decide) (Or.inr (by decide))) ?_
        refine x_lstore 34 hK rfl rfl _ rfl ?_
        refine x_lload 36 hK rfl rfl (lk2_n lk2_s (by decide) (by decide) (Or.inr (by decide))) ?_
        refine x_lstore 38 hK rfl rfl _ rfl ?_
        refine x_iinc 41 hK rfl rfl (lk2_n (lk2_n (lk2_n l9 (by decide) (by decide) (Or.inl rfl)) (by decide) (by decide) (Or.inl rfl)) (by decide) (by decide) (Or.inl rfl)) _ rfl ?_
        refine x_goto 9 hK rfl rfl ?_
        exact ih _ (by omega) (k + 1) y q27 _ rfl (by omega) (by omega) ry rq27 (lk1_n (lk2_n (lk2_n (lk2_n l0 (by decide) (by decide) (Or.inl rfl)) (by decide) (by decide) (Or.inl rfl)) (by decide) (by decide) (Or.inl rfl)) (by decide) (Or.inl rfl)) (lk1_n (lk2_n (lk2_n (lk2_n l1 (by decide) (by decide) (Or.inr (by decide))) (by decide) (by decide) (Or.inr (by decide))) (by decide) (by decide) (Or.inr (by decide))) (by decide) (Or.inr (by decide))) (lk1_n (lk2_n (lk2_n (lk2_n l3 (by decide) (by decide) (Or.inr (by decide))) (by decide) (by decide) (Or.inr (by decide))) (by decide) (by decide) (Or.inr (by decide))) (by decide) (Or.inr (by decide))) (lk1_n (lk2_n lk2_s (by decide) (by decide) (Or.inr (by decide))) (by decide) (Or.inr (by decide))) (lk1_n lk2_s (by decide) (Or.inr (by decide))) lk1_s
  refine x_lload_n 1 hK rfl rfl rfl ?_
  refine x_lstore 3 hK rfl rfl [(5, .long (J a)), (0, .ref 3), (1, .long (J a)), (3, .long (J b))] rfl ?_
  refine x_lload_n 4 hK rfl rfl rfl ?_
  refine x_lstore 6 hK rfl rfl [(7, .long (J b)), (5, .long (J a)), (0, .ref 3), (1, .long (J a)), (3, .long (J b))] rfl ?_
  refine x_iconst 7 hK rfl rfl ?_
  refine x_istore 9 hK rfl rfl [(9, .int (I 0)), (7, .long (J b)), (5, .long (J a)), (0, .ref 3), (1, .long (J a)), (3, .long (J b))] rfl ?_
  exact loop _ 0 a b _ rfl (by omega) (by omega) ra rb rfl rfl rfl rfl rfl rfl
/-! the class reads a text -/
/-- the sign at place a of the text that is open; -1 at its end -/
def fx (h : aH) (a : Int) : Int := if 0 ≤ a ∧ a < gi h 1 3 ∧ a < 80 then gi h 2 a.toNat else -1
/-- a number of at most n digits from place a on: its value, and where it ends -/
def tkv (f : Int → Int) : Nat → Int → Int → Int × Int
  | 0, a, v => (v, a)
  | n + 1, a, v => if 48 ≤ f a ∧ f a ≤ 57 then tkv f n (a + 1) (v * 10 + f a - 48) else (v, a)
theorem fx_r {sh : List (Nat × Nat)} {h : aH} (hG : GD gE gRL sh h) (a : Int) : -1 ≤ fx h a ∧ fx h a ≤ 65535 := by
  unfold fx
  split
  · rename_i c
    have := grn 0 65535 hG (a := 2) (r := 2) (k := a.toNat) rfl rfl (by omega)
    omega
  · omega
theorem ctX9_next {SP : CT} (hSP : MONO SP) {sh : List (Nat × Nat)} {h : aH} (hG : GD gE gRL sh h) : CLd SP 1 mX9_next [.ref 1] h 0 0 (fun rv h' => h' = h ∧ rv = some (.int (I (fx h (gi h 1 2))))) := by
  refine x_met _ rfl (Nat.le_of_ble_eq_true rfl) (fun K hK => ?_)
  have hmono := MONO_CLd hSP 0
  have g2 := gi_r h 1 2
  have g3 := gi_r h 1 3
  refine x_aload_n 1 hK rfl rfl rfl ?_
  refine x_getE 4 hK rfl (Or.inl rfl) rfl (sp_1 (h := h) hG) (e := (gi h 1 2)) (rfl) ?_
  refine x_if_lt 39 7 hK rfl rfl rfl (by omega) (fun c3 => ?_) (fun c3 => ?_)
  · refine x_iconst 40 hK rfl rfl ?_
    refine x_iret hK rfl ⟨rfl, ?_⟩
    unfold fx
    rw [if_neg (by omega)]
  · refine x_aload_n 8 hK rfl rfl rfl ?_
    refine x_getE 11 hK rfl (Or.inl rfl) rfl (sp_1 (h := h) hG) (e := (gi h 1 2)) (rfl) ?_
    refine x_aload_n 12 hK rfl rfl rfl ?_
    refine x_getE 15 hK rfl (Or.inl rfl) rfl (sp_1 (h := h) hG) (e := (gi h 1 3)) (rfl) ?_
    refine x_if_icmp_ge 39 18 hK rfl rfl rfl (by omega) (by omega) (fun c10 => ?_) (fun c10 => ?_)
    · refine x_iconst 40 hK rfl rfl ?_
      refine x_iret hK rfl ⟨rfl, ?_⟩
      unfold fx
      rw [if_neg (by omega)]
    · refine x_aload_n 19 hK rfl rfl rfl ?_
      refine x_getE 22 hK rfl (Or.inl rfl) rfl (sp_1 (h := h) hG) (e := (gi h 1 2)) (rfl) ?_
      refine x_bipush 24 hK rfl rfl rfl ?_
      refine x_if_icmp_ge 39 27 hK rfl rfl rfl (by omega) (by omega) (fun c16 => ?_) (fun c16 => ?_)
      · refine x_iconst 40 hK rfl rfl ?_
        refine x_iret hK rfl ⟨rfl, ?_⟩
        unfold fx
        rw [if_neg (by omega)]
      · refine x_aload_n 28 hK rfl rfl rfl ?_
        refine x_getR 31 hK rfl rfl (sp_1 (h := h) hG) (rf_1_0 (h := h) hG) ?_
        refine x_aload_n 32 hK rfl rfl rfl ?_
        refine x_getE 35 hK rfl (Or.inl rfl) rfl (sp_1 (h := h) hG) (e := (gi h 1 2)) (rfl) ?_
        refine x_caloadE 36 hK rfl rfl (sp_2 (h := h) hG) (by omega) (by omega) (by omega) (e' := (gi h 2 (gi h 1 2).toNat)) (rfl) ?_
        refine x_goto 40 hK rfl rfl ?_
        refine x_iret hK rfl ⟨rfl, ?_⟩
        unfold fx
        rw [if_pos (by omega)]
theorem ctX10_isDigit {SP : CT} (hSP : MONO SP) {h : aH} {s : Int} (hs : r32 s) : CLd SP 1 mX10_isDigit [.int (I s)] h 0 0 (fun rv h' => h' = h ∧ ((rv = some (.int (I 1)) ∧ 48 ≤ s ∧ s ≤ 57) ∨ (rv = some (.int (I 0)) ∧ ¬ (48 ≤ s ∧ s ≤ 57)))) := by
  refine x_met _ rfl (Nat.le_of_ble_eq_true rfl) (fun K hK => ?_)
  have hmono := MONO_CLd hSP 0
  refine x_iload_n 1 hK rfl rfl rfl ?_
  refine x_bipush 3 hK rfl rfl rfl ?_
  refine x_if_icmp_lt 16 6 hK rfl rfl rfl (by omega) (by omega) (fun c3 => ?_) (fun c3 => ?_)
  · refine x_iconst 17 hK rfl rfl ?_
    exact x_zret hK rfl (by omega) ⟨rfl, Or.inr ⟨rfl, by omega⟩⟩
  · refine x_iload_n 7 hK rfl rfl rfl ?_
    refine x_bipush 9 hK rfl rfl rfl ?_
    refine x_if_icmp_gt 16 12 hK rfl rfl rfl (by omega) (by omega) (fun c8 => ?_) (fun c8 => ?_)
    · refine x_iconst 17 hK rfl rfl ?_
      exact x_zret hK rfl (by omega) ⟨rfl, Or.inr ⟨rfl, by omega⟩⟩
    · refine x_iconst 13 hK rfl rfl ?_
      refine x_goto 17 hK rfl rfl ?_
      exact x_zret hK rfl (by omega) ⟨rfl, Or.inl ⟨rfl, by omega, by omega⟩⟩
theorem ctX9_ended {SP : CT} (hSP : MONO SP) {sh : List (Nat × Nat)} {h : aH} (hG : GD gE gRL sh h) : CLd SP 1 mX9_ended [.ref 1] h 0 0 (fun rv h' => h' = h ∧ ((rv = some (.int (I 1)) ∧ gi h 1 3 ≤ gi h 1 2) ∨ (rv = some (.int (I 0)) ∧ gi h 1 2 < gi h 1 3))) := by
  refine x_met _ rfl (Nat.le_of_ble_eq_true rfl) (fun K hK => ?_)
  have hmono := MONO_CLd hSP 0
  have g2 := gi_r h 1 2
  have g3 := gi_r h 1 3
  refine x_aload_n 1 hK rfl rfl rfl ?_
  refine x_getE 4 hK rfl (Or.inl rfl) rfl (sp_1 (h := h) hG) (e := (gi h 1 2)) (rfl) ?_
  refine x_aload_n 5 hK rfl rfl rfl ?_
  refine x_getE 8 hK rfl (Or.inl rfl) rfl (sp_1 (h := h) hG) (e := (gi h 1 3)) (rfl) ?_
  refine x_if_icmp_lt 15 11 hK rfl rfl rfl (by omega) (by omega) (fun c5 => ?_) (fun c5 => ?_)
  · refine x_iconst 16 hK rfl rfl ?_
    exact x_zret hK rfl (by omega) ⟨rfl, Or.inr ⟨rfl, by omega⟩⟩
  · refine x_iconst 12 hK rfl rfl ?_
    refine x_goto 16 hK rfl rfl ?_
    exact x_zret hK rfl (by omega) ⟨rfl, Or.inl ⟨rfl, by omega⟩⟩
theorem tkv_step {f : Int → Int} {n : Nat} {a v : Int} (h : 48 ≤ f a ∧ f a ≤ 57) : tkv f (n + 1) a v = tkv f n (a + 1) (v * 10 + f a - 48) := by
  show (if _ then _ else _) = _
  rw [if_pos h]
theorem tkv_stop {f : Int → Int} {n : Nat} {a v : Int} (h : ¬ (48 ≤ f a ∧ f a ≤ 57)) : tkv f n a v = (v, a) := by
  cases n with
  | zero => rfl
  | succ n =>
    show (if _ then _ else _) = _
    rw [if_neg h]
theorem ctX9_takeNumber {SP : CT} (hSP : MONO SP) {sh : List (Nat × Nat)} {h : aH} (hG : GD gE gRL sh h) {n : Int} (hn : 1 ≤ n ∧ n ≤ 3) : CLd SP 3 mX9_takeNumber [.ref 1, .int (I n)] h 0 0 (fun rv h' => (∃ e, rv = some (.int (I e)) ∧ (e = if (tkv (fx h) n.toNat (gi h 1 2) 0).2 = gi h 1 2 then -1 else (tkv (fx h) n.toNat (gi h 1 2) 0).1) ∧ (e = -1 ∨ (0 ≤ e ∧ (n = 1 → e ≤ 9) ∧ (n = 2 → e ≤ 99) ∧ e ≤ 999))) ∧ GD gE gRL sh h' ∧ FRM gRL [(0, 1, 2, 2), (0, 1, 5, 5)] h h' ∧ gi h' 1 2 = (tkv (fx h) n.toNat (gi h 1 2) 0).2 ∧ (gi h' 1 5 = 0 ∨ gi h' 1 5 = 1) ∧ (gi h' 1 5 = 1 ↔ (gi h' 1 2 < gi h 1 2 + n ∧ gi h 1 4 = 1 ∧ gi h 1 3 ≤ gi h' 1 2))) := by
  refine x_met _ rfl (Nat.le_of_ble_eq_true rfl) (fun K hK => ?_)
  have hmono := MONO_CLd hSP 2
  have g2 := gi_r h 1 2
  have g3 := gi_r h 1 3
  have g4 := gri 0 1 hG (a := 1) (r := 1) (k := 4) rfl rfl
  have g3b := gri 0 76 hG (a := 1) (r := 1) (k := 3) rfl rfl
  have loop : ∀ (m : Nat) (r v : Int) (h1 : aH) (ls : List (Nat × Value)), ((n - r).toNat = m) → 0 ≤ r → r ≤ n → (0 ≤ v ∧ (r = 0 → v = 0) ∧ (r = 1 → v ≤ 9) ∧ (r = 2 → v ≤ 99) ∧ v ≤ 999) → tkv (fx h) m (gi h 1 2 + r) v = tkv (fx h) n.toNat (gi h 1 2) 0 → gi h1 1 2 = gi h 1 2 + r → (r = 0 ∨ gi h 1 2 + r ≤ 80) → lk ls 0 = some (.ref 1) → lk ls 1 = some (.int (I n)) → lk ls 2 = some (.int (I v)) → lk ls 3 = some (.int (I r)) → GD gE gRL sh h1 → FRM gRL [(0, 1, 2, 2), (0, 1, 5, 5)] h h1 → K 4 ls [] h1 0 0 := by
    intro m
    induction m with
    | zero =>
      intro r v h1 ls hm h0 hr hv htk hat h80 l0 l1 l2 l3 hG1 hF
      have hrn : r = n := by omega
      have f3 : gi h1 1 3 = gi h 1 3 := FRM_gi hF (r := 1) rfl rfl
      have f4 : gi h1 1 4 = gi h 1 4 := FRM_gi hF (r := 1) rfl rfl
      have e1 : (v, gi h 1 2 + r) = tkv (fx h) n.toNat (gi h 1 2) 0 := htk

      refine x_iload_n 5 hK rfl rfl l3 ?_
      refine x_iload_n 6 hK rfl rfl l1 ?_
      refine x_if_icmp_ge 48 9 hK rfl rfl rfl (by omega) (by omega) (fun _ => ?_) (fun c => by omega)
      refine x_aload_n 49 hK rfl rfl l0 ?_
      refine x_iload_n 50 hK rfl rfl l3 ?_
      refine x_iload_n 51 hK rfl rfl l1 ?_
      refine x_if_icmp_ge 72 54 hK rfl rfl rfl (by omega) (by omega) (fun c4 => ?_) (fun c4 => ?_)
      · refine x_iconst 73 hK rfl rfl ?_
        refine x_putZ 76 hK rfl rfl (sp_1 (h := h1) hG1) (by omega) ?_
        refine x_iload_n 77 hK rfl rfl l3 ?_
        refine x_if_ne 84 80 hK rfl rfl rfl (by omega) (fun c8 => ?_) (fun c8 => ?_)
        · refine x_iload_n 85 hK rfl rfl l2 ?_
          refine x_iret hK rfl ?_
          rw [← e1]
          refine ⟨⟨v, rfl, ?_, by omega⟩, GD_w1 (hG1) (r := 1) rfl (by omega) rfl (by omega) (by omega), FRM_w (hF) (r := 1) rfl rfl, ?_, ?_, ?_⟩
          · first | (rw [if_pos (by show _ + _ = _; omega)]; done) | (rw [if_neg (by show ¬ (_ + _ = _); omega)]; done)
          · rw [gi_k (by decide)]; exact hat
          · rw [gi_same (by omega)]; omega
          · rw [gi_same (by omega), gi_k (by decide), hat]; omega
        · refine x_iconst 81 hK rfl rfl ?_
          refine x_goto 85 hK rfl rfl ?_
          refine x_iret hK rfl ?_
          rw [← e1]
          refine ⟨⟨(-1), rfl, ?_, by omega⟩, GD_w1 (hG1) (r := 1) rfl (by omega) rfl (by omega) (by omega), FRM_w (hF) (r := 1) rfl rfl, ?_, ?_, ?_⟩
          · first | (rw [if_pos (by show _ + _ = _; omega)]; done) | (rw [if_neg (by show ¬ (_ + _ = _); omega)]; done)
          · rw [gi_k (by decide)]; exact hat
          · rw [gi_same (by omega)]; omega
          · rw [gi_same (by omega), gi_k (by decide), hat]; omega
      · refine x_aload_n 55 hK rfl rfl l0 ?_
        refine x_getE 58 hK rfl (Or.inr rfl) rfl (sp_1 (h := h1) hG1) (e := (gi h 1 4)) (f4) ?_
        refine x_if_eq 72 61 hK rfl rfl rfl (by omega) (fun c16 => ?_) (fun c16 => ?_)
        · refine x_iconst 73 hK rfl rfl ?_
          refine x_putZ 76 hK rfl rfl (sp_1 (h := h1) hG1) (by omega) ?_
          refine x_iload_n 77 hK rfl rfl l3 ?_
          refine x_if_ne 84 80 hK rfl rfl rfl (by omega) (fun c20 => ?_) (fun c20 => ?_)
          · refine x_iload_n 85 hK rfl rfl l2 ?_
            refine x_iret hK rfl ?_
            rw [← e1]
            refine ⟨⟨v, rfl, ?_, by omega⟩, GD_w1 (hG1) (r := 1) rfl (by omega) rfl (by omega) (by omega), FRM_w (hF) (r := 1) rfl rfl, ?_, ?_, ?_⟩
            · first | (rw [if_pos (by show _ + _ = _; omega)]; done) | (rw [if_neg (by show ¬ (_ + _ = _); omega)]; done)
            · rw [gi_k (by decide)]; exact hat
            · rw [gi_same (by omega)]; omega
            · rw [gi_same (by omega), gi_k (by decide), hat]; omega
          · refine x_iconst 81 hK rfl rfl ?_
            refine x_goto 85 hK rfl rfl ?_
            refine x_iret hK rfl ?_
            rw [← e1]
            refine ⟨⟨(-1), rfl, ?_, by omega⟩, GD_w1 (hG1) (r := 1) rfl (by omega) rfl (by omega) (by omega), FRM_w (hF) (r := 1) rfl rfl, ?_, ?_, ?_⟩
            · first | (rw [if_pos (by show _ + _ = _; omega)]; done) | (rw [if_neg (by show ¬ (_ + _ = _); omega)]; done)
            · rw [gi_k (by decide)]; exact hat
            · rw [gi_same (by omega)]; omega
            · rw [gi_same (by omega), gi_k (by decide), hat]; omega
        · refine x_aload_n 62 hK rfl rfl l0 ?_
          refine x_callV 65 hK hmono rfl rfl [.ref 1] [.ref 1] rfl rfl (Nat.le_of_ble_eq_true rfl) (Nat.le_of_ble_eq_true rfl) rfl (sp_1 (h := h1) hG1) (CLd_le (Nat.le_of_ble_eq_true rfl) (ctX9_ended hSP hG1)) ?_
          rintro v9 h9 ⟨e9, ⟨rfl, j1⟩ | ⟨rfl, j1⟩⟩ <;> rw [e9] <;> clear e9
          · refine x_if_eq 72 68 hK rfl rfl rfl (by omega) (fun c => by omega) (fun _ => ?_)
            refine x_iconst 69 hK rfl rfl ?_
            refine x_goto 73 hK rfl rfl ?_
            refine x_putZ 76 hK rfl rfl (sp_1 (h := h1) hG1) (by omega) ?_
            refine x_iload_n 77 hK rfl rfl l3 ?_
            refine x_if_ne 84 80 hK rfl rfl rfl (by omega) (fun c33 => ?_) (fun c33 => ?_)
            · refine x_iload_n 85 hK rfl rfl l2 ?_
              refine x_iret hK rfl ?_
              rw [← e1]
              refine ⟨⟨v, rfl, ?_, by omega⟩, GD_w1 (hG1) (r := 1) rfl (by omega) rfl (by omega) (by omega), FRM_w (hF) (r := 1) rfl rfl, ?_, ?_, ?_⟩
              · first | (rw [if_pos (by show _ + _ = _; omega)]; done) | (rw [if_neg (by show ¬ (_ + _ = _); omega)]; done)
              · rw [gi_k (by decide)]; exact hat
              · rw [gi_same (by omega)]; omega
              · rw [gi_same (by omega), gi_k (by decide), hat]; omega
            · refine x_iconst 81 hK rfl rfl ?_
              refine x_goto 85 hK rfl rfl ?_
              refine x_iret hK rfl ?_
              rw [← e1]
              refine ⟨⟨(-1), rfl, ?_, by omega⟩, GD_w1 (hG1) (r := 1) rfl (by omega) rfl (by omega) (by omega), FRM_w (hF) (r := 1) rfl rfl, ?_, ?_, ?_⟩
              · first | (rw [if_pos (by show _ + _ = _; omega)]; done) | (rw [if_neg (by show ¬ (_ + _ = _); omega)]; done)
              · rw [gi_k (by decide)]; exact hat
              · rw [gi_same (by omega)]; omega
              · rw [gi_same (by omega), gi_k (by decide), hat]; omega
          · refine x_if_eq 72 68 hK rfl rfl rfl (by omega) (fun _ => ?_) (fun c => by omega)
            refine x_iconst 73 hK rfl rfl ?_
            refine x_putZ 76 hK rfl rfl (sp_1 (h := h1) hG1) (by omega) ?_
            refine x_iload_n 77 hK rfl rfl l3 ?_
            refine x_if_ne 84 80 hK rfl rfl rfl (by omega) (fun c43 => ?_) (fun c43 => ?_)
            · refine x_iload_n 85 hK rfl rfl l2 ?_
              refine x_iret hK rfl ?_
              rw [← e1]
              refine ⟨⟨v, rfl, ?_, by omega⟩, GD_w1 (hG1) (r := 1) rfl (by omega) rfl (by omega) (by omega), FRM_w (hF) (r := 1) rfl rfl, ?_, ?_, ?_⟩
              · first | (rw [if_pos (by show _ + _ = _; omega)]; done) | (rw [if_neg (by show ¬ (_ + _ = _); omega)]; done)
              · rw [gi_k (by decide)]; exact hat
              · rw [gi_same (by omega)]; omega
              · rw [gi_same (by omega), gi_k (by decide), hat]; omega
            · refine x_iconst 81 hK rfl rfl ?_
              refine x_goto 85 hK rfl rfl ?_
              refine x_iret hK rfl ?_
              rw [← e1]
              refine ⟨⟨(-1), rfl, ?_, by omega⟩, GD_w1 (hG1) (r := 1) rfl (by omega) rfl (by omega) (by omega), FRM_w (hF) (r := 1) rfl rfl, ?_, ?_, ?_⟩
              · first | (rw [if_pos (by show _ + _ = _; omega)]; done) | (rw [if_neg (by show ¬ (_ + _ = _); omega)]; done)
              · rw [gi_k (by decide)]; exact hat
              · rw [gi_same (by omega)]; omega
              · rw [gi_same (by omega), gi_k (by decide), hat]; omega
    | succ m ih =>
      intro r v h1 ls hm h0 hr hv htk hat h80 l0 l1 l2 l3 hG1 hF
      have f3 : gi h1 1 3 = gi h 1 3 := FRM_gi hF (r := 1) rfl rfl
      have f4 : gi h1 1 4 = gi h 1 4 := FRM_gi hF (r := 1) rfl rfl
      have fs : ∀ j, gi h1 2 j = gi h 2 j := fun j => FRM_gi hF (r := 2) rfl rfl
      have hfx : fx h1 (gi h1 1 2) = fx h (gi h 1 2 + r) := by unfold fx; rw [hat, f3, fs]
      have hfr := fx_r hG (gi h 1 2 + r)
      have hin : fx h (gi h 1 2 + r) ≠ -1 → 0 ≤ gi h 1 2 + r ∧ gi h 1 2 + r < 80 := fun z => by
        unfold fx at z
        by_cases c : 0 ≤ gi h 1 2 + r ∧ gi h 1 2 + r < gi h 1 3 ∧ gi h 1 2 + r < 80
        · omega
        · rw [if_neg c] at z; exact absurd rfl z
      have hst := fun z => tkv_step (f := fx h) (n := m) (a := gi h 1 2 + r) (v := v) z
      have hsp := fun z => tkv_stop (f := fx h) (n := m + 1) (a := gi h 1 2 + r) (v := v) z
      generalize fx h (gi h 1 2 + r) = s at *
      refine x_iload_n 5 hK rfl rfl l3 ?_
      refine x_iload_n 6 hK rfl rfl l1 ?_
      refine x_if_icmp_ge 48 9 hK rfl rfl rfl (by omega) (by omega) (fun c => by omega) (fun _ => ?_)
      refine x_aload_n 10 hK rfl rfl l0 ?_
      refine x_callV 13 hK hmono rfl rfl [.ref 1] [] rfl rfl (Nat.le_of_ble_eq_true rfl) (Nat.le_of_ble_eq_true rfl) rfl (sp_1 (h := h1) hG1) (CLd_le (Nat.le_of_ble_eq_true rfl) (ctX9_next hSP hG1)) ?_
      rintro v9 h9 ⟨e9, rfl⟩
      rw [e9, hfx]
      clear e9
      refine x_callS 16 hK hmono rfl (Or.inr rfl) rfl [.int (I s)] [] rfl rfl (Nat.le_of_ble_eq_true rfl) (Nat.le_of_ble_eq_true rfl) (CLd_le (Nat.le_of_ble_eq_true rfl) (ctX10_isDigit hSP (by omega))) ?_
      rintro v9 h9 ⟨e9, ⟨rfl, i1, i2⟩ | ⟨rfl, i1⟩⟩ <;> rw [e9] <;> clear e9
      · refine x_if_eq 48 19 hK rfl rfl rfl (by omega) (fun c => by omega) (fun _ => ?_)
        refine x_iload_n 20 hK rfl rfl l2 ?_
        refine x_bipush 22 hK rfl rfl rfl ?_
        refine x_imul 23 hK rfl rfl ?_
        refine x_aload_n 24 hK rfl rfl l0 ?_
        refine x_callV 27 hK hmono rfl rfl [.ref 1] [.int (I (v * 10))] rfl rfl (Nat.le_of_ble_eq_true rfl) (Nat.le_of_ble_eq_true rfl) rfl (sp_1 (h := h1) hG1) (CLd_le (Nat.le_of_ble_eq_true rfl) (ctX9_next hSP hG1)) ?_
        rintro v9 h9 ⟨e9, rfl⟩
        rw [e9, hfx]
        clear e9
        refine x_iadd 28 hK rfl rfl ?_
        refine x_bipush 30 hK rfl rfl rfl ?_
        refine x_isub 31 hK rfl rfl ?_
        refine x_istore_n 32 hK rfl rfl _ rfl ?_
        refine x_aload_n 33 hK rfl rfl (lk1_n l0 (by decide) (Or.inl rfl)) ?_
        refine x_dup 34 hK rfl rfl rfl ?_
        refine x_getE 37 hK rfl (Or.inl rfl) rfl (sp_1 (h := h1) hG1) (e := (gi h 1 2 + r)) (hat) ?_
        refine x_iconst 38 hK rfl rfl ?_
        refine x_iadd 39 hK rfl rfl ?_
        refine x_putI 42 hK rfl rfl (sp_1 (h := h1) hG1) ?_
        refine x_iinc 45 hK rfl rfl (lk1_n l3 (by decide) (Or.inl rfl)) _ rfl ?_
        refine x_goto 4 hK rfl rfl ?_
        refine ih (r + 1) _ _ _ (by omega) (by omega) (by omega) (by omega) ?_ ((gi_same (by omega)).trans (by omega)) (by omega) (lk1_n (lk1_n l0 (by decide) (Or.inl rfl)) (by decide) (Or.inl rfl)) (lk1_n (lk1_n l1 (by decide) (Or.inl rfl)) (by decide) (Or.inl rfl)) (lk1_n lk1_s (by decide) (Or.inl rfl)) lk1_s (GD_w0 (hG1) (r := 1) rfl rfl) (FRM_w (hF) (r := 1) rfl rfl)
        rw [← htk, hst ⟨i1, i2⟩, show gi h 1 2 + (r + 1) = gi h 1 2 + r + 1 by omega]
      · refine x_if_eq 48 19 hK rfl rfl rfl (by omega) (fun _ => ?_) (fun c => by omega)
        have e1 : (v, gi h 1 2 + r) = tkv (fx h) n.toNat (gi h 1 2) 0 := (hsp (by omega)).symm.trans htk
        refine x_aload_n 49 hK rfl rfl l0 ?_
        refine x_iload_n 50 hK rfl rfl l3 ?_
        refine x_iload_n 51 hK rfl rfl l1 ?_
        refine x_if_icmp_ge 72 54 hK rfl rfl rfl (by omega) (by omega) (fun c28 => ?_) (fun c28 => ?_)
        · refine x_iconst 73 hK rfl rfl ?_
          refine x_putZ 76 hK rfl rfl (sp_1 (h := h1) hG1) (by omega) ?_
          refine x_iload_n 77 hK rfl rfl l3 ?_
          refine x_if_ne 84 80 hK rfl rfl rfl (by omega) (fun c32 => ?_) (fun c32 => ?_)
          · refine x_iload_n 85 hK rfl rfl l2 ?_
            refine x_iret hK rfl ?_
            rw [← e1]
            refine ⟨⟨v, rfl, ?_, by omega⟩, GD_w1 (hG1) (r := 1) rfl (by omega) rfl (by omega) (by omega), FRM_w (hF) (r := 1) rfl rfl, ?_, ?_, ?_⟩
            · first | (rw [if_pos (by show _ + _ = _; omega)]; done) | (rw [if_neg (by show ¬ (_ + _ = _); omega)]; done)
            · rw [gi_k (by decide)]; exact hat
            · rw [gi_same (by omega)]; omega
            · rw [gi_same (by omega), gi_k (by decide), hat]; omega
          · refine x_iconst 81 hK rfl rfl ?_
            refine x_goto 85 hK rfl rfl ?_
            refine x_iret hK rfl ?_
            rw [← e1]
            refine ⟨⟨(-1), rfl, ?_, by omega⟩, GD_w1 (hG1) (r := 1) rfl (by omega) rfl (by omega) (by omega), FRM_w (hF) (r := 1) rfl rfl, ?_, ?_, ?_⟩
            · first | (rw [if_pos (by show _ + _ = _; omega)]; done) | (rw [if_neg (by show ¬ (_ + _ = _); omega)]; done)
            · rw [gi_k (by decide)]; exact hat
            · rw [gi_same (by omega)]; omega
            · rw [gi_same (by omega), gi_k (by decide), hat]; omega
        · refine x_aload_n 55 hK rfl rfl l0 ?_
          refine x_getE 58 hK rfl (Or.inr rfl) rfl (sp_1 (h := h1) hG1) (e := (gi h 1 4)) (f4) ?_
          refine x_if_eq 72 61 hK rfl rfl rfl (by omega) (fun c40 => ?_) (fun c40 => ?_)
          · refine x_iconst 73 hK rfl rfl ?_
            refine x_putZ 76 hK rfl rfl (sp_1 (h := h1) hG1) (by omega) ?_
            refine x_iload_n 77 hK rfl rfl l3 ?_
            refine x_if_ne 84 80 hK rfl rfl rfl (by omega) (fun c44 => ?_) (fun c44 => ?_)
            · refine x_iload_n 85 hK rfl rfl l2 ?_
              refine x_iret hK rfl ?_
              rw [← e1]
              refine ⟨⟨v, rfl, ?_, by omega⟩, GD_w1 (hG1) (r := 1) rfl (by omega) rfl (by omega) (by omega), FRM_w (hF) (r := 1) rfl rfl, ?_, ?_, ?_⟩
              · first | (rw [if_pos (by show _ + _ = _; omega)]; done) | (rw [if_neg (by show ¬ (_ + _ = _); omega)]; done)
              · rw [gi_k (by decide)]; exact hat
              · rw [gi_same (by omega)]; omega
              · rw [gi_same (by omega), gi_k (by decide), hat]; omega
            · refine x_iconst 81 hK rfl rfl ?_
              refine x_goto 85 hK rfl rfl ?_
              refine x_iret hK rfl ?_
              rw [← e1]
              refine ⟨⟨(-1), rfl, ?_, by omega⟩, GD_w1 (hG1) (r := 1) rfl (by omega) rfl (by omega) (by omega), FRM_w (hF) (r := 1) rfl rfl, ?_, ?_, ?_⟩
              · first | (rw [if_pos (by show _ + _ = _; omega)]; done) | (rw [if_neg (by show ¬ (_ + _ = _); omega)]; done)
              · rw [gi_k (by decide)]; exact hat
              · rw [gi_same (by omega)]; omega
              · rw [gi_same (by omega), gi_k (by decide), hat]; omega
          · refine x_aload_n 62 hK rfl rfl l0 ?_
            refine x_callV 65 hK hmono rfl rfl [.ref 1] [.ref 1] rfl rfl (Nat.le_of_ble_eq_true rfl) (Nat.le_of_ble_eq_true rfl) rfl (sp_1 (h := h1) hG1) (CLd_le (Nat.le_of_ble_eq_true rfl) (ctX9_ended hSP hG1)) ?_
            rintro v9 h9 ⟨e9, ⟨rfl, j1⟩ | ⟨rfl, j1⟩⟩ <;> rw [e9] <;> clear e9
            · refine x_if_eq 72 68 hK rfl rfl rfl (by omega) (fun c => by omega) (fun _ => ?_)
              refine x_iconst 69 hK rfl rfl ?_
              refine x_goto 73 hK rfl rfl ?_
              refine x_putZ 76 hK rfl rfl (sp_1 (h := h1) hG1) (by omega) ?_
              refine x_iload_n 77 hK rfl rfl l3 ?_
              refine x_if_ne 84 80 hK rfl rfl rfl (by omega) (fun c57 => ?_) (fun c57 => ?_)
              · refine x_iload_n 85 hK rfl rfl l2 ?_
                refine x_iret hK rfl ?_
                rw [← e1]
                refine ⟨⟨v, rfl, ?_, by omega⟩, GD_w1 (hG1) (r := 1) rfl (by omega) rfl (by omega) (by omega), FRM_w (hF) (r := 1) rfl rfl, ?_, ?_, ?_⟩
                · first | (rw [if_pos (by show _ + _ = _; omega)]; done) | (rw [if_neg (by show ¬ (_ + _ = _); omega)]; done)
                · rw [gi_k (by decide)]; exact hat
                · rw [gi_same (by omega)]; omega
                · rw [gi_same (by omega), gi_k (by decide), hat]; omega
              · refine x_iconst 81 hK rfl rfl ?_
                refine x_goto 85 hK rfl rfl ?_
                refine x_iret hK rfl ?_
                rw [← e1]
                refine ⟨⟨(-1), rfl, ?_, by omega⟩, GD_w1 (hG1) (r := 1) rfl (by omega) rfl (by omega) (by omega), FRM_w (hF) (r := 1) rfl rfl, ?_, ?_, ?_⟩
                · first | (rw [if_pos (by show _ + _ = _; omega)]; done) | (rw [if_neg (by show ¬ (_ + _ = _); omega)]; done)
                · rw [gi_k (by decide)]; exact hat
                · rw [gi_same (by omega)]; omega
                · rw [gi_same (by omega), gi_k (by decide), hat]; omega
            · refine x_if_eq 72 68 hK rfl rfl rfl (by omega) (fun _ => ?_) (fun c => by omega)
              refine x_iconst 73 hK rfl rfl ?_
              refine x_putZ 76 hK rfl rfl (sp_1 (h := h1) hG1) (by omega) ?_
              refine x_iload_n 77 hK rfl rfl l3 ?_
              refine x_if_ne 84 80 hK rfl rfl rfl (by omega) (fun c67 => ?_) (fun c67 => ?_)
              · refine x_iload_n 85 hK rfl rfl l2 ?_
                refine x_iret hK rfl ?_
                rw [← e1]
                refine ⟨⟨v, rfl, ?_, by omega⟩, GD_w1 (hG1) (r := 1) rfl (by omega) rfl (by omega) (by omega), FRM_w (hF) (r := 1) rfl rfl, ?_, ?_, ?_⟩
                · first | (rw [if_pos (by show _ + _ = _; omega)]; done) | (rw [if_neg (by show ¬ (_ + _ = _); omega)]; done)
                · rw [gi_k (by decide)]; exact hat
                · rw [gi_same (by omega)]; omega
                · rw [gi_same (by omega), gi_k (by decide), hat]; omega
              · refine x_iconst 81 hK rfl rfl ?_
                refine x_goto 85 hK rfl rfl ?_
                refine x_iret hK rfl ?_
                rw [← e1]
                refine ⟨⟨(-1), rfl, ?_, by omega⟩, GD_w1 (hG1) (r := 1) rfl (by omega) rfl (by omega) (by omega), FRM_w (hF) (r := 1) rfl rfl, ?_, ?_, ?_⟩
                · first | (rw [if_pos (by show _ + _ = _; omega)]; done) | (rw [if_neg (by show ¬ (_ + _ = _); omega)]; done)
                · rw [gi_k (by decide)]; exact hat
                · rw [gi_same (by omega)]; omega
                · rw [gi_same (by omega), gi_k (by decide), hat]; omega
  refine x_iconst 1 hK rfl rfl ?_
  refine x_istore_n 2 hK rfl rfl [(2, .int (I 0)), (0, .ref 1), (1, .int (I n))] rfl ?_
  refine x_iconst 3 hK rfl rfl ?_
  refine x_istore_n 4 hK rfl rfl [(3, .int (I 0)), (2, .int (I 0)), (0, .ref 1), (1, .int (I n))] rfl ?_
  exact loop _ 0 0 h _ rfl (by omega) (by omega) (by omega) (by rw [Int.add_zero, Int.sub_zero]) (by omega) (by omega) rfl rfl rfl rfl hG FRM.rf
