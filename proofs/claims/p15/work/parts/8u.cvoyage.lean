/-! A VOYAGE OF THE CLASS -/
theorem act_l (s : Int) : fidx s actJ 0 = if s = 60 then 0 else if s = 61 then 1 else if s = 62 then 2 else if s = 112 then 3 else if 49 ≤ s ∧ s ≤ 57 then s - 45 else -1 := by
  by_cases c : 49 ≤ s ∧ s ≤ 57
  · rw [if_neg (by omega), if_neg (by omega), if_neg (by omega), if_neg (by omega), if_pos c]
    obtain ⟨n, hn, rfl⟩ : ∃ n : Nat, n < 9 ∧ s = 49 + (n : Int) := ⟨(s - 49).toNat, by omega, by omega⟩
    have : ∀ n : Nat, n < 9 → fidx (49 + (n : Int)) actJ 0 = 49 + (n : Int) - 45 := by decide
    exact this n hn
  · by_cases d : s = 60 ∨ s = 61 ∨ s = 62 ∨ s = 112
    · rcases d with rfl | rfl | rfl | rfl <;> decide
    · rw [if_neg (by omega), if_neg (by omega), if_neg (by omega), if_neg (by omega), if_neg c]
      refine fidx_e _ _ fun d hd => ?_
      have : ∀ d ∈ actJ, d.toInt = 60 ∨ d.toInt = 61 ∨ d.toInt = 62 ∨ d.toInt = 112 ∨ (49 ≤ d.toInt ∧ d.toInt ≤ 57) := by decide
      have := this d hd
      omega
theorem act_o {f : Int → Int} {p : Int} (h : 60 ≤ f p ∧ f p ≤ 62) : rdAct f p = ((true, p + 1), 0, f p - 61) := by
  have e : fidx (f p) actJ 0 = f p - 60 := by
    rw [act_l]
    by_cases a : f p = 60
    · rw [if_pos a]; omega
    · by_cases b : f p = 61
      · rw [if_neg a, if_pos b]; omega
      · rw [if_neg a, if_neg b, if_pos (by omega)]; omega
  unfold rdAct
  rw [e, if_neg (by omega), if_pos (by omega), show f p - 60 - 1 = f p - 61 by omega]
theorem act_d {f : Int → Int} {p : Int} (h : 49 ≤ f p ∧ f p ≤ 57) : rdAct f p = ((true, p + 1), 2, f p - 48) := by
  have e : fidx (f p) actJ 0 = f p - 45 := by rw [act_l, if_neg (by omega), if_neg (by omega), if_neg (by omega), if_neg (by omega), if_pos h]
  unfold rdAct
  rw [e, if_neg (by omega), if_neg (by omega), if_neg (by omega), show f p - 45 - 3 = f p - 48 by omega]
theorem act_p {f : Int → Int} {p : Int} (h : f p = 112) : rdAct f p = ((decide (0 ≤ (nmF f 1 (p + 1)).1), (nmF f 1 (p + 1)).2), 1, (nmF f 1 (p + 1)).1) := by
  have e : fidx (f p) actJ 0 = 3 := by rw [act_l, if_neg (by omega), if_neg (by omega), if_neg (by omega), if_pos h]
  unfold rdAct
  rw [e, if_neg (by omega), if_neg (by omega), if_pos rfl]
theorem act_n {f : Int → Int} {p : Int} (h : ¬ (60 ≤ f p ∧ f p ≤ 62)) (h1 : f p ≠ 112) (h2 : ¬ (49 ≤ f p ∧ f p ≤ 57)) : rdAct f p = ((false, p), 0, 0) := by
  have e : fidx (f p) actJ 0 = -1 := by rw [act_l, if_neg (by omega), if_neg (by omega), if_neg (by omega), if_neg h1, if_neg h2]
  unfold rdAct
  rw [e, if_pos (by omega)]
theorem rdAs_s (f : Int → Int) (stop : Int) (n : Nat) (p : Int) : rdAs f stop (n + 1) p = if stop ≤ p then ((true, p), []) else if (rdAct f p).1.1 = true then ((rdAs f stop n (rdAct f p).1.2).1, (rdAct f p).2 :: (rdAs f stop n (rdAct f p).1.2).2) else ((false, (rdAct f p).1.2), []) := rfl
theorem nm1_y {f : Int → Int} {p : Int} (h : 48 ≤ f p ∧ f p ≤ 57) : nmF f 1 p = (f p - 48, p + 1) := by
  have e : tkv f 1 p 0 = (0 * 10 + f p - 48, p + 1) := by
    rw [tkv_step h]
    rfl
  unfold nmF
  rw [e, if_neg (by show ¬ p + 1 = p; omega), show 0 * 10 + f p - 48 = f p - 48 by omega]
theorem nm1_n {f : Int → Int} {p : Int} (h : ¬ (48 ≤ f p ∧ f p ≤ 57)) : nmF f 1 p = (-1, p) := by
  have e : tkv f 1 p 0 = (0, p) := by
    show (if 48 ≤ f p ∧ f p ≤ 57 then tkv f 0 (p + 1) (0 * 10 + f p - 48) else (0, p)) = (0, p)
    rw [if_neg h]
  unfold nmF
  rw [e, if_pos rfl]
set_option maxRecDepth 4000 in
theorem ctX10_voyageFaultF {SP : CT} (hSP : MONO SP) {sh : List (Nat × Nat)} {h : aH} (hG : GD gE gRL sh h) {n : Int} (h12 : gi h 1 2 = 0) (h13 : gi h 1 3 = min n 60) (h14 : gi h 1 4 = if 60 < n then 1 else 0) (hn : 0 ≤ n ∧ n ≤ 80) : CLd SP 3 mX10_voyageFault [.ref 0] h 0 0 (fun rv h' => rv = some (.int (I (cfl n 60 (rdAs (fx h) (min n 60) 60 0).1))) ∧ GD gE gRL sh h' ∧ FRM gRL [(0, 1, 2, 2)] h h') := by
  refine x_met _ rfl (Nat.le_of_ble_eq_true rfl) (fun K hK => ?_)
  have hmono := MONO_CLd hSP 2
  have fe0 : ∀ a, min n 60 ≤ a → fx h a = -1 := fun a ha => fx_end h a (by rw [h13]; exact ha)
  obtain ⟨RR, hRR⟩ : ∃ RR, (rdAs (fx h) (min n 60) 60 0) = RR := ⟨_, rfl⟩
  rw [hRR] at hK
  have loop : ∀ (mz : Nat) (i p : Int) (h4 : aH) (ls : List (Nat × Value)), ((60 - i).toNat = mz) → (0 ≤ i ∧ i ≤ 60) → (i ≤ p ∧ p ≤ min n 60) → (gi h4 1 2 = p) → (RR.1 = (rdAs (fx h) (min n 60) (60 - i).toNat p).1) → lk ls 0 = some (.ref 0) → lk ls 1 = some (.int (I i)) → GD gE gRL sh h4 → FRM gRL [(0, 1, 2, 2)] h h4 → K 2 ls [] h4 0 0 := by
    intro mz
    induction mz using Nat.strongRecOn with
    | ind mz ih =>
    intro i p h4 ls hm i0 pi d2 e1 l0 l1 hG4 hF4
    have s3 : gi h4 1 3 = min n 60 := (FRM_gi hF4 (r := 1) rfl rfl).trans h13
    have s4 : gi h4 1 4 = (if 60 < n then (1 : Int) else 0) := (FRM_gi hF4 (r := 1) rfl rfl).trans h14
    have sF : fx h4 = fx h := fx_F hF4 rfl rfl
    have un : i < 60 → ¬ min n 60 ≤ p → RR.1 = if (rdAct (fx h) p).1.1 = true then (rdAs (fx h) (min n 60) (60 - (i + 1)).toNat (rdAct (fx h) p).1.2).1 else (false, (rdAct (fx h) p).1.2) := fun z y => by
      rw [e1, show (60 - i).toNat = (60 - (i + 1)).toNat + 1 by omega, rdAs_s, if_neg y]
      split <;> rfl
    refine x_iload_n 3 hK rfl rfl l1 ?_
    refine x_bipush 5 hK rfl rfl rfl ?_
    refine x_if_icmp_ge 128 8 hK rfl rfl rfl (by omega) (by omega) (fun c3 => ?_) (fun c3 => ?_)
    · refine x_aload_n 129 hK rfl rfl l0 ?_
      refine x_getR 132 hK rfl rfl (sp_0 (h := h4) hG4) (rf_0_0 (h := h4) hG4) ?_
      have to457 : gi h4 1 3 = (min n 60) := s3
      have mo457 : gi h4 1 4 = (if 60 < n then (1 : Int) else 0) := s4
      refine x_callV 135 hK hmono rfl rfl [.ref 1] [] rfl rfl (Nat.le_of_ble_eq_true rfl) (Nat.le_of_ble_eq_true rfl) rfl (sp_1 (h := h4) hG4) (CLd_le (Nat.le_of_ble_eq_true rfl) (ctX9_faultAtEnd hSP hG4)) ?_
      rw [to457, mo457]
      rintro v9 h9 ⟨e9, rfl⟩
      rw [e9]
      clear e9
      have er : RR.1 = (true, p) := by
        rw [e1]
        by_cases z : (60 - i).toNat = 0
        · rw [z]; rfl
        · obtain ⟨k, hk⟩ : ∃ k, (60 - i).toNat = k + 1 := ⟨(60 - i).toNat - 1, by omega⟩
          rw [hk, rdAs_s, if_pos (by omega)]
      have e9 : cfl n 60 RR.1 = (if (if 60 < n then (1 : Int) else 0) = 1 then (min n 60) else -1) := by
        rw [er]
        unfold cfl
        refine (if_pos ⟨rfl, by show p = min n 60; omega⟩).trans ?_
        by_cases z : 60 < n
        · rw [if_pos z, if_pos z, if_pos rfl]
        · rw [if_neg z, if_neg z, if_neg (by decide)]
      exact x_iret hK rfl ⟨by rw [e9], hG4, hF4⟩
    · refine x_aload_n 9 hK rfl rfl l0 ?_
      refine x_getR 12 hK rfl rfl (sp_0 (h := h4) hG4) (rf_0_0 (h := h4) hG4) ?_
      have at458 : gi h4 1 2 = p := d2
      have to458 : gi h4 1 3 = (min n 60) := s3
      refine x_callV 15 hK hmono rfl rfl [.ref 1] [] rfl rfl (Nat.le_of_ble_eq_true rfl) (Nat.le_of_ble_eq_true rfl) rfl (sp_1 (h := h4) hG4) (CLd_le (Nat.le_of_ble_eq_true rfl) (ctX9_ended hSP hG4)) ?_
      rw [at458, to458]
      rintro v9 h9 ⟨e9, ⟨rfl, en458⟩ | ⟨rfl, en458⟩⟩ <;> rw [e9] <;> clear e9
      · refine x_if_ne 128 18 hK rfl rfl rfl (by omega) (fun _ => ?_) (fun c => by omega)
        refine x_aload_n 129 hK rfl rfl l0 ?_
        refine x_getR 132 hK rfl rfl (sp_0 (h := h4) hG4) (rf_0_0 (h := h4) hG4) ?_
        have to459 : gi h4 1 3 = (min n 60) := s3
        have mo459 : gi h4 1 4 = (if 60 < n then (1 : Int) else 0) := s4
        refine x_callV 135 hK hmono rfl rfl [.ref 1] [] rfl rfl (Nat.le_of_ble_eq_true rfl) (Nat.le_of_ble_eq_true rfl) rfl (sp_1 (h := h4) hG4) (CLd_le (Nat.le_of_ble_eq_true rfl) (ctX9_faultAtEnd hSP hG4)) ?_
        rw [to459, mo459]
        rintro v9 h9 ⟨e9, rfl⟩
        rw [e9]
        clear e9
        have er : RR.1 = (true, p) := by
          rw [e1]
          by_cases z : (60 - i).toNat = 0
          · rw [z]; rfl
          · obtain ⟨k, hk⟩ : ∃ k, (60 - i).toNat = k + 1 := ⟨(60 - i).toNat - 1, by omega⟩
            rw [hk, rdAs_s, if_pos (by omega)]
        have e9 : cfl n 60 RR.1 = (if (if 60 < n then (1 : Int) else 0) = 1 then (min n 60) else -1) := by
          rw [er]
          unfold cfl
          refine (if_pos ⟨rfl, by show p = min n 60; omega⟩).trans ?_
          by_cases z : 60 < n
          · rw [if_pos z, if_pos z, if_pos rfl]
          · rw [if_neg z, if_neg z, if_neg (by decide)]
        exact x_iret hK rfl ⟨by rw [e9], hG4, hF4⟩
      · refine x_if_ne 128 18 hK rfl rfl rfl (by omega) (fun c => by omega) (fun _ => ?_)
        refine x_aload_n 19 hK rfl rfl l0 ?_
        refine x_getR 22 hK rfl rfl (sp_0 (h := h4) hG4) (rf_0_0 (h := h4) hG4) ?_
        have at460 : gi h4 1 2 = p := d2
        have fe460 : fx h4 = (fx h) := fx_F hF4 rfl rfl
        refine x_callV 25 hK hmono rfl rfl [.ref 1] [] rfl rfl (Nat.le_of_ble_eq_true rfl) (Nat.le_of_ble_eq_true rfl) rfl (sp_1 (h := h4) hG4) (CLd_le (Nat.le_of_ble_eq_true rfl) (ctX9_next hSP hG4)) ?_
        rw [fe460, at460]
        rintro v9 h9 ⟨e9, rfl⟩
        rw [e9]
        clear e9
        have fr460 := fx_r hG p
        refine x_istore_n 26 hK rfl rfl _ rfl ?_
        refine x_aload_n 27 hK rfl rfl (lk1_n l0 (by decide) (Or.inl rfl)) ?_
        refine x_getR 30 hK rfl rfl (sp_0 (h := h4) hG4) (rf_0_0 (h := h4) hG4) ?_
        refine x_dup 31 hK rfl rfl rfl ?_
        refine x_getE 34 hK rfl (Or.inl rfl) rfl (sp_1 (h := h4) hG4) (e := p) (d2) ?_
        refine x_iconst 35 hK rfl rfl ?_
        refine x_iadd 36 hK rfl rfl ?_
        refine x_putI 39 hK rfl rfl (sp_1 (h := h4) hG4) ?_
        refine x_iload_n 40 hK rfl rfl lk1_s ?_
        refine x_bipush 42 hK rfl rfl rfl ?_
        refine x_if_icmp_ne 82 45 hK rfl rfl rfl (by omega) (by omega) (fun c30 => ?_) (fun c30 => ?_)
        · refine x_iload_n 83 hK rfl rfl lk1_s ?_
          refine x_bipush 85 hK rfl rfl rfl ?_
          refine x_if_icmp_eq 122 88 hK rfl rfl rfl (by omega) (by omega) (fun c33 => ?_) (fun c33 => ?_)
          · refine x_iinc 125 hK rfl rfl (lk1_n l1 (by decide) (Or.inl rfl)) _ rfl ?_
            refine x_goto 2 hK rfl rfl ?_
            obtain ⟨y, ea⟩ : ∃ y, rdAct (fx h) p = ((true, p + 1), y) := by
              by_cases z : 60 ≤ fx h p ∧ fx h p ≤ 62
              · exact ⟨_, act_o z⟩
              · exact ⟨_, act_d (by omega)⟩
            have er := un (by omega) (by omega)
            rw [ea, if_pos (by rfl)] at er
            exact ih _ (by omega) (i + 1) (p + 1) _ _ rfl (by omega) (⟨by omega, by omega⟩) (gi_same (by omega)) (er) (lk1_n (lk1_n l0 (by decide) (Or.inl rfl)) (by decide) (Or.inl rfl)) lk1_s (GD_w0 (hG4) (r := 1) rfl rfl) (FRM_w (hF4) (r := 1) rfl rfl)
          · refine x_iload_n 89 hK rfl rfl lk1_s ?_
            refine x_bipush 91 hK rfl rfl rfl ?_
            refine x_if_icmp_eq 122 94 hK rfl rfl rfl (by omega) (by omega) (fun c39 => ?_) (fun c39 => ?_)
            · refine x_iinc 125 hK rfl rfl (lk1_n l1 (by decide) (Or.inl rfl)) _ rfl ?_
              refine x_goto 2 hK rfl rfl ?_
              obtain ⟨y, ea⟩ : ∃ y, rdAct (fx h) p = ((true, p + 1), y) := by
                by_cases z : 60 ≤ fx h p ∧ fx h p ≤ 62
                · exact ⟨_, act_o z⟩
                · exact ⟨_, act_d (by omega)⟩
              have er := un (by omega) (by omega)
              rw [ea, if_pos (by rfl)] at er
              exact ih _ (by omega) (i + 1) (p + 1) _ _ rfl (by omega) (⟨by omega, by omega⟩) (gi_same (by omega)) (er) (lk1_n (lk1_n l0 (by decide) (Or.inl rfl)) (by decide) (Or.inl rfl)) lk1_s (GD_w0 (hG4) (r := 1) rfl rfl) (FRM_w (hF4) (r := 1) rfl rfl)
            · refine x_iload_n 95 hK rfl rfl lk1_s ?_
              refine x_bipush 97 hK rfl rfl rfl ?_
              refine x_if_icmp_eq 122 100 hK rfl rfl rfl (by omega) (by omega) (fun c45 => ?_) (fun c45 => ?_)
              · refine x_iinc 125 hK rfl rfl (lk1_n l1 (by decide) (Or.inl rfl)) _ rfl ?_
                refine x_goto 2 hK rfl rfl ?_
                obtain ⟨y, ea⟩ : ∃ y, rdAct (fx h) p = ((true, p + 1), y) := by
                  by_cases z : 60 ≤ fx h p ∧ fx h p ≤ 62
                  · exact ⟨_, act_o z⟩
                  · exact ⟨_, act_d (by omega)⟩
                have er := un (by omega) (by omega)
                rw [ea, if_pos (by rfl)] at er
                exact ih _ (by omega) (i + 1) (p + 1) _ _ rfl (by omega) (⟨by omega, by omega⟩) (gi_same (by omega)) (er) (lk1_n (lk1_n l0 (by decide) (Or.inl rfl)) (by decide) (Or.inl rfl)) lk1_s (GD_w0 (hG4) (r := 1) rfl rfl) (FRM_w (hF4) (r := 1) rfl rfl)
              · refine x_iload_n 101 hK rfl rfl lk1_s ?_
                refine x_bipush 103 hK rfl rfl rfl ?_
                refine x_if_icmp_lt 112 106 hK rfl rfl rfl (by omega) (by omega) (fun c51 => ?_) (fun c51 => ?_)
                · refine x_aload_n 113 hK rfl rfl (lk1_n l0 (by decide) (Or.inl rfl)) ?_
                  refine x_getR 116 hK rfl rfl (sp_0 (h := h4) hG4) (rf_0_0 (h := h4) hG4) ?_
                  refine x_getE 119 hK rfl (Or.inl rfl) rfl (sp_1 (h := h4) hG4) (e := (p + 1)) (gi_same (by omega)) ?_
                  refine x_iconst 120 hK rfl rfl ?_
                  refine x_isub 121 hK rfl rfl ?_
                  have ea := act_n (f := fx h) (p := p) (by omega) (by omega) (by omega)
                  have er := un (by omega) (by omega)
                  rw [ea, if_neg (by show ¬ false = true; decide)] at er
                  have e9 : cfl n 60 RR.1 = ((p + 1) - 1) := by rw [er]; exact (if_neg (fun z => Bool.noConfusion z.1)).trans (by show p = _; omega)
                  exact x_iret hK rfl ⟨by rw [e9], GD_w0 (hG4) (r := 1) rfl rfl, FRM_w (hF4) (r := 1) rfl rfl⟩
                · refine x_iload_n 107 hK rfl rfl lk1_s ?_
                  refine x_bipush 109 hK rfl rfl rfl ?_
                  refine x_if_icmp_le 122 112 hK rfl rfl rfl (by omega) (by omega) (fun c60 => ?_) (fun c60 => ?_)
                  · refine x_iinc 125 hK rfl rfl (lk1_n l1 (by decide) (Or.inl rfl)) _ rfl ?_
                    refine x_goto 2 hK rfl rfl ?_
                    obtain ⟨y, ea⟩ : ∃ y, rdAct (fx h) p = ((true, p + 1), y) := by
                      by_cases z : 60 ≤ fx h p ∧ fx h p ≤ 62
                      · exact ⟨_, act_o z⟩
                      · exact ⟨_, act_d (by omega)⟩
                    have er := un (by omega) (by omega)
                    rw [ea, if_pos (by rfl)] at er
                    exact ih _ (by omega) (i + 1) (p + 1) _ _ rfl (by omega) (⟨by omega, by omega⟩) (gi_same (by omega)) (er) (lk1_n (lk1_n l0 (by decide) (Or.inl rfl)) (by decide) (Or.inl rfl)) lk1_s (GD_w0 (hG4) (r := 1) rfl rfl) (FRM_w (hF4) (r := 1) rfl rfl)
                  · refine x_aload_n 113 hK rfl rfl (lk1_n l0 (by decide) (Or.inl rfl)) ?_
                    refine x_getR 116 hK rfl rfl (sp_0 (h := h4) hG4) (rf_0_0 (h := h4) hG4) ?_
                    refine x_getE 119 hK rfl (Or.inl rfl) rfl (sp_1 (h := h4) hG4) (e := (p + 1)) (gi_same (by omega)) ?_
                    refine x_iconst 120 hK rfl rfl ?_
                    refine x_isub 121 hK rfl rfl ?_
                    have ea := act_n (f := fx h) (p := p) (by omega) (by omega) (by omega)
                    have er := un (by omega) (by omega)
                    rw [ea, if_neg (by show ¬ false = true; decide)] at er
                    have e9 : cfl n 60 RR.1 = ((p + 1) - 1) := by rw [er]; exact (if_neg (fun z => Bool.noConfusion z.1)).trans (by show p = _; omega)
                    exact x_iret hK rfl ⟨by rw [e9], GD_w0 (hG4) (r := 1) rfl rfl, FRM_w (hF4) (r := 1) rfl rfl⟩
        · refine x_aload_n 46 hK rfl rfl (lk1_n l0 (by decide) (Or.inl rfl)) ?_
          refine x_getR 49 hK rfl rfl (sp_0 (h := h4) hG4) (rf_0_0 (h := h4) hG4) ?_
          have hGp461 : GD gE gRL sh (wI h4 1 2 (p + 1)) := GD_w0 (hG4) (r := 1) rfl rfl
          have at462 : gi (wI h4 1 2 (p + 1)) 1 2 = (p + 1) := gi_same (by omega)
          have fe462 : fx (wI h4 1 2 (p + 1)) = (fx h) := (fx_wI (by decide) (Or.inr (by decide))).trans (fx_F hF4 rfl rfl)
          refine x_callV 52 hK hmono rfl rfl [.ref 1] [] rfl rfl (Nat.le_of_ble_eq_true rfl) (Nat.le_of_ble_eq_true rfl) rfl (sp_1 (h := h4) hG4) (CLd_le (Nat.le_of_ble_eq_true rfl) (ctX9_next hSP hGp461)) ?_
          rw [fe462, at462]
          rintro v9 h9 ⟨e9, rfl⟩
          rw [e9]
          clear e9
          have fr462 := fx_r hG (p + 1)
          refine x_callS 55 hK hmono rfl (Or.inl rfl) rfl [.int (I ((fx h) (p + 1)))] [] rfl rfl (Nat.le_of_ble_eq_true rfl) (Nat.le_of_ble_eq_true rfl) (CLd_le (Nat.le_of_ble_eq_true rfl) (ctX10_isDigit hSP (by omega))) ?_
          rintro v9 h9 ⟨e9, ⟨rfl, i1, i2⟩ | ⟨rfl, i1⟩⟩ <;> rw [e9] <;> clear e9
          · refine x_if_ne 66 58 hK rfl rfl rfl (by omega) (fun _ => ?_) (fun c => by omega)
            refine x_aload_n 67 hK rfl rfl (lk1_n l0 (by decide) (Or.inl rfl)) ?_
            refine x_getR 70 hK rfl rfl (sp_0 (h := h4) hG4) (rf_0_0 (h := h4) hG4) ?_
            refine x_dup 71 hK rfl rfl rfl ?_
            refine x_getE 74 hK rfl (Or.inl rfl) rfl (sp_1 (h := h4) hG4) (e := (p + 1)) (gi_same (by omega)) ?_
            refine x_iconst 75 hK rfl rfl ?_
            refine x_iadd 76 hK rfl rfl ?_
            refine x_putI 79 hK rfl rfl (sp_1 (h := h4) hG4) ?_
            refine x_goto 122 hK rfl rfl ?_
            refine x_iinc 125 hK rfl rfl (lk1_n l1 (by decide) (Or.inl rfl)) _ rfl ?_
            refine x_goto 2 hK rfl rfl ?_
            have ea := act_p (f := fx h) (p := p) (by omega)
            rw [nm1_y ⟨i1, i2⟩] at ea
            have er := un (by omega) (by omega)
            rw [ea, if_pos (by show decide (0 ≤ fx h (p + 1) - 48) = true; exact decide_eq_true (by omega))] at er
            have p2 : p + 1 < min n 60 := by
              by_cases z : min n 60 ≤ p + 1
              · have := fe0 _ z; omega
              · omega
            exact ih _ (by omega) (i + 1) ((p + 1) + 1) _ _ rfl (by omega) (⟨by omega, by omega⟩) (gi_same (by omega)) (er) (lk1_n (lk1_n l0 (by decide) (Or.inl rfl)) (by decide) (Or.inl rfl)) lk1_s (GD_w0 (GD_w0 (hG4) (r := 1) rfl rfl) (r := 1) rfl rfl) (FRM_w (FRM_w (hF4) (r := 1) rfl rfl) (r := 1) rfl rfl)
          · refine x_if_ne 66 58 hK rfl rfl rfl (by omega) (fun c => by omega) (fun _ => ?_)
            refine x_aload_n 59 hK rfl rfl (lk1_n l0 (by decide) (Or.inl rfl)) ?_
            refine x_getR 62 hK rfl rfl (sp_0 (h := h4) hG4) (rf_0_0 (h := h4) hG4) ?_
            refine x_getE 65 hK rfl (Or.inl rfl) rfl (sp_1 (h := h4) hG4) (e := (p + 1)) (gi_same (by omega)) ?_
            have ea := act_p (f := fx h) (p := p) (by omega)
            rw [nm1_n i1] at ea
            have er := un (by omega) (by omega)
            rw [ea, if_neg (by show ¬ decide (0 ≤ (-1 : Int)) = true; decide)] at er
            have e9 : cfl n 60 RR.1 = p + 1 := by rw [er]; exact if_neg (fun z => Bool.noConfusion z.1)
            exact x_iret hK rfl ⟨by rw [e9], GD_w0 (hG4) (r := 1) rfl rfl, FRM_w (hF4) (r := 1) rfl rfl⟩
  refine x_iconst 1 hK rfl rfl ?_
  refine x_istore_n 2 hK rfl rfl [(1, .int (I 0)), (0, .ref 0)] rfl ?_
  exact loop _ 0 0 _ _ rfl (by omega) (⟨by omega, by omega⟩) (h12) (by rw [← hRR]; rfl) rfl rfl (hG) ((FRM.rf : FRM gRL [(0, 1, 2, 2)] h h))
set_option maxRecDepth 4000 in
theorem ctX10_doVoyageSignF {SP : CT} (hSP : MONO SP) {sh : List (Nat × Nat)} {h : aH} (hG : GD gE gRL sh h) {s u : Nat} (hP : PT h) (hX : XI h) (hD : DR h s u) {b : Int} {w : WS} (hS : STR (gi h 0 9) (kS h 23) w) (hw : WW b w) (hb : b ≤ 900000) {ml ln ea : Nat → Int} (hml : ∀ j : Nat, (j : Int) < gi h 19 0 → gi h 20 j = ml j ∧ gi h 21 j = ln j) (hea : ∀ m : Nat, (m : Int) < (gi h 0 9) → gi h 22 m = ea m ∧ 0 ≤ ea m ∧ ea m ≤ 9) {n p : Int} (h12 : gi h 1 2 = p) (h13 : gi h 1 3 = min n 60) (h14 : gi h 1 4 = if 60 < n then 1 else 0) (hn : 0 ≤ n ∧ n ≤ 80) (hp : 0 ≤ p ∧ p < min n 60) (hk : (rdAct (fx h) p).1.1 = true) : CLd SP 7 mX10_doVoyageSign [.ref 0] h 0 0 (fun rv h' => ((doR (gi h 0 9) (rdAct (fx h) p).2 w = true ∧ rv = some (.int (I 1)) ∧ STR (gi h 0 9) (kS h' 23) (doW (dlA h) (gi h 171 5) ml ln (gi h 19 0).toNat (gi h 0 9) ea (rdAct (fx h) p).2 w) ∧ gi h' 1 2 = (rdAct (fx h) p).1.2) ∨ (doR (gi h 0 9) (rdAct (fx h) p).2 w = false ∧ rv = some (.int (I 0)) ∧ STR (gi h 0 9) (kS h' 23) w)) ∧ GD gE gRL sh h' ∧ FRM gRL [(0, 1, 2, 2), (0, 1, 5, 5), (0, 8, 3, 3), (0, 10, 0, 39), (0, 17, 0, 4), (0, 18, 0, 11), (0, 19, 0, 11), (0, 20, 0, 7), (0, 21, 0, 7)] h h') := by
  refine x_met _ rfl (Nat.le_of_ble_eq_true rfl) (fun K hK => ?_)
  have hmono := MONO_CLd hSP 6
  have fe0 : ∀ a, min n 60 ≤ a → fx h a = -1 := fun a ha => fx_end h a (by rw [h13]; exact ha)
  have g9 := gri 0 8 hG (a := 0) (r := 0) (k := 9) rfl rfl
  have g19 := gri 0 16 hG (a := 19) (r := 13) (k := 0) rfl rfl
  have kk : (60 ≤ fx h p ∧ fx h p ≤ 62) ∨ fx h p = 112 ∨ (49 ≤ fx h p ∧ fx h p ≤ 57) := by
    by_cases z1 : 60 ≤ fx h p ∧ fx h p ≤ 62
    · exact Or.inl z1
    · by_cases z2 : fx h p = 112
      · exact Or.inr (Or.inl z2)
      · by_cases z3 : 49 ≤ fx h p ∧ fx h p ≤ 57
        · exact Or.inr (Or.inr z3)
        · rw [act_n z1 z2 z3] at hk; exact Bool.noConfusion hk
  have wwI := WW_stI (ml := ml) (ln := ln) (ea := ea) (nr := (gi h 19 0).toNat) (by omega) g9.2 (fun m hm => (hea m hm).2) hw
  have loop : ∀ (mz : Nat) (i : Int) (h4 : aH) (ls : List (Nat × Value)), ((fx h p - i).toNat = mz) → (49 ≤ fx h p ∧ fx h p ≤ 57) → (48 ≤ i ∧ i ≤ fx h p) → (gi h4 1 2 = p + 1) → (STR (gi h 0 9) (kS h4 23) (stI ml ln (gi h 19 0).toNat (gi h 0 9) ea (i - 48).toNat w)) → lk ls 0 = some (.ref 0) → lk ls 1 = some (.int (I (fx h p))) → lk ls 2 = some (.int (I i)) → GD gE gRL sh h4 → FRM gRL [(0, 1, 2, 2), (0, 17, 0, 4), (0, 18, 0, 11), (0, 19, 0, 11), (0, 20, 0, 7), (0, 21, 0, 7)] h h4 → K 67 ls [] h4 0 0 := by
    intro mz
    induction mz using Nat.strongRecOn with
    | ind mz ih =>
    intro i h4 ls hm kd i0 d2 hs l0 l1 l2 hG4 hF4
    have wi := wwI (i - 48).toNat
    have n94 : gi h4 0 9 = (gi h 0 9) := FRM_gi hF4 (r := 0) rfl rfl
    have n19 : gi h4 19 0 = gi h 19 0 := FRM_gi hF4 (r := 13) rfl rfl
    refine x_iload_n 68 hK rfl rfl l2 ?_
    refine x_iload_n 69 hK rfl rfl l1 ?_
    refine x_if_icmp_ge 83 72 hK rfl rfl rfl (by omega) (by omega) (fun c3 => ?_) (fun c3 => ?_)
    · refine x_iconst 84 hK rfl rfl ?_
      obtain ei : i = fx h p := by omega
      have ea9 := act_d kd
      rw [ea9] at hK
      exact x_zret hK rfl (by omega) ⟨Or.inl ⟨rfl, rfl, by rw [← ei]; exact hs, d2⟩, hG4, hF4.mono rfl⟩
    · refine x_aload_n 73 hK rfl rfl l0 ?_
      refine x_callV 76 hK hmono rfl rfl [.ref 0] [] rfl rfl (Nat.le_of_ble_eq_true rfl) (Nat.le_of_ble_eq_true rfl) rfl (sp_0 (h := h4) hG4) (CLd_le (Nat.le_of_ble_eq_true rfl) (ctX10_goStepF hSP hG4 (b := b + (i - 48).toNat) (w := (stI ml ln (gi h 19 0).toNat (gi h 0 9) ea (i - 48).toNat w)) (ml := ml) (ln := ln) (ea := ea) (by rw [n94]; exact hs) wi (by omega) (fun j hj => by rw [n19] at hj; rw [FRM_gi hF4 (a := 20) (r := 14) rfl rfl, FRM_gi hF4 (a := 21) (r := 15) rfl rfl]; exact hml j hj) (fun m hm => by rw [n94] at hm; rw [FRM_gi hF4 (a := 22) (r := 16) rfl rfl]; exact hea m hm))) ?_
      rw [n94, n19]
      rintro v463 h463 ⟨rfl, hG463, hF463, hS463⟩
      refine x_pop 77 hK rfl rfl rfl ?_
      refine x_iinc 80 hK rfl rfl l2 _ rfl ?_
      refine x_goto 67 hK rfl rfl ?_
      exact ih _ (by omega) (i + 1) _ _ rfl (kd) (by omega) ((FRM_gi hF463 (r := 1) rfl rfl).trans d2) (by rw [show (i + 1 - 48).toNat = (i - 48).toNat + 1 by omega]; exact hS463) (lk1_n l0 (by decide) (Or.inl rfl)) (lk1_n l1 (by decide) (Or.inl rfl)) lk1_s (hG463) ((hF4).trans ((hF463).mono rfl))
  refine x_aload_n 1 hK rfl rfl rfl ?_
  refine x_getR 4 hK rfl rfl (sp_0 (h := h) hG) (rf_0_0 (h := h) hG) ?_
  have at464 : gi h 1 2 = p := h12
  have fe464 : fx h = (fx h) := rfl
  refine x_callV 7 hK hmono rfl rfl [.ref 1] [] rfl rfl (Nat.le_of_ble_eq_true rfl) (Nat.le_of_ble_eq_true rfl) rfl (sp_1 (h := h) hG) (CLd_le (Nat.le_of_ble_eq_true rfl) (ctX9_next hSP hG)) ?_
  rw [fe464, at464]
  rintro v9 h9 ⟨e9, rfl⟩
  rw [e9]
  clear e9
  have fr464 := fx_r hG p
  refine x_istore_n 8 hK rfl rfl [(1, .int (I ((fx h) p))), (0, .ref 0)] rfl ?_
  refine x_aload_n 9 hK rfl rfl rfl ?_
  refine x_getR 12 hK rfl rfl (sp_0 (h := h) hG) (rf_0_0 (h := h) hG) ?_
  refine x_dup 13 hK rfl rfl rfl ?_
  refine x_getE 16 hK rfl (Or.inl rfl) rfl (sp_1 (h := h) hG) (e := p) (h12) ?_
  refine x_iconst 17 hK rfl rfl ?_
  refine x_iadd 18 hK rfl rfl ?_
  refine x_putI 21 hK rfl rfl (sp_1 (h := h) hG) ?_
  refine x_iload_n 22 hK rfl rfl rfl ?_
  refine x_bipush 24 hK rfl rfl rfl ?_
  refine x_if_icmp_ne 57 27 hK rfl rfl rfl (by omega) (by omega) (fun c14 => ?_) (fun c14 => ?_)
  · refine x_iload_n 58 hK rfl rfl rfl ?_
    refine x_callS 61 hK hmono rfl (Or.inl rfl) rfl [.int (I ((fx h) p))] [] rfl rfl (Nat.le_of_ble_eq_true rfl) (Nat.le_of_ble_eq_true rfl) (CLd_le (Nat.le_of_ble_eq_true rfl) (ctX10_isDigit hSP (by omega))) ?_
    rintro v9 h9 ⟨e9, ⟨rfl, i1, i2⟩ | ⟨rfl, i1⟩⟩ <;> rw [e9] <;> clear e9
    · refine x_if_eq 85 64 hK rfl rfl rfl (by omega) (fun c => by omega) (fun _ => ?_)
      refine x_bipush 66 hK rfl rfl rfl ?_
      refine x_istore_n 67 hK rfl rfl [(2, .int (I 48)), (1, .int (I ((fx h) p))), (0, .ref 0)] rfl ?_
      have hFx465 : FRM gRL [(0, 1, 2, 2), (0, 1, 5, 5)] h (wI h 1 2 (p + 1)) := FRM_w ((FRM.rf : FRM gRL [(0, 1, 2, 2), (0, 1, 5, 5)] h h)) (r := 1) rfl rfl
      have hSx465 : STR (gi h 0 9) (kS (wI h 1 2 (p + 1)) 23) w := by rw [kS23_F hFx465 (by decide)]; exact hS
      have n9465 : gi (wI h 1 2 (p + 1)) 0 9 = (gi h 0 9) := FRM_gi hFx465 (r := 0) rfl rfl
      exact loop _ 48 _ _ rfl (by omega) (by omega) (gi_same (by omega)) (hSx465) rfl rfl rfl (GD_w0 (hG) (r := 1) rfl rfl) (FRM_w ((FRM.rf : FRM gRL [(0, 1, 2, 2), (0, 17, 0, 4), (0, 18, 0, 11), (0, 19, 0, 11), (0, 20, 0, 7), (0, 21, 0, 7)] h h)) (r := 1) rfl rfl)
    · refine x_if_eq 85 64 hK rfl rfl rfl (by omega) (fun _ => ?_) (fun c => by omega)
      refine x_aload_n 86 hK rfl rfl rfl ?_
      have hGp466 : GD gE gRL sh (wI h 1 2 (p + 1)) := GD_w0 (hG) (r := 1) rfl rfl
      have hFx467 : FRM gRL [(0, 1, 2, 2), (0, 1, 5, 5)] h (wI h 1 2 (p + 1)) := FRM_w ((FRM.rf : FRM gRL [(0, 1, 2, 2), (0, 1, 5, 5)] h h)) (r := 1) rfl rfl
      have hSx467 : STR (gi h 0 9) (kS (wI h 1 2 (p + 1)) 23) w := by rw [kS23_F hFx467 (by decide)]; exact hS
      have n9467 : gi (wI h 1 2 (p + 1)) 0 9 = (gi h 0 9) := FRM_gi hFx467 (r := 0) rfl rfl
      refine x_callV 89 hK hmono rfl rfl [.ref 0] [] rfl rfl (Nat.le_of_ble_eq_true rfl) (Nat.le_of_ble_eq_true rfl) rfl (sp_0 (h := h) hG) (CLd_le (Nat.le_of_ble_eq_true rfl) (ctX10_orderRefusalF hSP hGp466 hSx467)) ?_
      rintro v9 h9 ⟨e9, rfl⟩
      rw [e9]
      clear e9
      have gb : -3 ≤ gvR 0 w ∧ gvR 0 w ≤ 0 := by unfold gvR; (repeat' split) <;> omega
      refine x_if_eq 94 92 hK rfl rfl rfl (by omega) (fun c24 => ?_) (fun c24 => ?_)
      · refine x_aload_n 95 hK rfl rfl rfl ?_
        refine x_iload_n 96 hK rfl rfl rfl ?_
        refine x_bipush 98 hK rfl rfl rfl ?_
        refine x_isub 99 hK rfl rfl ?_
        have hGp468 : GD gE gRL sh (wI h 1 2 (p + 1)) := GD_w0 (hG) (r := 1) rfl rfl
        have hFx469 : FRM gRL [(0, 1, 2, 2), (0, 1, 5, 5)] h (wI h 1 2 (p + 1)) := FRM_w ((FRM.rf : FRM gRL [(0, 1, 2, 2), (0, 1, 5, 5)] h h)) (r := 1) rfl rfl
        have hSx469 : STR (gi h 0 9) (kS (wI h 1 2 (p + 1)) 23) w := by rw [kS23_F hFx469 (by decide)]; exact hS
        have n9469 : gi (wI h 1 2 (p + 1)) 0 9 = (gi h 0 9) := FRM_gi hFx469 (r := 0) rfl rfl
        have dl470 : dlA (wI h 1 2 (p + 1)) w.1 = dlA h w.1 := dlA_F hFx469 rfl _
        have l5470 : gi (wI h 1 2 (p + 1)) 171 5 = gi h 171 5 := FRM_gi hFx469 (r := 54) rfl rfl
        refine x_callV 102 hK hmono rfl rfl [.ref 0, .int (I (((fx h) p) - 61))] [] rfl rfl (Nat.le_of_ble_eq_true rfl) (Nat.le_of_ble_eq_true rfl) rfl (sp_0 (h := h) hG) (CLd_le (Nat.le_of_ble_eq_true rfl) (ctX10_giveOrderF hSP hGp468 (show PT (wI h 1 2 (p + 1)) from PT_F hFx469 (by decide) hP) (show XI (wI h 1 2 (p + 1)) from (xOk_ok rfl h (wI h 1 2 (p + 1)) (FRM_w ((FRM.rf : FRM gRL [(0, 1, 2, 2)] h h)) (r := 1) rfl rfl) hX)) (DR_F hFx469 rfl hD) (w := w) (b := b) (by rw [n9469]; exact hSx469) hw (by omega) (v := (((fx h) p) - 61)) (by omega) (by omega))) ?_
        rw [dl470, l5470, n9469]
        rintro v470 h470 ⟨rfl, hG470, hF470, hS470⟩
        have db := dlA_b h w.1
        refine x_pop 103 hK rfl rfl rfl ?_
        refine x_iconst 104 hK rfl rfl ?_
        have ea9 := act_o (f := fx h) (p := p) (by omega)
        have gi9 : gvR (fx h p - 61) w = gvR 0 w := gvR_in (by omega)
        rw [ea9] at hK
        exact x_zret hK rfl (by omega) ⟨Or.inl ⟨decide_eq_true (by show gvR (fx h p - 61) w = 0; omega), rfl, hS470, (FRM_gi hF470 (r := 1) rfl rfl).trans (gi_same (by omega))⟩, hG470, (FRM_w ((FRM.rf : FRM gRL [(0, 1, 2, 2), (0, 1, 5, 5), (0, 8, 3, 3), (0, 10, 0, 39), (0, 17, 0, 4), (0, 18, 0, 11), (0, 19, 0, 11), (0, 20, 0, 7), (0, 21, 0, 7)] h h)) (r := 1) rfl rfl).trans ((hF470).mono rfl)⟩
      · refine x_iconst 93 hK rfl rfl ?_
        have ea9 := act_o (f := fx h) (p := p) (by omega)
        have gi9 : gvR (fx h p - 61) w = gvR 0 w := gvR_in (by omega)
        rw [ea9] at hK
        have hFx471 : FRM gRL [(0, 1, 2, 2), (0, 1, 5, 5)] h (wI h 1 2 (p + 1)) := FRM_w ((FRM.rf : FRM gRL [(0, 1, 2, 2), (0, 1, 5, 5)] h h)) (r := 1) rfl rfl
        have hSx471 : STR (gi h 0 9) (kS (wI h 1 2 (p + 1)) 23) w := by rw [kS23_F hFx471 (by decide)]; exact hS
        have n9471 : gi (wI h 1 2 (p + 1)) 0 9 = (gi h 0 9) := FRM_gi hFx471 (r := 0) rfl rfl
        exact x_zret hK rfl (by omega) ⟨Or.inr ⟨decide_eq_false (by show ¬ gvR (fx h p - 61) w = 0; omega), rfl, hSx471⟩, GD_w0 (hG) (r := 1) rfl rfl, FRM_w ((FRM.rf : FRM gRL [(0, 1, 2, 2), (0, 1, 5, 5), (0, 8, 3, 3), (0, 10, 0, 39), (0, 17, 0, 4), (0, 18, 0, 11), (0, 19, 0, 11), (0, 20, 0, 7), (0, 21, 0, 7)] h h)) (r := 1) rfl rfl⟩
  · refine x_aload_n 28 hK rfl rfl rfl ?_
    refine x_getR 31 hK rfl rfl (sp_0 (h := h) hG) (rf_0_0 (h := h) hG) ?_
    refine x_iconst 32 hK rfl rfl ?_
    have hGp473 : GD gE gRL sh (wI h 1 2 (p + 1)) := GD_w0 (hG) (r := 1) rfl rfl
    have at472 : gi (wI h 1 2 (p + 1)) 1 2 = (p + 1) := gi_same (by omega)
    have fe472 : fx (wI h 1 2 (p + 1)) = (fx h) := fx_wI (by decide) (Or.inr (by decide))
    have to472 : gi (wI h 1 2 (p + 1)) 1 3 = (min n 60) := (gi_k (by decide) _).trans (h13)
    have mo472 : gi (wI h 1 2 (p + 1)) 1 4 = (if 60 < n then (1 : Int) else 0) := (gi_k (by decide) _).trans (h14)
    refine x_callV 35 hK hmono rfl rfl [.ref 1, .int (I 1)] [] rfl rfl (Nat.le_of_ble_eq_true rfl) (Nat.le_of_ble_eq_true rfl) rfl (sp_1 (h := h) hG) (CLd_le (Nat.le_of_ble_eq_true rfl) (ctX9_takeNumber hSP hGp473 (n := 1) (by omega))) ?_
    rw [fe472, at472, to472, mo472]
    rintro v472 h472 ⟨⟨e472, rfl, nu472, ne472⟩, hG472, hF472, np472, nc472, nd472⟩
    have nm472 : nmF (fx h) 1 (p + 1) = (e472, gi h472 1 2) := by rw [nu472, np472]; rfl
    have nb472 : (p + 1) ≤ gi h472 1 2 ∧ gi h472 1 2 ≤ (min n 60) := by rw [np472]; exact ⟨(tkv_lb _ _ _ _).1, tkv_sp fe0 _ _ _ (by first | omega | (have q := fe0 p; omega))⟩
    have nz472 : 0 ≤ e472 → (p + 1) < gi h472 1 2 := fun z => by have := nmF_n (f := (fx h)) (n := 1) (p := (p + 1)) (by rw [nm472]; exact z); rw [nm472] at this; exact this
    have ny472 : e472 = -1 → gi h472 1 2 = (p + 1) := fun z => by
      rw [np472]
      by_cases c : (tkv (fx h) (Int.toNat 1) (p + 1) 0).2 = (p + 1)
      · exact c
      · rw [if_neg c] at nu472
        have := tkv_nn (f := (fx h)) (Int.toNat 1) (p + 1) 0 (by omega)
        omega
    clear nu472 np472
    generalize eq472 : gi h472 1 2 = p472 at *
    refine x_istore_n 36 hK rfl rfl [(2, .int (I e472)), (1, .int (I ((fx h) p))), (0, .ref 0)] rfl ?_
    refine x_aload_n 37 hK rfl rfl rfl ?_
    refine x_iload_n 38 hK rfl rfl rfl ?_
    refine x_iconst 39 hK rfl rfl ?_
    refine x_iconst 40 hK rfl rfl ?_
    have hFx474 : FRM gRL [(0, 1, 2, 2), (0, 1, 5, 5)] h h472 := (FRM_w ((FRM.rf : FRM gRL [(0, 1, 2, 2), (0, 1, 5, 5)] h h)) (r := 1) rfl rfl).trans ((hF472).mono rfl)
    have hSx474 : STR (gi h 0 9) (kS h472 23) w := by rw [kS23_F hFx474 (by decide)]; exact hS
    have n9474 : gi h472 0 9 = (gi h 0 9) := FRM_gi hFx474 (r := 0) rfl rfl
    refine x_callV 43 hK hmono rfl rfl [.ref 0, .int (I e472), .int (I 1), .int (I 1)] [] rfl rfl (Nat.le_of_ble_eq_true rfl) (Nat.le_of_ble_eq_true rfl) rfl (sp_0 (h := h472) hG472) (CLd_le (Nat.le_of_ble_eq_true rfl) (ctX10_passRefusalF hSP hG472 (w := w) (b := b) (by rw [n9474]; exact hSx474) hw (by omega) (m := e472) (n := 1) (a := 1) (by omega) (by omega) (by omega))) ?_
    rw [n9474]
    rintro v9 h9 ⟨e9, rfl⟩
    rw [e9]
    clear e9
    have pb : -3 ≤ psR (gi h 0 9) w.2.2.2.2.2.1 e472 1 1 ∧ psR (gi h 0 9) w.2.2.2.2.2.1 e472 1 1 ≤ 0 := by unfold psR; (repeat' split) <;> omega
    refine x_if_eq 48 46 hK rfl rfl rfl (by omega) (fun c45 => ?_) (fun c45 => ?_)
    · refine x_aload_n 49 hK rfl rfl rfl ?_
      refine x_iload_n 50 hK rfl rfl rfl ?_
      refine x_iconst 51 hK rfl rfl ?_
      refine x_iconst 52 hK rfl rfl ?_
      have hFx475 : FRM gRL [(0, 1, 2, 2), (0, 1, 5, 5)] h h472 := (FRM_w ((FRM.rf : FRM gRL [(0, 1, 2, 2), (0, 1, 5, 5)] h h)) (r := 1) rfl rfl).trans ((hF472).mono rfl)
      have hSx475 : STR (gi h 0 9) (kS h472 23) w := by rw [kS23_F hFx475 (by decide)]; exact hS
      have n9475 : gi h472 0 9 = (gi h 0 9) := FRM_gi hFx475 (r := 0) rfl rfl
      refine x_callV 55 hK hmono rfl rfl [.ref 0, .int (I e472), .int (I 1), .int (I 1)] [] rfl rfl (Nat.le_of_ble_eq_true rfl) (Nat.le_of_ble_eq_true rfl) rfl (sp_0 (h := h472) hG472) (CLd_le (Nat.le_of_ble_eq_true rfl) (ctX10_moveFoodF hSP hG472 (w := w) (b := b) (by rw [n9475]; exact hSx475) hw (by omega) (m := e472) (n := 1) (a := 1) (by omega) (by omega) (by omega) (by rw [n9475]; omega))) ?_
      rw [n9475]
      rintro v476 h476 ⟨rfl, hG476, hF476, hS476⟩
      refine x_iconst 56 hK rfl rfl ?_
      have ea9 := act_p (f := fx h) (p := p) (by omega)
      rw [nm472] at ea9
      rw [ea9] at hK hk
      exact x_zret hK rfl (by omega) ⟨Or.inl ⟨decide_eq_true (by show psR (gi h 0 9) w.2.2.2.2.2.1 e472 1 1 = 0; omega), rfl, hS476, (FRM_gi hF476 (r := 1) rfl rfl).trans (eq472)⟩, hG476, ((FRM_w ((FRM.rf : FRM gRL [(0, 1, 2, 2), (0, 1, 5, 5), (0, 8, 3, 3), (0, 10, 0, 39), (0, 17, 0, 4), (0, 18, 0, 11), (0, 19, 0, 11), (0, 20, 0, 7), (0, 21, 0, 7)] h h)) (r := 1) rfl rfl).trans ((hF472).mono rfl)).trans ((hF476).mono rfl)⟩
    · refine x_iconst 47 hK rfl rfl ?_
      have ea9 := act_p (f := fx h) (p := p) (by omega)
      rw [nm472] at ea9
      rw [ea9] at hK hk
      have hFx477 : FRM gRL [(0, 1, 2, 2), (0, 1, 5, 5)] h h472 := (FRM_w ((FRM.rf : FRM gRL [(0, 1, 2, 2), (0, 1, 5, 5)] h h)) (r := 1) rfl rfl).trans ((hF472).mono rfl)
      have hSx477 : STR (gi h 0 9) (kS h472 23) w := by rw [kS23_F hFx477 (by decide)]; exact hS
      have n9477 : gi h472 0 9 = (gi h 0 9) := FRM_gi hFx477 (r := 0) rfl rfl
      exact x_zret hK rfl (by omega) ⟨Or.inr ⟨decide_eq_false (by show ¬ psR (gi h 0 9) w.2.2.2.2.2.1 e472 1 1 = 0; omega), rfl, hSx477⟩, hG472, (FRM_w ((FRM.rf : FRM gRL [(0, 1, 2, 2), (0, 1, 5, 5), (0, 8, 3, 3), (0, 10, 0, 39), (0, 17, 0, 4), (0, 18, 0, 11), (0, 19, 0, 11), (0, 20, 0, 7), (0, 21, 0, 7)] h h)) (r := 1) rfl rfl).trans ((hF472).mono rfl)⟩
