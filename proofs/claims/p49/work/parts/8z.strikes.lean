section
/-! THE FIRST ROCK THAT IS HIT -/
set_option maxRecDepth 4000 in
theorem ctX11_stepGoesTU {SP : CT} (hSP : MONO SP) {sh : List (Nat × Nat)} {h : aH} (hG : GD gE gRL sh h) {b : Int} (wb : WB b (RC h 179 0)) (hb : b ≤ 1000000) : CLd SP 5 mX11_stepGoes [.ref 171, .ref 179] h 0 0 (fun rv h' => rv = none ∧ GD gE gRL sh h' ∧ FRM gRL [(0, 54, 31, 32), (0, 62, 0, 56)] h h' ∧ vw (RC h' 179 0) = stW (gi h 175) (gi h 176) (gi h 171 6).toNat (gi h 171 7) (gi h 177) (vw (RC h 179 0)) ∧ WB (b + 1) (RC h' 179 0)) := by
  refine x_met _ rfl (Nat.le_of_ble_eq_true rfl) (fun K hK => ?_)
  have hmono := MONO_CLd hSP 4
  have g3 := gri 0 12 hG (a := 179) (r := 62) (k := 3) rfl rfl
  have g7 := gri 0 8 hG (a := 171) (r := 54) (k := 7) rfl rfl
  have g6 := gri 0 16 hG (a := 171) (r := 54) (k := 6) rfl rfl
  obtain ⟨w0, w1, w2, w3, w4, w5⟩ := wb
  rw [RC_0 (by omega)] at w0 w1 w2 w3 w4
  have w6 : ∀ m, m < 8 → (0 ≤ gi h 179 (41 + m) ∧ gi h 179 (41 + m) ≤ 99) ∧ 0 ≤ gi h 179 (49 + m) ∧ gi h 179 (49 + m) ≤ b := fun m hm => by have := w5 m hm; rw [RC_0 (by omega), RC_0 (by omega)] at this; exact this
  have hH := hitN_b (gi h 175) (gi h 176) (gi h 179 0 + 1) (stL (vw (RC h 179 0))) (gi h 171 6).toNat
  have eH : stH (gi h 175) (gi h 176) (gi h 171 6).toNat (vw (RC h 179 0)) = hitN (gi h 175) (gi h 176) (gi h 179 0 + 1) (stL (vw (RC h 179 0))) (gi h 171 6).toNat := by show hitN _ _ (RC h 179 0 0 + 1) _ _ = _; rw [RC_0 (by omega)]
  have eL : stL (vw (RC h 179 0)) = ((wl (RC h 179 0)).filter fun q => decide (q.1 = gi h 179 0 + 1)).foldl ptF (gi h 179 1) := by show ((wl (RC h 179 0)).filter fun z => decide (z.1 = RC h 179 0 0 + 1)).foldl ptF (RC h 179 0 1) = _; rw [RC_0 (by omega), RC_0 (by omega)]
  have lb : 0 ≤ stL (vw (RC h 179 0)) ∧ stL (vw (RC h 179 0)) ≤ 8 := by rw [eL]; exact ptF_b w1 _
  have loop : ∀ (mz : Nat) (k : Int) (h4 : aH) (ls : List (Nat × Value)), ((gi h 171 7 - k).toNat = mz) → (0 ≤ k ∧ k ≤ gi h 171 7) → (gi h4 179 0 = gi h 179 0 + 1) → (gi h4 179 1 = stL (vw (RC h 179 0))) → (gi h4 179 2 = gi h 179 2 + stH (gi h 175) (gi h 176) (gi h 171 6).toNat (vw (RC h 179 0))) → (gi h4 179 4 = gi h 179 4) → (wl (RC h4 179 0) = (wl (RC h 179 0)).filter (fun z => !decide (z.1 = gi h 179 0 + 1))) → (∀ j : Nat, j < 8 → gi h4 179 (41 + j) = (if (j : Int) < k then fdS (gi h 179 (41 + j)) (gi h 177 j) else gi h 179 (41 + j)) ∧ gi h4 179 (49 + j) = (if (j : Int) < k then huS (gi h 179 (49 + j)) (gi h 179 (41 + j)) (gi h 177 j) else gi h 179 (49 + j))) → lk ls 0 = some (.ref 171) → lk ls 1 = some (.ref 179) → lk ls 3 = some (.int (I k)) → GD gE gRL sh h4 → FRM gRL [(0, 54, 31, 32), (0, 62, 0, 56)] h h4 → K 41 ls [] h4 0 0 := by
    intro mz
    induction mz using Nat.strongRecOn with
    | ind mz ih =>
    intro k h4 ls hm k0 a0 a1 a2 a4 aw fl l0 l1 l3 hG4 hF4
    have g43 := gri 0 12 hG4 (a := 179) (r := 62) (k := 3) rfl rfl
    have hcb := hcN_b (fun j => gi h 179 (41 + j)) (gi h 177) k.toNat
    have w7 := fun z : k < 8 => w6 k.toNat (by omega)
    have hs := hcN_s (f := (fun j => gi h 179 (41 + j))) (e := gi h 177) k0.1
    refine x_iload_n 42 hK rfl rfl l3 ?_
    refine x_aload_n 43 hK rfl rfl l0 ?_
    have g579 := gri (0) (8) hG (a := 171) (r := 54) (k := 7) rfl rfl
    refine x_getE 46 hK rfl (Or.inl rfl) rfl (sp_171 (h := h4) hG4) (e := (gi h 171 7)) (FRM_gi hF4 (r := 54) rfl rfl) ?_
    refine x_if_icmp_ge 133 49 hK rfl rfl rfl (by omega) (by omega) (fun c4 => ?_) (fun c4 => ?_)
    · obtain rfl : k = gi h 171 7 := by omega
      have ev : vw (RC h4 179 0) = stW (gi h 175) (gi h 176) (gi h 171 6).toNat (gi h 171 7) (gi h 177) (vw (RC h 179 0)) := by
        refine WS_ext ?_ ?_ ?_ ?_ ?_ (fun m => ?_) (fun m => ?_)
        · show RC h4 179 0 0 = RC h 179 0 0 + 1; rw [RC_0 (by omega), RC_0 (by omega), a0]
        · show RC h4 179 0 1 = stL (vw (RC h 179 0)); rw [RC_0 (by omega), a1]
        · show RC h4 179 0 2 = RC h 179 0 2 + _; rw [RC_0 (by omega), RC_0 (by omega), a2]
        · show RC h4 179 0 4 = RC h 179 0 4; rw [RC_0 (by omega), RC_0 (by omega), a4]
        · show wl (RC h4 179 0) = (wl (RC h 179 0)).filter (fun z => !decide (z.1 = RC h 179 0 0 + 1)); rw [RC_0 (by omega)]; exact aw
        · show (if m < 8 then RC h4 179 0 (41 + m) else 0) = if (m : Int) < gi h 171 7 then fdS (if m < 8 then RC h 179 0 (41 + m) else 0) (gi h 177 m) else (if m < 8 then RC h 179 0 (41 + m) else 0)
          by_cases c : m < 8
          · rw [if_pos c, if_pos c, RC_0 (by omega), RC_0 (by omega)]; exact (fl m c).1
          · rw [if_neg c, if_neg c, if_neg (by omega)]
        · show (if m < 8 then RC h4 179 0 (49 + m) else 0) = if (m : Int) < gi h 171 7 then huS (if m < 8 then RC h 179 0 (49 + m) else 0) (if m < 8 then RC h 179 0 (41 + m) else 0) (gi h 177 m) else (if m < 8 then RC h 179 0 (49 + m) else 0)
          by_cases c : m < 8
          · rw [if_pos c, if_pos c, if_pos c, RC_0 (by omega), RC_0 (by omega), RC_0 (by omega)]; exact (fl m c).2
          · rw [if_neg c, if_neg c, if_neg (by omega)]
      have eu : stU (gi h 171 7) (gi h 177) (vw (RC h 179 0)) = hcN (fun j => gi h 179 (41 + j)) (gi h 177) (gi h 171 7).toNat := by
        show hcN (fun m => if m < 8 then RC h 179 0 (41 + m) else 0) _ _ = _
        exact hcN_c _ fun m hm => by rw [if_pos (by omega), RC_0 (by omega)]
      have ewb : WB (b + 1) (RC h4 179 0) := by
        have y1 := gri 0 8 hG4 (a := 179) (r := 62) (k := 1) rfl rfl
        refine ⟨?_, ?_, ?_, ?_, ?_, fun m hm => ?_⟩
        · rw [RC_0 (by omega), a0]; omega
        · rw [RC_0 (by omega)]; exact y1
        · rw [RC_0 (by omega), a2, eH]; omega
        · rw [RC_0 (by omega)]; exact g43
        · rw [RC_0 (by omega), a4]; omega
        · rw [RC_0 (by omega), RC_0 (by omega), (fl m hm).1, (fl m hm).2]
          have z1 := w6 m hm
          have z2 := grn 0 9 hG (a := 177) (r := 60) (k := m) rfl rfl (by omega)
          unfold fdS huS
          (repeat' split) <;> omega
      exact x_vret hK rfl ⟨rfl, hG4, hF4, ev, ewb⟩
    · refine x_aload_n 50 hK rfl rfl l1 ?_
      refine x_bipush 52 hK rfl rfl rfl ?_
      refine x_iload_n 53 hK rfl rfl l3 ?_
      refine x_iadd 54 hK rfl rfl ?_
      refine x_ialoadE 55 hK rfl rfl (sp_179 (h := h4) hG4) (by omega) (by omega) (by omega) (e' := (gi h 179 (41 + k.toNat))) (((gi_to (by omega)).trans ((fl k.toNat (by omega)).1.trans (if_neg (by omega))))) ?_
      refine x_aload_n 56 hK rfl rfl l0 ?_
      refine x_getR 59 hK rfl rfl (sp_171 (h := h4) hG4) (rf_171_13 (h := h4) hG4) ?_
      refine x_iload_n 60 hK rfl rfl l3 ?_
      have g580 := grn (0) (9) hG (a := 177) (r := 60) (k := k.toNat) rfl rfl (by omega)
      refine x_ialoadE 61 hK rfl rfl (sp_177 (h := h4) hG4) (by omega) (by omega) (by omega) (e' := (gi h 177 k.toNat)) (FRM_gi hF4 (r := 60) rfl rfl) ?_
      refine x_if_icmp_ge 68 64 hK rfl rfl rfl (by omega) (by omega) (fun c15 => ?_) (fun c15 => ?_)
      · refine x_iconst 69 hK rfl rfl ?_
        refine x_istore 71 hK rfl rfl _ rfl ?_
        refine x_aload_n 72 hK rfl rfl (lk1_n l1 (by decide) (Or.inl rfl)) ?_
        refine x_bipush 74 hK rfl rfl rfl ?_
        refine x_iload_n 75 hK rfl rfl (lk1_n l3 (by decide) (Or.inl rfl)) ?_
        refine x_iadd 76 hK rfl rfl ?_
        refine x_dup2 77 hK rfl rfl rfl rfl ?_
        refine x_ialoadE 78 hK rfl rfl (sp_179 (h := h4) hG4) (by omega) (by omega) (by omega) (e' := (gi h 179 (49 + k.toNat))) (((gi_to (by omega)).trans ((fl k.toNat (by omega)).2.trans (if_neg (by omega))))) ?_
        refine x_iload 80 hK rfl rfl lk1_s ?_
        refine x_callS 83 hK hmono rfl (Or.inl rfl) rfl [.int (I 0)] [.int (I (gi h 179 (49 + k.toNat))), .int (I (49 + k)), .ref 179] rfl rfl (Nat.le_of_ble_eq_true rfl) (Nat.le_of_ble_eq_true rfl) (CLd_le (Nat.le_of_ble_eq_true rfl) (ctX11_flag (by omega))) ?_
        rintro v9 h9 ⟨e9, rfl⟩
        rw [e9]
        clear e9
        refine x_iadd 84 hK rfl rfl ?_
        refine x_iastore 85 hK rfl rfl (sp_179 (h := h4) hG4) (by omega) (by omega) (by omega) ?_
        refine x_aload_n 86 hK rfl rfl (lk1_n l0 (by decide) (Or.inl rfl)) ?_
        refine x_dup 87 hK rfl rfl rfl ?_
        have g582 := gi_r h4 171 32
        refine x_getE 90 hK rfl (Or.inl rfl) rfl (sp_171 (h := h4) hG4) (e := (gi h4 171 32)) (gi_a (by decide) _) ?_
        refine x_iload 92 hK rfl rfl lk1_s ?_
        have hGp583 : GD gE gRL sh (wI h4 179 (49 + k).toNat ((gi h 179 (49 + k.toNat)) + 0)) := GD_st (hG4) (r := 62) rfl rfl (fun z => by omega) (fun z => by omega) (fun j hj z => by omega)
        refine x_callS 95 hK hmono rfl (Or.inl rfl) rfl [.int (I 0)] [.int (I (gi h4 171 32)), .ref 171] rfl rfl (Nat.le_of_ble_eq_true rfl) (Nat.le_of_ble_eq_true rfl) (CLd_le (Nat.le_of_ble_eq_true rfl) (ctX11_flag (by omega))) ?_
        rintro v9 h9 ⟨e9, rfl⟩
        rw [e9]
        clear e9
        refine x_iadd 96 hK rfl rfl ?_
        refine x_putI 99 hK rfl rfl (sp_171 (h := h4) hG4) ?_
        refine x_aload_n 100 hK rfl rfl (lk1_n l1 (by decide) (Or.inl rfl)) ?_
        refine x_bipush 102 hK rfl rfl rfl ?_
        refine x_iload_n 103 hK rfl rfl (lk1_n l3 (by decide) (Or.inl rfl)) ?_
        refine x_iadd 104 hK rfl rfl ?_
        refine x_iload 106 hK rfl rfl lk1_s ?_
        refine x_if_eq 113 109 hK rfl rfl rfl (by omega) (fun _ => ?_) (fun c => by omega)
        refine x_aload_n 114 hK rfl rfl (lk1_n l1 (by decide) (Or.inl rfl)) ?_
        refine x_bipush 116 hK rfl rfl rfl ?_
        refine x_iload_n 117 hK rfl rfl (lk1_n l3 (by decide) (Or.inl rfl)) ?_
        refine x_iadd 118 hK rfl rfl ?_
        refine x_ialoadE 119 hK rfl rfl (sp_179 (h := h4) hG4) (by omega) (by omega) (by omega) (e' := (gi h 179 (41 + k.toNat))) ((gi_a (by decide) _).trans ((gi_k (by omega) _).trans (((gi_to (by omega)).trans ((fl k.toNat (by omega)).1.trans (if_neg (by omega))))))) ?_
        refine x_aload_n 120 hK rfl rfl (lk1_n l0 (by decide) (Or.inl rfl)) ?_
        refine x_getR 123 hK rfl rfl (sp_171 (h := h4) hG4) (rf_171_13 (h := h4) hG4) ?_
        refine x_iload_n 124 hK rfl rfl (lk1_n l3 (by decide) (Or.inl rfl)) ?_
        refine x_ialoadE 125 hK rfl rfl (sp_177 (h := h4) hG4) (by omega) (by omega) (by omega) (e' := (gi h 177 k.toNat)) ((gi_a (by decide) _).trans ((gi_a (by decide) _).trans (FRM_gi hF4 (r := 60) rfl rfl))) ?_
        refine x_isub 126 hK rfl rfl ?_
        refine x_iastore 127 hK rfl rfl (sp_179 (h := h4) hG4) (by omega) (by omega) (by omega) ?_
        refine x_iinc 130 hK rfl rfl (lk1_n l3 (by decide) (Or.inl rfl)) _ rfl ?_
        refine x_goto 41 hK rfl rfl ?_
        have n3 : gi (wI (wI (wI h4 179 (49 + k).toNat ((gi h 179 (49 + k.toNat)) + 0)) 171 32 ((gi h4 171 32) + 0)) 179 (41 + k).toNat ((gi h 179 (41 + k.toNat)) - (gi h 177 k.toNat))) 179 3 = gi h4 179 3 := ((gi_k (by omega) _).trans ((gi_a (by decide) _).trans ((gi_k (by omega) _).trans rfl)))
        have y1 : gi (wI (wI (wI h4 179 (49 + k).toNat ((gi h 179 (49 + k.toNat)) + 0)) 171 32 ((gi h4 171 32) + 0)) 179 (41 + k).toNat ((gi h 179 (41 + k.toNat)) - (gi h 177 k.toNat))) 179 (41 + k).toNat = ((gi h 179 (41 + k.toNat)) - (gi h 177 k.toNat)) := gi_same (by omega)
        have y2 : gi (wI (wI (wI h4 179 (49 + k).toNat ((gi h 179 (49 + k.toNat)) + 0)) 171 32 ((gi h4 171 32) + 0)) 179 (41 + k).toNat ((gi h 179 (41 + k.toNat)) - (gi h 177 k.toNat))) 179 (49 + k).toNat = ((gi h 179 (49 + k.toNat)) + 0) := (gi_k (by omega) _).trans ((gi_a (by decide) _).trans (gi_same (by omega)))
        have fn : ∀ j : Nat, j < 8 → gi (wI (wI (wI h4 179 (49 + k).toNat ((gi h 179 (49 + k.toNat)) + 0)) 171 32 ((gi h4 171 32) + 0)) 179 (41 + k).toNat ((gi h 179 (41 + k.toNat)) - (gi h 177 k.toNat))) 179 (41 + j) = (if (j : Int) < (k + 1) then fdS (gi h 179 (41 + j)) (gi h 177 j) else gi h 179 (41 + j)) ∧ gi (wI (wI (wI h4 179 (49 + k).toNat ((gi h 179 (49 + k.toNat)) + 0)) 171 32 ((gi h4 171 32) + 0)) 179 (41 + k).toNat ((gi h 179 (41 + k.toNat)) - (gi h 177 k.toNat))) 179 (49 + j) = (if (j : Int) < (k + 1) then huS (gi h 179 (49 + j)) (gi h 179 (41 + j)) (gi h 177 j) else gi h 179 (49 + j)) := by
          intro j hj
          by_cases c : j = k.toNat
          · subst c
            rw [if_pos (by omega), if_pos (by omega), (gi_to (show 41 + k.toNat = (41 + k).toNat by omega)).trans y1, (gi_to (show 49 + k.toNat = (49 + k).toNat by omega)).trans y2]
            unfold fdS huS
            rw [if_neg (by omega), if_neg (by omega)]
            exact ⟨rfl, Int.add_zero _⟩
          · rw [← if_j k0.1 c, ← if_j k0.1 c]
            exact ⟨((gi_k (by omega) _).trans ((gi_a (by decide) _).trans ((gi_k (by omega) _).trans (fl j hj).1))), ((gi_k (by omega) _).trans ((gi_a (by decide) _).trans ((gi_k (by omega) _).trans (fl j hj).2)))⟩
        exact ih _ (by omega) (k + 1) _ _ rfl (by omega) (((gi_k (by omega) _).trans ((gi_a (by decide) _).trans ((gi_k (by omega) _).trans a0)))) (((gi_k (by omega) _).trans ((gi_a (by decide) _).trans ((gi_k (by omega) _).trans a1)))) (((gi_k (by omega) _).trans ((gi_a (by decide) _).trans ((gi_k (by omega) _).trans a2)))) (((gi_k (by omega) _).trans ((gi_a (by decide) _).trans ((gi_k (by omega) _).trans a4)))) ((by rw [← aw, wl_RC (by rw [n3]; omega), wl_RC (by omega), n3]; exact wlK_congr fun j z1 z2 => ((gi_k (by omega) _).trans ((gi_a (by decide) _).trans ((gi_k (by omega) _).trans rfl))))) (fn) (lk1_n (lk1_n l0 (by decide) (Or.inl rfl)) (by decide) (Or.inl rfl)) (lk1_n (lk1_n l1 (by decide) (Or.inl rfl)) (by decide) (Or.inl rfl)) lk1_s (GD_st (GD_w0 (GD_st (hG4) (r := 62) rfl rfl (fun z => by omega) (fun z => by omega) (fun j hj z => by omega)) (r := 54) rfl rfl) (r := 62) rfl rfl (fun z => by omega) (fun z => by omega) (fun j hj z => by omega)) (FRM_wn 0 56 (FRM_w (FRM_wn 0 56 (hF4) (r := 62) rfl rfl rfl (by omega) (by omega)) (r := 54) rfl rfl) (r := 62) rfl rfl rfl (by omega) (by omega))
      · refine x_iconst 65 hK rfl rfl ?_
        refine x_goto 69 hK rfl rfl ?_
        refine x_istore 71 hK rfl rfl _ rfl ?_
        refine x_aload_n 72 hK rfl rfl (lk1_n l1 (by decide) (Or.inl rfl)) ?_
        refine x_bipush 74 hK rfl rfl rfl ?_
        refine x_iload_n 75 hK rfl rfl (lk1_n l3 (by decide) (Or.inl rfl)) ?_
        refine x_iadd 76 hK rfl rfl ?_
        refine x_dup2 77 hK rfl rfl rfl rfl ?_
        refine x_ialoadE 78 hK rfl rfl (sp_179 (h := h4) hG4) (by omega) (by omega) (by omega) (e' := (gi h 179 (49 + k.toNat))) (((gi_to (by omega)).trans ((fl k.toNat (by omega)).2.trans (if_neg (by omega))))) ?_
        refine x_iload 80 hK rfl rfl lk1_s ?_
        refine x_callS 83 hK hmono rfl (Or.inl rfl) rfl [.int (I 1)] [.int (I (gi h 179 (49 + k.toNat))), .int (I (49 + k)), .ref 179] rfl rfl (Nat.le_of_ble_eq_true rfl) (Nat.le_of_ble_eq_true rfl) (CLd_le (Nat.le_of_ble_eq_true rfl) (ctX11_flag (by omega))) ?_
        rintro v9 h9 ⟨e9, rfl⟩
        rw [e9]
        clear e9
        refine x_iadd 84 hK rfl rfl ?_
        refine x_iastore 85 hK rfl rfl (sp_179 (h := h4) hG4) (by omega) (by omega) (by omega) ?_
        refine x_aload_n 86 hK rfl rfl (lk1_n l0 (by decide) (Or.inl rfl)) ?_
        refine x_dup 87 hK rfl rfl rfl ?_
        have g586 := gi_r h4 171 32
        refine x_getE 90 hK rfl (Or.inl rfl) rfl (sp_171 (h := h4) hG4) (e := (gi h4 171 32)) (gi_a (by decide) _) ?_
        refine x_iload 92 hK rfl rfl lk1_s ?_
        have hGp587 : GD gE gRL sh (wI h4 179 (49 + k).toNat ((gi h 179 (49 + k.toNat)) + 1)) := GD_st (hG4) (r := 62) rfl rfl (fun z => by omega) (fun z => by omega) (fun j hj z => by omega)
        refine x_callS 95 hK hmono rfl (Or.inl rfl) rfl [.int (I 1)] [.int (I (gi h4 171 32)), .ref 171] rfl rfl (Nat.le_of_ble_eq_true rfl) (Nat.le_of_ble_eq_true rfl) (CLd_le (Nat.le_of_ble_eq_true rfl) (ctX11_flag (by omega))) ?_
        rintro v9 h9 ⟨e9, rfl⟩
        rw [e9]
        clear e9
        refine x_iadd 96 hK rfl rfl ?_
        refine x_putI 99 hK rfl rfl (sp_171 (h := h4) hG4) ?_
        refine x_aload_n 100 hK rfl rfl (lk1_n l1 (by decide) (Or.inl rfl)) ?_
        refine x_bipush 102 hK rfl rfl rfl ?_
        refine x_iload_n 103 hK rfl rfl (lk1_n l3 (by decide) (Or.inl rfl)) ?_
        refine x_iadd 104 hK rfl rfl ?_
        refine x_iload 106 hK rfl rfl lk1_s ?_
        refine x_if_eq 113 109 hK rfl rfl rfl (by omega) (fun c => by omega) (fun _ => ?_)
        refine x_iconst 110 hK rfl rfl ?_
        refine x_goto 126 hK rfl rfl ?_
        refine x_iastore 127 hK rfl rfl (sp_179 (h := h4) hG4) (by omega) (by omega) (by omega) ?_
        refine x_iinc 130 hK rfl rfl (lk1_n l3 (by decide) (Or.inl rfl)) _ rfl ?_
        refine x_goto 41 hK rfl rfl ?_
        have n3 : gi (wI (wI (wI h4 179 (49 + k).toNat ((gi h 179 (49 + k.toNat)) + 1)) 171 32 ((gi h4 171 32) + 1)) 179 (41 + k).toNat 0) 179 3 = gi h4 179 3 := ((gi_k (by omega) _).trans ((gi_a (by decide) _).trans ((gi_k (by omega) _).trans rfl)))
        have y1 : gi (wI (wI (wI h4 179 (49 + k).toNat ((gi h 179 (49 + k.toNat)) + 1)) 171 32 ((gi h4 171 32) + 1)) 179 (41 + k).toNat 0) 179 (41 + k).toNat = 0 := gi_same (by omega)
        have y2 : gi (wI (wI (wI h4 179 (49 + k).toNat ((gi h 179 (49 + k.toNat)) + 1)) 171 32 ((gi h4 171 32) + 1)) 179 (41 + k).toNat 0) 179 (49 + k).toNat = ((gi h 179 (49 + k.toNat)) + 1) := (gi_k (by omega) _).trans ((gi_a (by decide) _).trans (gi_same (by omega)))
        have fn : ∀ j : Nat, j < 8 → gi (wI (wI (wI h4 179 (49 + k).toNat ((gi h 179 (49 + k.toNat)) + 1)) 171 32 ((gi h4 171 32) + 1)) 179 (41 + k).toNat 0) 179 (41 + j) = (if (j : Int) < (k + 1) then fdS (gi h 179 (41 + j)) (gi h 177 j) else gi h 179 (41 + j)) ∧ gi (wI (wI (wI h4 179 (49 + k).toNat ((gi h 179 (49 + k.toNat)) + 1)) 171 32 ((gi h4 171 32) + 1)) 179 (41 + k).toNat 0) 179 (49 + j) = (if (j : Int) < (k + 1) then huS (gi h 179 (49 + j)) (gi h 179 (41 + j)) (gi h 177 j) else gi h 179 (49 + j)) := by
          intro j hj
          by_cases c : j = k.toNat
          · subst c
            rw [if_pos (by omega), if_pos (by omega), (gi_to (show 41 + k.toNat = (41 + k).toNat by omega)).trans y1, (gi_to (show 49 + k.toNat = (49 + k).toNat by omega)).trans y2]
            unfold fdS huS
            rw [if_pos (by omega), if_pos (by omega)]
            exact ⟨rfl, rfl⟩
          · rw [← if_j k0.1 c, ← if_j k0.1 c]
            exact ⟨((gi_k (by omega) _).trans ((gi_a (by decide) _).trans ((gi_k (by omega) _).trans (fl j hj).1))), ((gi_k (by omega) _).trans ((gi_a (by decide) _).trans ((gi_k (by omega) _).trans (fl j hj).2)))⟩
        exact ih _ (by omega) (k + 1) _ _ rfl (by omega) (((gi_k (by omega) _).trans ((gi_a (by decide) _).trans ((gi_k (by omega) _).trans a0)))) (((gi_k (by omega) _).trans ((gi_a (by decide) _).trans ((gi_k (by omega) _).trans a1)))) (((gi_k (by omega) _).trans ((gi_a (by decide) _).trans ((gi_k (by omega) _).trans a2)))) (((gi_k (by omega) _).trans ((gi_a (by decide) _).trans ((gi_k (by omega) _).trans a4)))) ((by rw [← aw, wl_RC (by rw [n3]; omega), wl_RC (by omega), n3]; exact wlK_congr fun j z1 z2 => ((gi_k (by omega) _).trans ((gi_a (by decide) _).trans ((gi_k (by omega) _).trans rfl))))) (fn) (lk1_n (lk1_n l0 (by decide) (Or.inl rfl)) (by decide) (Or.inl rfl)) (lk1_n (lk1_n l1 (by decide) (Or.inl rfl)) (by decide) (Or.inl rfl)) lk1_s (GD_st (GD_w0 (GD_st (hG4) (r := 62) rfl rfl (fun z => by omega) (fun z => by omega) (fun j hj z => by omega)) (r := 54) rfl rfl) (r := 62) rfl rfl (fun z => by omega) (fun z => by omega) (fun j hj z => by omega)) (FRM_wn 0 56 (FRM_w (FRM_wn 0 56 (hF4) (r := 62) rfl rfl rfl (by omega) (by omega)) (r := 54) rfl rfl) (r := 62) rfl rfl rfl (by omega) (by omega))
  refine x_aload_n 1 hK rfl rfl rfl ?_
  refine x_iconst 2 hK rfl rfl ?_
  refine x_dup2 3 hK rfl rfl rfl rfl ?_
  have g589 := gi_r h 179 0
  refine x_ialoadE 4 hK rfl rfl (sp_179 (h := h) hG) (by omega) (by omega) (by omega) (e' := (gi h 179 0)) (rfl) ?_
  refine x_iconst 5 hK rfl rfl ?_
  refine x_iadd 6 hK rfl rfl ?_
  refine x_iastore 7 hK rfl rfl (sp_179 (h := h) hG) (by omega) (by omega) (by omega) ?_
  refine x_aload_n 8 hK rfl rfl rfl ?_
  change K 8 _ _ (wI h 179 0 ((gi h 179 0) + 1)) _ _
  have hG1 : GD gE gRL sh (wI h 179 0 ((gi h 179 0) + 1)) := GD_w0 (hG) (r := 62) rfl rfl
  have e0 : gi (wI h 179 0 ((gi h 179 0) + 1)) 179 0 = gi h 179 0 + 1 := gi_same (by omega)
  have ew : wl (RC (wI h 179 0 ((gi h 179 0) + 1)) 179 0) = wl (RC h 179 0) := by rw [wl_RC (by rw [gi_k (by decide)]; omega), wl_RC (by omega), gi_k (by decide)]; exact wlK_congr fun j z1 z2 => gi_k (by omega) _
  refine x_callS 11 hK hmono rfl (Or.inl rfl) rfl [.ref 179] [] rfl rfl (Nat.le_of_ble_eq_true rfl) (Nat.le_of_ble_eq_true rfl) (CLd_le (Nat.le_of_ble_eq_true rfl) (ctX11_doesDueTF hSP hG1)) ?_
  rintro v2 h2 ⟨rfl, hG2, hF2, d1, d2⟩
  rw [e0, ew] at d1 d2
  rw [show gi (wI h 179 0 ((gi h 179 0) + 1)) 179 1 = gi h 179 1 from gi_k (by decide) _, ← eL] at d1
  refine x_aload_n 12 hK rfl rfl rfl ?_
  refine x_aload_n 13 hK rfl rfl rfl ?_
  refine x_iconst 14 hK rfl rfl ?_
  refine x_ialoadE 15 hK rfl rfl (sp_179 (h := h2) hG2) (by omega) (by omega) (by omega) (e' := ((gi h 179 0) + 1)) ((FRM_gi hF2 (r := 62) rfl rfl).trans (gi_same (by omega))) ?_
  refine x_aload_n 16 hK rfl rfl rfl ?_
  refine x_iconst 17 hK rfl rfl ?_
  refine x_ialoadE 18 hK rfl rfl (sp_179 (h := h2) hG2) (by omega) (by omega) (by omega) (e' := (stL (vw (RC h 179 0)))) (d1) ?_
  refine x_callV 21 hK hmono rfl rfl [.ref 171, .int (I ((gi h 179 0) + 1)), .int (I (stL (vw (RC h 179 0))))] [] rfl rfl (Nat.le_of_ble_eq_true rfl) (Nat.le_of_ble_eq_true rfl) rfl (sp_171 (h := h2) hG2) (CLd_le (Nat.le_of_ble_eq_true rfl) (ctX11_hitsAtF hSP hG2 (by omega) (by omega))) ?_
  rintro v9 h9 ⟨e9, rfl⟩
  rw [e9, show gi h2 175 = gi h 175 from funext fun j => (FRM_gi hF2 (r := 58) rfl rfl).trans (gi_a (by decide) _), show gi h2 176 = gi h 176 from funext fun j => (FRM_gi hF2 (r := 59) rfl rfl).trans (gi_a (by decide) _), show gi h2 171 6 = gi h 171 6 from (FRM_gi hF2 (r := 54) rfl rfl).trans (gi_a (by decide) _), ← eH]
  clear e9
  rw [← eH] at hH
  refine x_istore_n 22 hK rfl rfl [(2, .int (I (stH (gi h 175) (gi h 176) (gi h 171 6).toNat (vw (RC h 179 0))))), (0, .ref 171), (1, .ref 179)] rfl ?_
  refine x_aload_n 23 hK rfl rfl rfl ?_
  refine x_iconst 24 hK rfl rfl ?_
  refine x_dup2 25 hK rfl rfl rfl rfl ?_
  have g590 := gi_r h 179 2
  refine x_ialoadE 26 hK rfl rfl (sp_179 (h := h2) hG2) (by omega) (by omega) (by omega) (e' := (gi h 179 2)) ((FRM_gi hF2 (r := 62) rfl rfl).trans (gi_k (by decide) _)) ?_
  refine x_iload_n 27 hK rfl rfl rfl ?_
  refine x_iadd 28 hK rfl rfl ?_
  refine x_iastore 29 hK rfl rfl (sp_179 (h := h2) hG2) (by omega) (by omega) (by omega) ?_
  refine x_aload_n 30 hK rfl rfl rfl ?_
  refine x_dup 31 hK rfl rfl rfl ?_
  have g591 := gi_r h 171 31
  refine x_getE 34 hK rfl (Or.inl rfl) rfl (sp_171 (h := h2) hG2) (e := (gi h 171 31)) ((gi_a (by decide) _).trans ((FRM_gi hF2 (r := 54) rfl rfl).trans (gi_a (by decide) _))) ?_
  refine x_iload_n 35 hK rfl rfl rfl ?_
  refine x_iadd 36 hK rfl rfl ?_
  refine x_putI 39 hK rfl rfl (sp_171 (h := h2) hG2) ?_
  refine x_iconst 40 hK rfl rfl ?_
  refine x_istore_n 41 hK rfl rfl [(3, .int (I 0)), (2, .int (I (stH (gi h 175) (gi h 176) (gi h 171 6).toNat (vw (RC h 179 0))))), (0, .ref 171), (1, .ref 179)] rfl ?_
  change K 41 _ _ (wI (wI h2 179 2 ((gi h 179 2) + (stH (gi h 175) (gi h 176) (gi h 171 6).toNat (vw (RC h 179 0))))) 171 31 ((gi h 171 31) + (stH (gi h 175) (gi h 176) (gi h 171 6).toNat (vw (RC h 179 0))))) _ _
  have g23 := gri 0 12 hG2 (a := 179) (r := 62) (k := 3) rfl rfl
  have n3 : gi (wI (wI h2 179 2 ((gi h 179 2) + (stH (gi h 175) (gi h 176) (gi h 171 6).toNat (vw (RC h 179 0))))) 171 31 ((gi h 171 31) + (stH (gi h 175) (gi h 176) (gi h 171 6).toNat (vw (RC h 179 0))))) 179 3 = gi h2 179 3 := (gi_a (by decide) _).trans (gi_k (by decide) _)
  exact loop _ 0 _ _ rfl (by omega) ((gi_a (by decide) _).trans ((gi_k (by decide) _).trans ((FRM_gi hF2 (r := 62) rfl rfl).trans (gi_same (by omega))))) ((gi_a (by decide) _).trans ((gi_k (by decide) _).trans (d1))) ((gi_a (by decide) _).trans (gi_same (by omega))) ((gi_a (by decide) _).trans ((gi_k (by decide) _).trans ((FRM_gi hF2 (r := 62) rfl rfl).trans (gi_k (by decide) _)))) ((by rw [← d2, wl_RC (by rw [n3]; omega), wl_RC (by omega), n3]; exact wlK_congr fun j z1 z2 => (gi_a (by decide) _).trans (gi_k (by omega) _))) ((fun j hj => by rw [if_neg (by omega), if_neg (by omega)]; exact ⟨(gi_a (by decide) _).trans ((gi_k (by omega) _).trans ((FRM_gi hF2 (r := 62) rfl (mh_179 (by omega))).trans (gi_k (by omega) _))), (gi_a (by decide) _).trans ((gi_k (by omega) _).trans ((FRM_gi hF2 (r := 62) rfl (mh_179 (by omega))).trans (gi_k (by omega) _)))⟩)) rfl rfl rfl (GD_w0 (GD_w0 (hG2) (r := 62) rfl rfl) (r := 54) rfl rfl) (FRM_w (FRM_w ((FRM_w ((FRM.rf : FRM gRL [(0, 54, 31, 32), (0, 62, 0, 56)] h h)) (r := 62) rfl rfl).trans ((hF2).mono rfl)) (r := 62) rfl rfl) (r := 54) rfl rfl)
/-- in STEP k from now she hits ROCK r -/
noncomputable def hitA (ml ln : Nat → Int) (w : WS) (k : Int) (r : Nat) : Prop := ml r = w.1 + k ∧ ln r = lnW w k
noncomputable def PSt (ml ln : Nat → Int) (w : WS) (nr : Nat) (e f : Int) : Prop := (e = -2 ∧ f = -1 ∧ ∀ r : Nat, r < nr → ∀ k : Int, 1 ≤ k → k ≤ 999 → ¬ hitA ml ln w k r) ∨ ((0 ≤ f ∧ f < nr) ∧ (1 ≤ e ∧ e ≤ 999) ∧ hitA ml ln w e f.toNat ∧ (∀ r : Nat, (r : Int) < f → ¬ hitA ml ln w e r) ∧ ∀ r : Nat, r < nr → ∀ k : Int, 1 ≤ k → k < e → ¬ hitA ml ln w k r)
theorem PSt_u {ml ln : Nat → Int} {w : WS} {nr : Nat} {e f e' f' : Int} (h : PSt ml ln w nr e f) (h' : PSt ml ln w nr e' f') : e = e' ∧ f = f' := by
  rcases h with ⟨a1, a2, a3⟩ | ⟨a0, a1, a2, a3, a4⟩
  · rcases h' with ⟨b1, b2, b3⟩ | ⟨b0, b1, b2, b3, b4⟩
    · exact ⟨by omega, by omega⟩
    · exact absurd b2 (a3 _ (by omega) _ b1.1 b1.2)
  · rcases h' with ⟨b1, b2, b3⟩ | ⟨b0, b1, b2, b3, b4⟩
    · exact absurd a2 (b3 _ (by omega) _ a1.1 a1.2)
    · have e1 : e = e' := by
        by_cases c : e < e'
        · exact absurd a2 (b4 _ (by omega) _ a1.1 c)
        · by_cases d : e' < e
          · exact absurd b2 (a4 _ (by omega) _ b1.1 d)
          · omega
      subst e1
      refine ⟨rfl, ?_⟩
      by_cases c : f < f'
      · exact absurd a2 (b3 _ (by omega))
      · by_cases d : f' < f
        · exact absurd b2 (a3 _ (by omega))
        · omega
theorem PSt_c {ml ln ml' ln' : Nat → Int} {w : WS} {nr : Nat} {e f : Int} (hc : ∀ j : Nat, j < nr → ml' j = ml j ∧ ln' j = ln j) (h : PSt ml' ln' w nr e f) : PSt ml ln w nr e f := by
  have hi : ∀ r : Nat, r < nr → ∀ k : Int, hitA ml ln w k r → hitA ml' ln' w k r := fun r hr k z => ⟨(hc r hr).1.trans z.1, (hc r hr).2.trans z.2⟩
  rcases h with ⟨a1, a2, a3⟩ | ⟨a0, a1, a2, a3, a4⟩
  · exact Or.inl ⟨a1, a2, fun r hr k h1 h2 z => a3 r hr k h1 h2 (hi r hr k z)⟩
  · exact Or.inr ⟨a0, a1, ⟨(hc _ (by omega)).1.symm.trans a2.1, (hc _ (by omega)).2.symm.trans a2.2⟩, fun r hr z => a3 r hr (hi r (by omega) _ z), fun r hr k h1 h2 z => a4 r hr k h1 h2 (hi r hr k z)⟩
/-- of the first i ROCKS -/
noncomputable def QSt (ml ln : Nat → Int) (w : WS) (i : Nat) (s f : Int) : Prop := (f = -1 ∧ s = 1000 ∧ ∀ r : Nat, r < i → ∀ k : Int, 1 ≤ k → k ≤ 999 → ¬ hitA ml ln w k r) ∨ ((0 ≤ f ∧ f < i) ∧ (1 ≤ s ∧ s ≤ 999) ∧ hitA ml ln w s f.toNat ∧ (∀ r : Nat, (r : Int) < f → ¬ hitA ml ln w s r) ∧ ∀ r : Nat, r < i → ∀ k : Int, 1 ≤ k → k < s → ¬ hitA ml ln w k r)
theorem QSt_no {ml ln : Nat → Int} {w : WS} {i : Nat} {s f : Int} (h : QSt ml ln w i s f) (hn : ¬ (1 ≤ ml i - w.1 ∧ ml i - w.1 < s ∧ lnW w (ml i - w.1) = ln i)) : QSt ml ln w (i + 1) s f := by
  have key : ∀ k : Int, 1 ≤ k → k < s → ¬ hitA ml ln w k i := fun k h1 h2 z => by
    have e : ml i - w.1 = k := by have := z.1; omega
    rw [e] at hn
    exact hn ⟨h1, h2, z.2.symm⟩
  rcases h with ⟨a1, a2, a3⟩ | ⟨a0, a1, a2, a3, a4⟩
  · refine Or.inl ⟨a1, a2, fun r hr k h1 h2 => ?_⟩
    by_cases c : r = i
    · rw [c]; exact key k h1 (by omega)
    · exact a3 r (by omega) k h1 h2
  · refine Or.inr ⟨⟨a0.1, by omega⟩, a1, a2, a3, fun r hr k h1 h2 => ?_⟩
    by_cases c : r = i
    · rw [c]; exact key k h1 h2
    · exact a4 r (by omega) k h1 h2
theorem QSt_yes {ml ln : Nat → Int} {w : WS} {i : Nat} {s f : Int} (h : QSt ml ln w i s f) (h1 : 1 ≤ ml i - w.1) (h2 : ml i - w.1 < s) (h3 : lnW w (ml i - w.1) = ln i) : QSt ml ln w (i + 1) (ml i - w.1) i := by
  have old : ∀ r : Nat, r < i → ∀ k : Int, 1 ≤ k → k < s → k ≤ 999 → ¬ hitA ml ln w k r := fun r hr k g1 g2 g3 => by
    rcases h with ⟨a1, a2, a3⟩ | ⟨a0, a1, a2, a3, a4⟩
    · exact a3 r hr k g1 g3
    · exact a4 r hr k g1 g2
  have sb : s ≤ 1000 := by
    rcases h with ⟨a1, a2, a3⟩ | ⟨a0, a1, a2, a3, a4⟩ <;> omega
  refine Or.inr ⟨⟨by omega, by omega⟩, ⟨h1, by omega⟩, ⟨by rw [Int.toNat_natCast]; omega, by rw [Int.toNat_natCast]; exact h3.symm⟩, fun r hr => old r (by omega) _ h1 h2 (by omega), fun r hr k g1 g2 z => ?_⟩
  by_cases c : r = i
  · rw [c] at z
    have := z.1
    omega
  · exact old r (by omega) k g1 (by omega) (by omega) z
theorem QSt_end {ml ln : Nat → Int} {w : WS} {n : Nat} {s f : Int} (h : QSt ml ln w n s f) : (f = -1 → PSt ml ln w n (-2) (-1)) ∧ (f ≠ -1 → PSt ml ln w n s f) := by
  rcases h with ⟨a1, a2, a3⟩ | ⟨a0, a1, a2, a3, a4⟩
  · exact ⟨fun _ => Or.inl ⟨rfl, rfl, a3⟩, fun z => absurd a1 z⟩
  · exact ⟨fun z => by omega, fun _ => Or.inr ⟨a0, a1, a2, a3, a4⟩⟩
set_option maxRecDepth 4000 in
theorem ctX10_strikesF {SP : CT} (hSP : MONO SP) {sh : List (Nat × Nat)} {h : aH} (hG : GD gE gRL sh h) {b : Int} {w : WS} {ms : Int} (hS : STR ms (kS h 23) w) (hw : WW b w) (hb : b ≤ 950000) (hml : ∀ j : Nat, (j : Int) < gi h 19 0 → 0 ≤ gi h 20 j ∧ gi h 20 j ≤ 999) : CLd SP 4 mX10_strikes [.ref 0] h 0 0 (fun rv h' => (∃ e f : Int, rv = some (.int (I e)) ∧ PSt (gi h 20) (gi h 21) w (gi h 19 0).toNat e f ∧ (e = -2 → h' = h) ∧ (e ≠ -2 → gi h' 3 1 = 1 ∧ crow h' = [f])) ∧ GD gE gRL sh h' ∧ FRM gRL [(0, 3, 1, 1), (1, 4, 0, 29)] h h') := by
  refine x_met _ rfl (Nat.le_of_ble_eq_true rfl) (fun K hK => ?_)
  have hmono := MONO_CLd hSP 3
  obtain ⟨k0, k1, k2, k3, k4, k5, k6⟩ := STR_to hG hS
  have hb1 := STR_hb hG hS hw (by omega)
  have lb := hw.2.1
  have w0 := hw.1
  have g19 := gri 0 16 hG (a := 19) (r := 13) (k := 0) rfl rfl
  have loop : ∀ (mz : Nat) (s f i : Int) (ls : List (Nat × Value)), (((gi h 19 0) - i).toNat = mz) → (0 ≤ i ∧ i ≤ (gi h 19 0)) → (QSt (gi h 20) (gi h 21) w i.toNat s f) → (1 ≤ s ∧ s ≤ 1000) → (-1 ≤ f ∧ f ≤ 16) → lk ls 0 = some (.ref 0) → lk ls 1 = some (.int (I s)) → lk ls 2 = some (.int (I f)) → lk ls 3 = some (.int (I i)) → K 8 ls [] h 0 0 := by
    intro mz
    induction mz using Nat.strongRecOn with
    | ind mz ih =>
    intro s f i ls hm i0 q0 s0 f0 l0 l1 l2 l3
    have gm := fun z : i < (gi h 19 0) => hml i.toNat (by omega)
    have gl2 := fun z : i < (gi h 19 0) => grn 0 8 hG (a := 21) (r := 15) (k := i.toNat) rfl rfl (by omega)
    refine x_iload_n 9 hK rfl rfl l3 ?_
    refine x_aload_n 10 hK rfl rfl l0 ?_
    refine x_getR 13 hK rfl rfl (sp_0 (h := h) hG) (rf_0_7 (h := h) hG) ?_
    have g592 := gri (0) (16) hG (a := 19) (r := 13) (k := 0) rfl rfl
    refine x_getE 16 hK rfl (Or.inl rfl) rfl (sp_19 (h := h) hG) (e := (gi h 19 0)) (rfl) ?_
    refine x_if_icmp_ge 82 19 hK rfl rfl rfl (by omega) (by omega) (fun c5 => ?_) (fun c5 => ?_)
    · refine x_iload_n 83 hK rfl rfl l2 ?_
      refine x_iconst 84 hK rfl rfl ?_
      refine x_if_icmp_ne 90 87 hK rfl rfl rfl (by omega) (by omega) (fun c8 => ?_) (fun c8 => ?_)
      · refine x_aload_n 91 hK rfl rfl l0 ?_
        refine x_getR 94 hK rfl rfl (sp_0 (h := h) hG) (rf_0_1 (h := h) hG) ?_
        refine x_iload_n 95 hK rfl rfl l2 ?_
        refine x_i2l 96 hK rfl rfl (by omega) ?_
        refine x_callV 99 hK hmono rfl rfl [.ref 3, .long (J f)] [] rfl rfl (Nat.le_of_ble_eq_true rfl) (Nat.le_of_ble_eq_true rfl) rfl (sp_3 (h := h) hG) (CLd_le (Nat.le_of_ble_eq_true rfl) (ctX3_tellOne hSP hG (by omega))) ?_
        rintro v593 h593 ⟨rfl, hG593, hF593, t593, s593⟩
        refine x_iload_n 100 hK rfl rfl l1 ?_
        exact x_iret hK rfl ⟨⟨s, f, rfl, by rw [show (gi h 19 0).toNat = i.toNat by omega]; exact (QSt_end q0).2 (by omega), fun z => by omega, fun _ => ⟨t593, s593⟩⟩, hG593, hF593⟩
      · refine x_bipush 89 hK rfl rfl rfl ?_
        exact x_iret hK rfl ⟨⟨-2, -1, rfl, by rw [show (gi h 19 0).toNat = i.toNat by omega]; exact (QSt_end q0).1 (by omega), fun _ => rfl, fun z => absurd rfl z⟩, hG, FRM.rf⟩
    · refine x_aload_n 20 hK rfl rfl l0 ?_
      refine x_getR 23 hK rfl rfl (sp_0 (h := h) hG) (rf_0_7 (h := h) hG) ?_
      refine x_getR 26 hK rfl rfl (sp_19 (h := h) hG) (rf_19_1 (h := h) hG) ?_
      refine x_iload_n 27 hK rfl rfl l3 ?_
      have g594 := gi_r h 20 i.toNat
      refine x_ialoadE 28 hK rfl rfl (sp_20 (h := h) hG) (by omega) (by omega) (by omega) (e' := (gi h 20 i.toNat)) (rfl) ?_
      refine x_aload_n 29 hK rfl rfl l0 ?_
      refine x_getR 32 hK rfl rfl (sp_0 (h := h) hG) (rf_0_10 (h := h) hG) ?_
      refine x_getE 35 hK rfl (Or.inl rfl) rfl (sp_23 (h := h) hG) (e := (w.1)) (k0) ?_
      refine x_isub 36 hK rfl rfl ?_
      refine x_istore 38 hK rfl rfl _ rfl ?_
      refine x_iload 40 hK rfl rfl lk1_s ?_
      refine x_iconst 41 hK rfl rfl ?_
      refine x_if_icmp_lt 76 44 hK rfl rfl rfl (by omega) (by omega) (fun c30 => ?_) (fun c30 => ?_)
      · refine x_iinc 79 hK rfl rfl (lk1_n l3 (by decide) (Or.inl rfl)) _ rfl ?_
        refine x_goto 8 hK rfl rfl ?_
        have gmi := gm (by omega)
        exact ih _ (by omega) s f (i + 1) _ rfl (by omega) (by rw [tn_s i0.1]; exact QSt_no q0 (fun z => by have z1 := z.1; have z2 := z.2.1; have z3 := z.2.2; omega)) (by omega) (by omega) (lk1_n (lk1_n l0 (by decide) (Or.inl rfl)) (by decide) (Or.inl rfl)) (lk1_n (lk1_n l1 (by decide) (Or.inl rfl)) (by decide) (Or.inl rfl)) (lk1_n (lk1_n l2 (by decide) (Or.inl rfl)) (by decide) (Or.inl rfl)) lk1_s
      · refine x_iload 46 hK rfl rfl lk1_s ?_
        refine x_iload_n 47 hK rfl rfl (lk1_n l1 (by decide) (Or.inl rfl)) ?_
        refine x_if_icmp_ge 76 50 hK rfl rfl rfl (by omega) (by omega) (fun c36 => ?_) (fun c36 => ?_)
        · refine x_iinc 79 hK rfl rfl (lk1_n l3 (by decide) (Or.inl rfl)) _ rfl ?_
          refine x_goto 8 hK rfl rfl ?_
          have gmi := gm (by omega)
          exact ih _ (by omega) s f (i + 1) _ rfl (by omega) (by rw [tn_s i0.1]; exact QSt_no q0 (fun z => by have z1 := z.1; have z2 := z.2.1; have z3 := z.2.2; omega)) (by omega) (by omega) (lk1_n (lk1_n l0 (by decide) (Or.inl rfl)) (by decide) (Or.inl rfl)) (lk1_n (lk1_n l1 (by decide) (Or.inl rfl)) (by decide) (Or.inl rfl)) (lk1_n (lk1_n l2 (by decide) (Or.inl rfl)) (by decide) (Or.inl rfl)) lk1_s
        · refine x_aload_n 51 hK rfl rfl (lk1_n l0 (by decide) (Or.inl rfl)) ?_
          refine x_getR 54 hK rfl rfl (sp_0 (h := h) hG) (rf_0_10 (h := h) hG) ?_
          refine x_iload 56 hK rfl rfl lk1_s ?_
          have li595 := lnW_b lb ((gi h 20 i.toNat) - (w.1))
          refine x_callV 59 hK hmono rfl rfl [.ref 23, .int (I ((gi h 20 i.toNat) - (w.1)))] [] rfl rfl (Nat.le_of_ble_eq_true rfl) (Nat.le_of_ble_eq_true rfl) rfl (sp_23 (h := h) hG) (CLd_le (Nat.le_of_ble_eq_true rfl) (ctX8_laneIn hSP hG (n := ((gi h 20 i.toNat) - (w.1))) (by omega) hb1 (by omega))) ?_
          rintro v9 h9 ⟨e9, rfl⟩
          rw [show ((kO h 23 (gi h 23 4).toNat).takeWhile fun q => decide (q.1 - gi h 23 0 ≤ ((gi h 20 i.toNat) - (w.1)))).foldl cpt (gi h 23 1) = lnW w ((gi h 20 i.toNat) - (w.1)) from by rw [k5, k0, k1]; rfl]
          rw [e9]
          clear e9
          refine x_aload_n 60 hK rfl rfl (lk1_n l0 (by decide) (Or.inl rfl)) ?_
          refine x_getR 63 hK rfl rfl (sp_0 (h := h) hG) (rf_0_7 (h := h) hG) ?_
          refine x_getR 66 hK rfl rfl (sp_19 (h := h) hG) (rf_19_2 (h := h) hG) ?_
          refine x_iload_n 67 hK rfl rfl (lk1_n l3 (by decide) (Or.inl rfl)) ?_
          have g596 := grn (0) (8) hG (a := 21) (r := 15) (k := i.toNat) rfl rfl (by omega)
          refine x_ialoadE 68 hK rfl rfl (sp_21 (h := h) hG) (by omega) (by omega) (by omega) (e' := (gi h 21 i.toNat)) (rfl) ?_
          refine x_if_icmp_ne 76 71 hK rfl rfl rfl (by omega) (by omega) (fun c49 => ?_) (fun c49 => ?_)
          · refine x_iinc 79 hK rfl rfl (lk1_n l3 (by decide) (Or.inl rfl)) _ rfl ?_
            refine x_goto 8 hK rfl rfl ?_
            have gmi := gm (by omega)
            exact ih _ (by omega) s f (i + 1) _ rfl (by omega) (by rw [tn_s i0.1]; exact QSt_no q0 (fun z => by have z1 := z.1; have z2 := z.2.1; have z3 := z.2.2; omega)) (by omega) (by omega) (lk1_n (lk1_n l0 (by decide) (Or.inl rfl)) (by decide) (Or.inl rfl)) (lk1_n (lk1_n l1 (by decide) (Or.inl rfl)) (by decide) (Or.inl rfl)) (lk1_n (lk1_n l2 (by decide) (Or.inl rfl)) (by decide) (Or.inl rfl)) lk1_s
          · refine x_iload 73 hK rfl rfl lk1_s ?_
            refine x_istore_n 74 hK rfl rfl _ rfl ?_
            refine x_iload_n 75 hK rfl rfl (lk1_n (lk1_n l3 (by decide) (Or.inl rfl)) (by decide) (Or.inl rfl)) ?_
            refine x_istore_n 76 hK rfl rfl _ rfl ?_
            refine x_iinc 79 hK rfl rfl (lk1_n (lk1_n (lk1_n l3 (by decide) (Or.inl rfl)) (by decide) (Or.inl rfl)) (by decide) (Or.inl rfl)) _ rfl ?_
            refine x_goto 8 hK rfl rfl ?_
            have gmi := gm (by omega)
            exact ih _ (by omega) ((gi h 20 i.toNat) - (w.1)) i (i + 1) _ rfl (by omega) (by rw [tn_s i0.1]; have z := QSt_yes q0 (by omega) (by omega) (by omega); rw [show ((i.toNat : Nat) : Int) = i by omega] at z; exact z) (by omega) (by omega) (lk1_n (lk1_n (lk1_n (lk1_n l0 (by decide) (Or.inl rfl)) (by decide) (Or.inl rfl)) (by decide) (Or.inl rfl)) (by decide) (Or.inl rfl)) (lk1_n (lk1_n lk1_s (by decide) (Or.inl rfl)) (by decide) (Or.inl rfl)) (lk1_n lk1_s (by decide) (Or.inl rfl)) lk1_s
  refine x_sipush 3 hK rfl rfl rfl ?_
  refine x_istore_n 4 hK rfl rfl [(1, .int (I 1000)), (0, .ref 0)] rfl ?_
  refine x_iconst 5 hK rfl rfl ?_
  refine x_istore_n 6 hK rfl rfl [(2, .int (I (-1))), (1, .int (I 1000)), (0, .ref 0)] rfl ?_
  refine x_iconst 7 hK rfl rfl ?_
  refine x_istore_n 8 hK rfl rfl [(3, .int (I 0)), (2, .int (I (-1))), (1, .int (I 1000)), (0, .ref 0)] rfl ?_
  exact loop _ 1000 (-1) 0 _ rfl (by omega) (Or.inl ⟨rfl, rfl, fun r hr => absurd hr (Nat.not_lt_zero _)⟩) (by omega) (by omega) rfl rfl rfl rfl
set_option maxRecDepth 4000 in
theorem ctX11_strikesF {SP : CT} (hSP : MONO SP) {sh : List (Nat × Nat)} {h : aH} (hG : GD gE gRL sh h) {b : Int} (ok : OKW (vw (RC h 178 0))) (wb : WB b (RC h 178 0)) (hb : b ≤ 900000) : CLd SP 12 mX11_strikes [.ref 171] h 0 0 (fun rv h' => (∃ e f : Int, rv = some (.int (I e)) ∧ PSt (gi h 175) (gi h 176) (vw (RC h 178 0)) (gi h 171 6).toNat e f ∧ (e = -2 → mrow h' = mrow h ∧ gi h' 171 1 = gi h 171 1) ∧ (e ≠ -2 → mrow h' = [f])) ∧ GD gE gRL sh h' ∧ FRM gRL [(0, 54, 0, 0), (0, 54, 1, 1), (0, 54, 31, 32), (0, 62, 0, 56), (1, 55, 0, 39)] h h') := by
  refine x_met _ rfl (Nat.le_of_ble_eq_true rfl) (fun K hK => ?_)
  have hmono := MONO_CLd hSP 11
  have g6 := gri 0 16 hG (a := 171) (r := 54) (k := 6) rfl rfl
  have hi : ∀ k : Int, 1 ≤ k → ∀ r : Nat, hitA (gi h 175) (gi h 176) (vw (RC h 178 0)) k r ↔ gi h 175 r = (stI (gi h 175) (gi h 176) (gi h 171 6).toNat (gi h 171 7) (gi h 177) k.toNat (vw (RC h 178 0))).1 ∧ gi h 176 r = (stI (gi h 175) (gi h 176) (gi h 171 6).toNat (gi h 171 7) (gi h 177) k.toNat (vw (RC h 178 0))).2.1 := fun k hk r => by
    rw [lnW_stI ok k.toNat, (stI_ln ok k.toNat).2.1, show ((k.toNat : Nat) : Int) = k by omega]
    exact Iff.rfl
  have loop : ∀ (mz : Nat) (k : Int) (h4 : aH) (ls : List (Nat × Value)), ((1000 - k).toNat = mz) → (1 ≤ k ∧ k ≤ 1000) → (vw (RC h4 179 0) = stI (gi h 175) (gi h 176) (gi h 171 6).toNat (gi h 171 7) (gi h 177) (k - 1).toNat (vw (RC h 178 0))) → (∀ r : Nat, r < (gi h 171 6).toNat → ∀ q : Int, 1 ≤ q → q < k → ¬ hitA (gi h 175) (gi h 176) (vw (RC h 178 0)) q r) → (WB (b + (k - 1)) (RC h4 179 0)) → (mrow h4 = mrow h) → (gi h4 171 1 = gi h 171 1) → lk ls 0 = some (.ref 171) → lk ls 1 = some (.int (I k)) → GD gE gRL sh h4 → FRM gRL [(0, 54, 0, 0), (0, 54, 1, 1), (0, 54, 31, 32), (0, 62, 0, 56), (1, 55, 0, 39)] h h4 → K 11 ls [] h4 0 0 := by
    intro mz
    induction mz using Nat.strongRecOn with
    | ind mz ih =>
    intro k h4 ls hm k0 sv no wb4 rw4 r14 l0 l1 hG4 hF4
    refine x_iload_n 12 hK rfl rfl l1 ?_
    refine x_sipush 15 hK rfl rfl rfl ?_
    refine x_if_icmp_gt 91 18 hK rfl rfl rfl (by omega) (by omega) (fun c3 => ?_) (fun c3 => ?_)
    · refine x_bipush 93 hK rfl rfl rfl ?_
      exact x_iret hK rfl ⟨⟨-2, -1, rfl, Or.inl ⟨rfl, rfl, fun r hr q h1 h2 => no r hr q h1 (by omega)⟩, fun _ => ⟨rw4, r14⟩, fun z => absurd rfl z⟩, hG4, hF4⟩
    · refine x_aload_n 19 hK rfl rfl l0 ?_
      refine x_aload_n 20 hK rfl rfl l0 ?_
      refine x_getR 23 hK rfl rfl (sp_171 (h := h4) hG4) (rf_171_15 (h := h4) hG4) ?_
      refine x_callV 26 hK hmono rfl rfl [.ref 171, .ref 179] [] rfl rfl (Nat.le_of_ble_eq_true rfl) (Nat.le_of_ble_eq_true rfl) rfl (sp_171 (h := h4) hG4) (CLd_le (Nat.le_of_ble_eq_true rfl) (ctX11_stepGoesTU hSP hG4 wb4 (by omega))) ?_
      rw [sv, show gi h4 175 = gi h 175 from funext fun j => FRM_gi hF4 (r := 58) rfl rfl, show gi h4 176 = gi h 176 from funext fun j => FRM_gi hF4 (r := 59) rfl rfl, show gi h4 171 6 = gi h 171 6 from FRM_gi hF4 (r := 54) rfl rfl, show gi h4 171 7 = gi h 171 7 from FRM_gi hF4 (r := 54) rfl rfl, show gi h4 177 = gi h 177 from funext fun j => FRM_gi hF4 (r := 60) rfl rfl]
      rintro v597 h597 ⟨rfl, hG597, hF597, sv597, wb597⟩
      have sk : vw (RC h597 179 0) = stI (gi h 175) (gi h 176) (gi h 171 6).toNat (gi h 171 7) (gi h 177) k.toNat (vw (RC h 178 0)) := by rw [show k.toNat = (k - 1).toNat + 1 by omega]; exact sv597
      have wk : WB (b + k) (RC h597 179 0) := by rw [show b + k = b + (k - 1) + 1 by omega]; exact wb597
      have s0 : gi h597 179 0 = (stI (gi h 175) (gi h 176) (gi h 171 6).toNat (gi h 171 7) (gi h 177) k.toNat (vw (RC h 178 0))).1 := by rw [← sk]; exact (RC_0 (a := 179) (k := 0) (by omega)).symm
      have s1 : gi h597 179 1 = (stI (gi h 175) (gi h 176) (gi h 171 6).toNat (gi h 171 7) (gi h 177) k.toNat (vw (RC h 178 0))).2.1 := by rw [← sk]; exact (RC_0 (a := 179) (k := 1) (by omega)).symm
      have rk0 := gi_r h597 179 0
      rw [s0] at rk0
      have rk1 := gi_r h597 179 1
      rw [s1] at rk1
      have fr : FRM gRL [(0, 54, 0, 0), (0, 54, 1, 1), (0, 54, 31, 32), (0, 62, 0, 56), (1, 55, 0, 39)] h h597 := hF4.trans (hF597.mono rfl)
      have rwn : mrow h597 = mrow h := (mrow_F hF597 rfl rfl).trans rw4
      have r1n : gi h597 171 1 = gi h 171 1 := (FRM_gi hF597 (r := 54) rfl rfl).trans r14
      refine x_iconst 27 hK rfl rfl ?_
      refine x_istore_n 28 hK rfl rfl _ rfl ?_
      have iho := ih
      have rock : ∀ (mz : Nat) (r : Int) (ls : List (Nat × Value)), ((gi h 171 6 - r).toNat = mz) → (0 ≤ r ∧ r ≤ gi h 171 6) → (∀ j : Nat, (j : Int) < r → ¬ hitA (gi h 175) (gi h 176) (vw (RC h 178 0)) k j) → lk ls 0 = some (.ref 171) → lk ls 1 = some (.int (I k)) → lk ls 2 = some (.int (I r)) → K 28 ls [] h597 0 0 := by
        intro mz
        induction mz using Nat.strongRecOn with
        | ind mz ih =>
        intro r ls hm r0 nr l0 l1 l2
        refine x_iload_n 29 hK rfl rfl l2 ?_
        refine x_aload_n 30 hK rfl rfl l0 ?_
        have g598 := gri (0) (16) hG (a := 171) (r := 54) (k := 6) rfl rfl
        refine x_getE 33 hK rfl (Or.inl rfl) rfl (sp_171 (h := h597) hG597) (e := (gi h 171 6)) (FRM_gi fr (r := 54) rfl rfl) ?_
        refine x_if_icmp_ge 85 36 hK rfl rfl rfl (by omega) (by omega) (fun c4 => ?_) (fun c4 => ?_)
        · refine x_iinc 88 hK rfl rfl l1 _ rfl ?_
          refine x_goto 11 hK rfl rfl ?_
          exact iho _ (by omega) (k + 1) _ _ rfl (by omega) (by rw [show (k + 1 - 1).toNat = k.toNat by omega]; exact sk) ((fun j hj q h1 h2 => by
            by_cases y : q = k
            · rw [y]; exact nr j (by omega)
            · exact no j hj q h1 (by omega))) (by rw [show b + (k + 1 - 1) = b + k by omega]; exact wk) (rwn) (r1n) (lk1_n l0 (by decide) (Or.inl rfl)) lk1_s (hG597) (fr)
        · refine x_aload_n 37 hK rfl rfl l0 ?_
          refine x_getR 40 hK rfl rfl (sp_171 (h := h597) hG597) (rf_171_11 (h := h597) hG597) ?_
          refine x_iload_n 41 hK rfl rfl l2 ?_
          have g599 := grn (0) (999) hG (a := 175) (r := 58) (k := r.toNat) rfl rfl (by omega)
          refine x_ialoadE 42 hK rfl rfl (sp_175 (h := h597) hG597) (by omega) (by omega) (by omega) (e' := (gi h 175 r.toNat)) (FRM_gi fr (r := 58) rfl rfl) ?_
          refine x_aload_n 43 hK rfl rfl l0 ?_
          refine x_getR 46 hK rfl rfl (sp_171 (h := h597) hG597) (rf_171_15 (h := h597) hG597) ?_
          refine x_iconst 47 hK rfl rfl ?_
          refine x_ialoadE 48 hK rfl rfl (sp_179 (h := h597) hG597) (by omega) (by omega) (by omega) (e' := (stI (gi h 175) (gi h 176) (gi h 171 6).toNat (gi h 171 7) (gi h 177) k.toNat (vw (RC h 178 0))).1) (s0) ?_
          refine x_if_icmp_ne 79 51 hK rfl rfl rfl (by omega) (by omega) (fun c16 => ?_) (fun c16 => ?_)
          · refine x_iinc 82 hK rfl rfl l2 _ rfl ?_
            refine x_goto 28 hK rfl rfl ?_
            exact ih _ (by omega) (r + 1) _ rfl (by omega) ((fun j hj z => by
              by_cases q : (j : Int) = r
              · rw [show j = r.toNat by omega] at z
                have z := (hi k k0.1 _).mp z
                first | omega | (have z1 := z.1; have z2 := z.2; omega)
              · exact nr j (by omega) z)) (lk1_n l0 (by decide) (Or.inl rfl)) (lk1_n l1 (by decide) (Or.inl rfl)) lk1_s
          · refine x_aload_n 52 hK rfl rfl l0 ?_
            refine x_getR 55 hK rfl rfl (sp_171 (h := h597) hG597) (rf_171_12 (h := h597) hG597) ?_
            refine x_iload_n 56 hK rfl rfl l2 ?_
            have g600 := gi_r h 176 r.toNat
            refine x_ialoadE 57 hK rfl rfl (sp_176 (h := h597) hG597) (by omega) (by omega) (by omega) (e' := (gi h 176 r.toNat)) (FRM_gi fr (r := 59) rfl rfl) ?_
            refine x_aload_n 58 hK rfl rfl l0 ?_
            refine x_getR 61 hK rfl rfl (sp_171 (h := h597) hG597) (rf_171_15 (h := h597) hG597) ?_
            refine x_iconst 62 hK rfl rfl ?_
            refine x_ialoadE 63 hK rfl rfl (sp_179 (h := h597) hG597) (by omega) (by omega) (by omega) (e' := (stI (gi h 175) (gi h 176) (gi h 171 6).toNat (gi h 171 7) (gi h 177) k.toNat (vw (RC h 178 0))).2.1) (s1) ?_
            refine x_if_icmp_ne 79 66 hK rfl rfl rfl (by omega) (by omega) (fun c28 => ?_) (fun c28 => ?_)
            · refine x_iinc 82 hK rfl rfl l2 _ rfl ?_
              refine x_goto 28 hK rfl rfl ?_
              exact ih _ (by omega) (r + 1) _ rfl (by omega) ((fun j hj z => by
                by_cases q : (j : Int) = r
                · rw [show j = r.toNat by omega] at z
                  have z := (hi k k0.1 _).mp z
                  first | omega | (have z1 := z.1; have z2 := z.2; omega)
                · exact nr j (by omega) z)) (lk1_n l0 (by decide) (Or.inl rfl)) (lk1_n l1 (by decide) (Or.inl rfl)) lk1_s
            · refine x_aload_n 67 hK rfl rfl l0 ?_
              refine x_iconst 68 hK rfl rfl ?_
              refine x_putI 71 hK rfl rfl (sp_171 (h := h597) hG597) ?_
              refine x_aload_n 72 hK rfl rfl l0 ?_
              refine x_iload_n 73 hK rfl rfl l2 ?_
              refine x_i2l 74 hK rfl rfl (by omega) ?_
              have hGp601 : GD gE gRL sh (wI h597 171 1 0) := GD_w1 (hG597) (r := 54) rfl (by omega) rfl (by omega) (by omega)
              have z603 : gi (wI h597 171 1 0) 171 1 = 0 := gi_same (by omega)
              have z603r : mrow (wI h597 171 1 0) = [] := mrow_0 (gi_same (by omega))
              refine x_callV 77 hK hmono rfl rfl [.ref 171, .long (J r)] [] rfl rfl (Nat.le_of_ble_eq_true rfl) (Nat.le_of_ble_eq_true rfl) rfl (sp_171 (h := h597) hG597) (CLd_le (Nat.le_of_ble_eq_true rfl) (ctX11_entersF hSP hGp601 (by omega) (by omega))) ?_
              rintro v602 h602 ⟨rfl, hG602, hF602, t602, s602⟩
              rw [z603] at t602
              rw [z603r] at s602
              replace t602 : gi h602 171 1 = 1 := t602
              change mrow h602 = [r] at s602
              refine x_iload_n 78 hK rfl rfl l1 ?_
              have hh := (hi k k0.1 r.toNat).mpr ⟨by omega, by omega⟩
              exact x_iret hK rfl ⟨⟨k, r, rfl, Or.inr ⟨⟨by omega, by omega⟩, ⟨by omega, by omega⟩, hh, nr, fun j hj q h1 h2 => no j hj q h1 h2⟩, fun z => by omega, fun _ => s602⟩, hG602, (FRM_w (fr) (r := 54) rfl rfl).trans ((hF602).mono rfl)⟩
      exact rock _ 0 _ rfl (by omega) (fun j hj => absurd hj (by omega)) (lk1_n l0 (by decide) (Or.inl rfl)) (lk1_n l1 (by decide) (Or.inl rfl)) lk1_s
  refine x_aload_n 1 hK rfl rfl rfl ?_
  refine x_iconst 2 hK rfl rfl ?_
  refine x_putI 5 hK rfl rfl (sp_171 (h := h) hG) ?_
  refine x_aload_n 6 hK rfl rfl rfl ?_
  have hGp605 : GD gE gRL sh (wI h 171 0 0) := GD_w1 (hG) (r := 54) rfl (by omega) rfl (by omega) (by omega)
  refine x_callV 9 hK hmono rfl rfl [.ref 171] [] rfl rfl (Nat.le_of_ble_eq_true rfl) (Nat.le_of_ble_eq_true rfl) rfl (sp_171 (h := h) hG) (CLd_le (Nat.le_of_ble_eq_true rfl) (ctX11_putsF hSP hGp605)) ?_
  rintro v604 h604 ⟨rfl, hG604, hF604, pt604⟩
  refine x_iconst 10 hK rfl rfl ?_
  refine x_istore_n 11 hK rfl rfl [(1, .int (I 1)), (0, .ref 171)] rfl ?_
  have c178 : RC (wI h 171 0 0) 178 0 = RC h 178 0 := RC_w (by decide)
  have c3 : RC h604 179 0 = RC h 178 0 := pt604.trans c178
  exact loop _ 1 _ _ rfl (by omega) ((by rw [c3]; rfl)) (fun r hr q h1 h2 => absurd h1 (by omega)) ((by rw [c3, show b + (1 - 1) = b by omega]; exact wb)) ((mrow_F hF604 rfl rfl).trans (mrow_k (by decide))) ((FRM_gi hF604 (r := 54) rfl rfl).trans (gi_k (by decide) _)) rfl rfl (hG604) ((FRM_w ((FRM.rf : FRM gRL [(0, 54, 0, 0), (0, 54, 1, 1), (0, 54, 31, 32), (0, 62, 0, 56), (1, 55, 0, 39)] h h)) (r := 54) rfl rfl).trans ((hF604).mono rfl))
end
section
/-! LIVES, THE SAFEST LANE, COMES -/
noncomputable def sumF (f : Nat → Int) (a : Int) : Nat → Int
  | 0 => 0
  | n + 1 => sumF f a n + f (a + n).toNat
theorem sumF_s {f : Nat → Int} {a i : Int} (h : a ≤ i) : sumF f a (i + 1 - a).toNat = sumF f a (i - a).toNat + f i.toNat := by
  rw [show (i + 1 - a).toNat = (i - a).toNat + 1 by omega]
  show sumF f a (i - a).toNat + f (a + ((i - a).toNat : Int)).toNat = _
  rw [show a + ((i - a).toNat : Int) = i by omega]
theorem sumF_b {f : Nat → Int} {a m B : Int} (h0 : 0 ≤ a) (hB : 0 ≤ B) (hf : ∀ j : Nat, (j : Int) < m → 0 ≤ f j ∧ f j ≤ B) : ∀ n : Nat, a + n ≤ m → 0 ≤ sumF f a n ∧ sumF f a n ≤ B * n
  | 0, _ => ⟨Int.le_refl _, by show (0 : Int) ≤ B * 0; omega⟩
  | n + 1, h => by
    have ih := sumF_b h0 hB hf n (by omega)
    have z := hf (a + n).toNat (by omega)
    show 0 ≤ sumF f a n + f (a + n).toNat ∧ sumF f a n + f (a + n).toNat ≤ B * ((n + 1 : Nat) : Int)
    rw [show ((n + 1 : Nat) : Int) = (n : Int) + 1 from rfl, Int.mul_add, Int.mul_one]
    omega
/-- how long MESSES a .. b live by what they have in all -/
noncomputable def luF (fd ea : Nat → Int) (a b : Int) : Int := if sumF ea a (b + 1 - a).toNat = 0 then 99999 else sumF fd a (b + 1 - a).toNat / sumF ea a (b + 1 - a).toNat
theorem luF_b {fd ea : Nat → Int} {a b m : Int} (h0 : 0 ≤ a) (hb : b < m) (h8 : m ≤ 8) (hf : ∀ j : Nat, (j : Int) < m → 0 ≤ fd j ∧ fd j ≤ 99) (he : ∀ j : Nat, (j : Int) < m → 0 ≤ ea j ∧ ea j ≤ 9) (hab : a ≤ b + 1) : 0 ≤ luF fd ea a b ∧ luF fd ea a b ≤ 99999 := by
  have x := sumF_b (f := fd) (B := 99) h0 (by omega) hf (b + 1 - a).toNat (by omega)
  have y := sumF_b (f := ea) (B := 9) h0 (by omega) he (b + 1 - a).toNat (by omega)
  unfold luF
  split
  · omega
  · have p : 0 < sumF ea a (b + 1 - a).toNat := by omega
    have q1 := Int.ediv_nonneg x.1 y.1
    have q2 := Int.ediv_le_self (sumF ea a (b + 1 - a).toNat) x.1
    omega
noncomputable def lvT (fd ea : Nat → Int) (how ms i : Int) : Int := luF fd ea (if how = 0 ∨ how = 2 then i else 0) (if how = 0 ∨ how = 1 then i else ms - 1)
noncomputable def lvF (fd ea : Nat → Int) (how ms : Int) : Nat → Int × Int
  | 0 => (99999, -1)
  | i + 1 => if lvT fd ea how ms i < (lvF fd ea how ms i).1 then (lvT fd ea how ms i, i) else lvF fd ea how ms i
theorem lvF_s {fd ea : Nat → Int} {how ms i : Int} (h : 0 ≤ i) : lvF fd ea how ms (i + 1).toNat = if lvT fd ea how ms i < (lvF fd ea how ms i.toNat).1 then (lvT fd ea how ms i, i) else lvF fd ea how ms i.toNat := by
  rw [tn_s h]
  show (if lvT fd ea how ms (i.toNat : Int) < _ then (lvT fd ea how ms (i.toNat : Int), (i.toNat : Int)) else _) = _
  rw [show ((i.toNat : Nat) : Int) = i by omega]
theorem lv_3 {fd ea : Nat → Int} {ms : Int} (hb : luF fd ea 0 (ms - 1) ≤ 99999) : ∀ n : Nat, lvF fd ea 3 ms (n + 1) = if luF fd ea 0 (ms - 1) < 99999 then (luF fd ea 0 (ms - 1), 0) else (99999, -1)
  | 0 => by
    show (if lvT fd ea 3 ms 0 < 99999 then (lvT fd ea 3 ms 0, ((0 : Nat) : Int)) else (99999, -1)) = _
    rfl
  | n + 1 => by
    show (if lvT fd ea 3 ms ((n + 1 : Nat) : Int) < (lvF fd ea 3 ms (n + 1)).1 then _ else lvF fd ea 3 ms (n + 1)) = _
    rw [lv_3 hb n]
    have e : lvT fd ea 3 ms ((n + 1 : Nat) : Int) = luF fd ea 0 (ms - 1) := rfl
    rw [e]
    by_cases c : luF fd ea 0 (ms - 1) < 99999
    · rw [if_pos c, if_neg (by show ¬ luF fd ea 0 (ms - 1) < luF fd ea 0 (ms - 1); omega)]
    · rw [if_neg c, if_neg (by show ¬ luF fd ea 0 (ms - 1) < 99999; omega)]
/-- ROCKS in a LANE in n STEPS, of the first i -/
noncomputable def rkN (ml ln : Nat → Int) (now n l : Int) : Nat → Int
  | 0 => 0
  | i + 1 => rkN ml ln now n l i + if ln i = l ∧ 1 ≤ ml i - now ∧ ml i - now ≤ n then 1 else 0
theorem rkN_s {ml ln : Nat → Int} {now n l i : Int} (h : 0 ≤ i) : rkN ml ln now n l (i + 1).toNat = rkN ml ln now n l i.toNat + if ln i.toNat = l ∧ 1 ≤ ml i.toNat - now ∧ ml i.toNat - now ≤ n then 1 else 0 := by rw [tn_s h]; rfl
theorem rkN_b (ml ln : Nat → Int) (now n l : Int) : ∀ i : Nat, 0 ≤ rkN ml ln now n l i ∧ rkN ml ln now n l i ≤ i
  | 0 => ⟨Int.le_refl _, Int.le_refl _⟩
  | i + 1 => by
    have := rkN_b ml ln now n l i
    show 0 ≤ rkN ml ln now n l i + (if ln i = l ∧ 1 ≤ ml i - now ∧ ml i - now ≤ n then 1 else 0) ∧ rkN ml ln now n l i + (if ln i = l ∧ 1 ≤ ml i - now ∧ ml i - now ≤ n then 1 else 0) ≤ ((i + 1 : Nat) : Int)
    split <;> omega
theorem rkN_c {ml ln ml' ln' : Nat → Int} {now n l : Int} : ∀ i : Nat, (∀ j, j < i → ml' j = ml j ∧ ln' j = ln j) → rkN ml' ln' now n l i = rkN ml ln now n l i
  | 0, _ => rfl
  | i + 1, h => by
    show rkN ml' ln' now n l i + (if ln' i = l ∧ 1 ≤ ml' i - now ∧ ml' i - now ≤ n then 1 else 0) = rkN ml ln now n l i + (if ln i = l ∧ 1 ≤ ml i - now ∧ ml i - now ≤ n then 1 else 0)
    rw [rkN_c i fun j hj => h j (by omega), (h i (by omega)).1, (h i (by omega)).2]
noncomputable def apt (lane l : Int) : Int := if 0 ≤ l - lane then l - lane else -(l - lane)
/-- b is the best of those for which S holds -/
noncomputable def BST (c : Int → Int) (lane : Int) (S : Int → Prop) (b : Int) : Prop := ∀ l : Int, S l → c b < c l ∨ (c b = c l ∧ (apt lane b < apt lane l ∨ (apt lane b = apt lane l ∧ b ≤ l)))
theorem BST_u {c : Int → Int} {lane b b' : Int} {S : Int → Prop} (hb : S b) (hb' : S b') (h : BST c lane S b) (h' : BST c lane S b') : b = b' := by
  have z := h b' hb'
  have y := h' b hb
  omega
theorem cm_b {S n d : Int} (hS : 2 ≤ S ∧ S ≤ 40) (hn : 0 ≤ n ∧ n ≤ 12) (hd : 1 ≤ d ∧ d ≤ 12) : 0 ≤ (S - 1) * n ∧ (S - 1) * n ≤ 468 ∧ 0 ≤ ((S - 1) * n) / d ∧ ((S - 1) * n) / d ≤ 468 ∧ min (S - 1) (((S - 1) * n) / d) = if d ≤ n then S - 1 else ((S - 1) * n) / d := by
  have p0 : 0 ≤ (S - 1) * n := Int.mul_nonneg (by omega) (by omega)
  have p1 : (S - 1) * n ≤ 39 * 12 := Int.mul_le_mul (by omega) (by omega) (by omega) (by omega)
  have q0 := Int.ediv_nonneg p0 (show 0 ≤ d by omega)
  have q1 := Int.ediv_le_self d p0
  refine ⟨p0, by omega, q0, by omega, ?_⟩
  by_cases c : d ≤ n
  · rw [if_pos c]
    have h1 : (S - 1) * d ≤ (S - 1) * n := Int.mul_le_mul_of_nonneg_left c (by omega)
    have h2 := (Int.le_ediv_iff_mul_le (show 0 < d by omega)).mpr h1
    omega
  · rw [if_neg c]
    have h1 : (S - 1) * n ≤ (S - 1) * d := Int.mul_le_mul_of_nonneg_left (by omega) (by omega)
    have h2 := Int.ediv_le_of_le_mul (show 0 < d by omega) h1
    omega
set_option maxRecDepth 4000 in
theorem ctX10_lastsForF {SP : CT} (hSP : MONO SP) {sh : List (Nat × Nat)} {h : aH} (hG : GD gE gRL sh h) {fd ea : Nat → Int} (hf : ∀ j : Nat, (j : Int) < gi h 0 9 → gi h 26 j = fd j ∧ 0 ≤ fd j ∧ fd j ≤ 99) (he : ∀ j : Nat, (j : Int) < gi h 0 9 → gi h 22 j = ea j ∧ 0 ≤ ea j ∧ ea j ≤ 9) {a z : Int} (ha : 0 ≤ a) (haz : a ≤ z + 1) (hz : z < (gi h 0 9)) : CLd SP 1 mX10_lastsFor [.ref 0, .int (I a), .int (I z)] h 0 0 (fun rv h' => h' = h ∧ rv = some (.int (I (luF fd ea a z)))) := by
  refine x_met _ rfl (Nat.le_of_ble_eq_true rfl) (fun K hK => ?_)
  have hmono := MONO_CLd hSP 0
  have g9 := gri 0 8 hG (a := 0) (r := 0) (k := 9) rfl rfl
  have loop : ∀ (mz : Nat) (s t i : Int) (ls : List (Nat × Value)), ((z + 1 - i).toNat = mz) → (a ≤ i ∧ i ≤ z + 1) → (s = sumF fd a (i - a).toNat) → (t = sumF ea a (i - a).toNat) → lk ls 0 = some (.ref 0) → lk ls 1 = some (.int (I a)) → lk ls 2 = some (.int (I z)) → lk ls 3 = some (.int (I s)) → lk ls 4 = some (.int (I t)) → lk ls 5 = some (.int (I i)) → K 8 ls [] h 0 0 := by
    intro mz
    induction mz using Nat.strongRecOn with
    | ind mz ih =>
    intro s t i ls hm i0 s0 t0 l0 l1 l2 l3 l4 l5
    have sb := sumF_b (f := fd) (B := 99) ha (by omega) (fun j hj => (hf j hj).2) (i - a).toNat (by omega)
    have tb := sumF_b (f := ea) (B := 9) ha (by omega) (fun j hj => (he j hj).2) (i - a).toNat (by omega)
    have fi := fun y : i ≤ z => hf i.toNat (by omega)
    have ei := fun y : i ≤ z => he i.toNat (by omega)
    refine x_iload 10 hK rfl rfl l5 ?_
    refine x_iload_n 11 hK rfl rfl l2 ?_
    refine x_if_icmp_gt 45 14 hK rfl rfl rfl (by omega) (by omega) (fun c3 => ?_) (fun c3 => ?_)
    · refine x_iload 47 hK rfl rfl l4 ?_
      refine x_if_ne 56 50 hK rfl rfl rfl (by omega) (fun c5 => ?_) (fun c5 => ?_)
      · refine x_iload_n 57 hK rfl rfl l3 ?_
        refine x_iload 59 hK rfl rfl l4 ?_
        refine x_idivp 60 hK rfl rfl (by omega) (by omega) (by omega) (by omega) ?_
        have ew : luF fd ea a z = (s / t) := by
          unfold luF
          rw [show (z + 1 - a).toNat = (i - a).toNat by omega, ← s0, ← t0]
          rw [if_neg (by omega)]
        exact x_iret hK rfl ⟨rfl, by rw [ew]⟩
      · refine x_ldc_w 53 hK rfl rfl ?_
        refine x_goto 60 hK rfl rfl ?_
        have ew : luF fd ea a z = 99999 := by
          unfold luF
          rw [show (z + 1 - a).toNat = (i - a).toNat by omega, ← s0, ← t0]
          rw [if_pos (by omega)]
        exact x_iret hK rfl ⟨rfl, by rw [ew]⟩
    · have fi2 := fi (by omega)
      have ei2 := ei (by omega)
      refine x_iload_n 15 hK rfl rfl l3 ?_
      refine x_aload_n 16 hK rfl rfl l0 ?_
      refine x_getR 19 hK rfl rfl (sp_0 (h := h) hG) (rf_0_10 (h := h) hG) ?_
      refine x_getR 22 hK rfl rfl (sp_23 (h := h) hG) (rf_23_7 (h := h) hG) ?_
      refine x_iload 24 hK rfl rfl l5 ?_
      refine x_ialoadE 25 hK rfl rfl (sp_26 (h := h) hG) (by omega) (by omega) (by omega) (e' := (fd i.toNat)) ((fi (by omega)).1) ?_
      refine x_iadd 26 hK rfl rfl ?_
      refine x_istore_n 27 hK rfl rfl _ rfl ?_
      refine x_iload 29 hK rfl rfl (lk1_n l4 (by decide) (Or.inl rfl)) ?_
      refine x_aload_n 30 hK rfl rfl (lk1_n l0 (by decide) (Or.inl rfl)) ?_
      refine x_getR 33 hK rfl rfl (sp_0 (h := h) hG) (rf_0_8 (h := h) hG) ?_
      refine x_iload 35 hK rfl rfl (lk1_n l5 (by decide) (Or.inl rfl)) ?_
      refine x_ialoadE 36 hK rfl rfl (sp_22 (h := h) hG) (by omega) (by omega) (by omega) (e' := (ea i.toNat)) ((ei (by omega)).1) ?_
      refine x_iadd 37 hK rfl rfl ?_
      refine x_istore 39 hK rfl rfl _ rfl ?_
      refine x_iinc 42 hK rfl rfl (lk1_n (lk1_n l5 (by decide) (Or.inl rfl)) (by decide) (Or.inl rfl)) _ rfl ?_
      refine x_goto 8 hK rfl rfl ?_
      exact ih _ (by omega) (s + (fd i.toNat)) (t + (ea i.toNat)) (i + 1) _ rfl (by omega) (by rw [s0, sumF_s i0.1]) (by rw [t0, sumF_s i0.1]) (lk1_n (lk1_n (lk1_n l0 (by decide) (Or.inl rfl)) (by decide) (Or.inl rfl)) (by decide) (Or.inl rfl)) (lk1_n (lk1_n (lk1_n l1 (by decide) (Or.inl rfl)) (by decide) (Or.inl rfl)) (by decide) (Or.inl rfl)) (lk1_n (lk1_n (lk1_n l2 (by decide) (Or.inl rfl)) (by decide) (Or.inl rfl)) (by decide) (Or.inl rfl)) (lk1_n (lk1_n lk1_s (by decide) (Or.inl rfl)) (by decide) (Or.inl rfl)) (lk1_n lk1_s (by decide) (Or.inl rfl)) lk1_s
  refine x_iconst 1 hK rfl rfl ?_
  refine x_istore_n 2 hK rfl rfl [(3, .int (I 0)), (0, .ref 0), (1, .int (I a)), (2, .int (I z))] rfl ?_
  refine x_iconst 3 hK rfl rfl ?_
  refine x_istore 5 hK rfl rfl [(4, .int (I 0)), (3, .int (I 0)), (0, .ref 0), (1, .int (I a)), (2, .int (I z))] rfl ?_
  refine x_iload_n 6 hK rfl rfl rfl ?_
  refine x_istore 8 hK rfl rfl [(5, .int (I a)), (4, .int (I 0)), (3, .int (I 0)), (0, .ref 0), (1, .int (I a)), (2, .int (I z))] rfl ?_
  exact loop _ 0 0 a _ rfl (by omega) (by rw [show a - a = 0 by omega]; rfl) (by rw [show a - a = 0 by omega]; rfl) rfl rfl rfl rfl rfl rfl
set_option maxRecDepth 4000 in
theorem ctX11_lastsForF {SP : CT} (hSP : MONO SP) {sh : List (Nat × Nat)} {h : aH} (hG : GD gE gRL sh h) {fd ea : Nat → Int} (hf : ∀ j : Nat, (j : Int) < gi h 171 7 → gi h 178 (41 + j) = fd j ∧ 0 ≤ fd j ∧ fd j ≤ 99) (he : ∀ j : Nat, (j : Int) < gi h 171 7 → gi h 177 j = ea j ∧ 0 ≤ ea j ∧ ea j ≤ 9) {a z : Int} (ha : 0 ≤ a) (haz : a ≤ z + 1) (hz : z < (gi h 171 7)) : CLd SP 1 mX11_lastsFor [.ref 171, .int (I a), .int (I z)] h 0 0 (fun rv h' => h' = h ∧ rv = some (.int (I (luF fd ea a z)))) := by
  refine x_met _ rfl (Nat.le_of_ble_eq_true rfl) (fun K hK => ?_)
  have hmono := MONO_CLd hSP 0
  have g9 := gri 0 8 hG (a := 171) (r := 54) (k := 7) rfl rfl
  have loop : ∀ (mz : Nat) (s t i : Int) (ls : List (Nat × Value)), ((z + 1 - i).toNat = mz) → (a ≤ i ∧ i ≤ z + 1) → (s = sumF fd a (i - a).toNat) → (t = sumF ea a (i - a).toNat) → lk ls 0 = some (.ref 171) → lk ls 1 = some (.int (I a)) → lk ls 2 = some (.int (I z)) → lk ls 3 = some (.int (I s)) → lk ls 4 = some (.int (I t)) → lk ls 5 = some (.int (I i)) → K 8 ls [] h 0 0 := by
    intro mz
    induction mz using Nat.strongRecOn with
    | ind mz ih =>
    intro s t i ls hm i0 s0 t0 l0 l1 l2 l3 l4 l5
    have sb := sumF_b (f := fd) (B := 99) ha (by omega) (fun j hj => (hf j hj).2) (i - a).toNat (by omega)
    have tb := sumF_b (f := ea) (B := 9) ha (by omega) (fun j hj => (he j hj).2) (i - a).toNat (by omega)
    have fi := fun y : i ≤ z => hf i.toNat (by omega)
    have ei := fun y : i ≤ z => he i.toNat (by omega)
    refine x_iload 10 hK rfl rfl l5 ?_
    refine x_iload_n 11 hK rfl rfl l2 ?_
    refine x_if_icmp_gt 45 14 hK rfl rfl rfl (by omega) (by omega) (fun c3 => ?_) (fun c3 => ?_)
    · refine x_iload 47 hK rfl rfl l4 ?_
      refine x_if_ne 56 50 hK rfl rfl rfl (by omega) (fun c5 => ?_) (fun c5 => ?_)
      · refine x_iload_n 57 hK rfl rfl l3 ?_
        refine x_iload 59 hK rfl rfl l4 ?_
        refine x_idivp 60 hK rfl rfl (by omega) (by omega) (by omega) (by omega) ?_
        have ew : luF fd ea a z = (s / t) := by
          unfold luF
          rw [show (z + 1 - a).toNat = (i - a).toNat by omega, ← s0, ← t0]
          rw [if_neg (by omega)]
        exact x_iret hK rfl ⟨rfl, by rw [ew]⟩
      · refine x_ldc_w 53 hK rfl rfl ?_
        refine x_goto 60 hK rfl rfl ?_
        have ew : luF fd ea a z = 99999 := by
          unfold luF
          rw [show (z + 1 - a).toNat = (i - a).toNat by omega, ← s0, ← t0]
          rw [if_pos (by omega)]
        exact x_iret hK rfl ⟨rfl, by rw [ew]⟩
    · have fi2 := fi (by omega)
      have ei2 := ei (by omega)
      refine x_iload_n 15 hK rfl rfl l3 ?_
      refine x_aload_n 16 hK rfl rfl l0 ?_
      refine x_getR 19 hK rfl rfl (sp_171 (h := h) hG) (rf_171_14 (h := h) hG) ?_
      refine x_bipush 21 hK rfl rfl rfl ?_
      refine x_iload 23 hK rfl rfl l5 ?_
      refine x_iadd 24 hK rfl rfl ?_
      refine x_ialoadE 25 hK rfl rfl (sp_178 (h := h) hG) (by omega) (by omega) (by omega) (e' := (fd i.toNat)) ((gi_to (show (41 + i).toNat = 41 + i.toNat by omega)).trans (fi (by omega)).1) ?_
      refine x_iadd 26 hK rfl rfl ?_
      refine x_istore_n 27 hK rfl rfl _ rfl ?_
      refine x_iload 29 hK rfl rfl (lk1_n l4 (by decide) (Or.inl rfl)) ?_
      refine x_aload_n 30 hK rfl rfl (lk1_n l0 (by decide) (Or.inl rfl)) ?_
      refine x_getR 33 hK rfl rfl (sp_171 (h := h) hG) (rf_171_13 (h := h) hG) ?_
      refine x_iload 35 hK rfl rfl (lk1_n l5 (by decide) (Or.inl rfl)) ?_
      refine x_ialoadE 36 hK rfl rfl (sp_177 (h := h) hG) (by omega) (by omega) (by omega) (e' := (ea i.toNat)) ((ei (by omega)).1) ?_
      refine x_iadd 37 hK rfl rfl ?_
      refine x_istore 39 hK rfl rfl _ rfl ?_
      refine x_iinc 42 hK rfl rfl (lk1_n (lk1_n l5 (by decide) (Or.inl rfl)) (by decide) (Or.inl rfl)) _ rfl ?_
      refine x_goto 8 hK rfl rfl ?_
      exact ih _ (by omega) (s + (fd i.toNat)) (t + (ea i.toNat)) (i + 1) _ rfl (by omega) (by rw [s0, sumF_s i0.1]) (by rw [t0, sumF_s i0.1]) (lk1_n (lk1_n (lk1_n l0 (by decide) (Or.inl rfl)) (by decide) (Or.inl rfl)) (by decide) (Or.inl rfl)) (lk1_n (lk1_n (lk1_n l1 (by decide) (Or.inl rfl)) (by decide) (Or.inl rfl)) (by decide) (Or.inl rfl)) (lk1_n (lk1_n (lk1_n l2 (by decide) (Or.inl rfl)) (by decide) (Or.inl rfl)) (by decide) (Or.inl rfl)) (lk1_n (lk1_n lk1_s (by decide) (Or.inl rfl)) (by decide) (Or.inl rfl)) (lk1_n lk1_s (by decide) (Or.inl rfl)) lk1_s
  refine x_iconst 1 hK rfl rfl ?_
  refine x_istore_n 2 hK rfl rfl [(3, .int (I 0)), (0, .ref 171), (1, .int (I a)), (2, .int (I z))] rfl ?_
  refine x_iconst 3 hK rfl rfl ?_
  refine x_istore 5 hK rfl rfl [(4, .int (I 0)), (3, .int (I 0)), (0, .ref 171), (1, .int (I a)), (2, .int (I z))] rfl ?_
  refine x_iload_n 6 hK rfl rfl rfl ?_
  refine x_istore 8 hK rfl rfl [(5, .int (I a)), (4, .int (I 0)), (3, .int (I 0)), (0, .ref 171), (1, .int (I a)), (2, .int (I z))] rfl ?_
  exact loop _ 0 0 a _ rfl (by omega) (by rw [show a - a = 0 by omega]; rfl) (by rw [show a - a = 0 by omega]; rfl) rfl rfl rfl rfl rfl rfl
set_option maxRecDepth 4000 in
theorem ctX10_livesF {SP : CT} (hSP : MONO SP) {sh : List (Nat × Nat)} {h : aH} (hG : GD gE gRL sh h) {fd ea : Nat → Int} (hf : ∀ j : Nat, (j : Int) < gi h 0 9 → gi h 26 j = fd j ∧ 0 ≤ fd j ∧ fd j ≤ 99) (he : ∀ j : Nat, (j : Int) < gi h 0 9 → gi h 22 j = ea j ∧ 0 ≤ ea j ∧ ea j ≤ 9) {n : Int} (rn : r32 n) : CLd SP 3 mX10_lives [.ref 0, .int (I n)] h 0 0 (fun rv h' => ((¬ ((0 ≤ n ∧ n ≤ 3) ∧ gi h 0 9 ≠ 0) ∧ rv = some (.int (I (-1))) ∧ h' = h) ∨ (((0 ≤ n ∧ n ≤ 3) ∧ gi h 0 9 ≠ 0) ∧ rv = some (.int (I (lvF fd ea n (gi h 0 9) (gi h 0 9).toNat).1)) ∧ gi h' 3 1 = 1 ∧ crow h' = [(lvF fd ea n (gi h 0 9) (gi h 0 9).toNat).2])) ∧ GD gE gRL sh h' ∧ FRM gRL [(0, 3, 1, 1), (1, 4, 0, 29)] h h') := by
  refine x_met _ rfl (Nat.le_of_ble_eq_true rfl) (fun K hK => ?_)
  have hmono := MONO_CLd hSP 2
  have g9 := gri 0 8 hG (a := 0) (r := 0) (k := 9) rfl rfl
  have loop : ∀ (mz : Nat) (s w i : Int) (ls : List (Nat × Value)), ((gi h 0 9 - i).toNat = mz) → ((0 ≤ n ∧ n ≤ 3) ∧ gi h 0 9 ≠ 0) → (0 ≤ i ∧ i ≤ gi h 0 9) → ((lvF fd ea n (gi h 0 9) i.toNat) = (s, w)) → (0 ≤ s ∧ s ≤ 99999) → (-1 ≤ w ∧ w ≤ 8) → lk ls 0 = some (.ref 0) → lk ls 1 = some (.int (I n)) → lk ls 2 = some (.int (I s)) → lk ls 3 = some (.int (I w)) → lk ls 4 = some (.int (I i)) → K 27 ls [] h 0 0 := by
    intro mz
    induction mz using Nat.strongRecOn with
    | ind mz ih =>
    intro s w i ls hm n0 i0 e0 s0 w0 l0 l1 l2 l3 l4
    refine x_iload 29 hK rfl rfl l4 ?_
    refine x_aload_n 30 hK rfl rfl l0 ?_
    have g579 := gri (0) (8) hG (a := 0) (r := 0) (k := 9) rfl rfl
    refine x_getE 33 hK rfl (Or.inl rfl) rfl (sp_0 (h := h) hG) (e := (gi h 0 9)) (rfl) ?_
    refine x_if_icmp_ge 103 36 hK rfl rfl rfl (by omega) (by omega) (fun c4 => ?_) (fun c4 => ?_)
    · refine x_aload_n 104 hK rfl rfl l0 ?_
      refine x_getR 107 hK rfl rfl (sp_0 (h := h) hG) (rf_0_1 (h := h) hG) ?_
      refine x_iload_n 108 hK rfl rfl l3 ?_
      refine x_i2l 109 hK rfl rfl (by omega) ?_
      refine x_callV 112 hK hmono rfl rfl [.ref 3, .long (J w)] [] rfl rfl (Nat.le_of_ble_eq_true rfl) (Nat.le_of_ble_eq_true rfl) rfl (sp_3 (h := h) hG) (CLd_le (Nat.le_of_ble_eq_true rfl) (ctX3_tellOne hSP hG (by omega))) ?_
      rintro v580 h580 ⟨rfl, hG580, hF580, t580, s580⟩
      refine x_iload_n 113 hK rfl rfl l2 ?_
      obtain ei : i = gi h 0 9 := by omega
      rw [ei] at e0
      exact x_iret hK rfl ⟨Or.inr ⟨n0, by rw [e0], t580, by rw [e0]; exact s580⟩, hG580, hF580⟩
    · refine x_iload_n 37 hK rfl rfl l1 ?_
      refine x_if_eq 45 40 hK rfl rfl rfl (by omega) (fun c13 => ?_) (fun c13 => ?_)
      · refine x_iload 47 hK rfl rfl l4 ?_
        refine x_goto 51 hK rfl rfl ?_
        refine x_istore 53 hK rfl rfl _ rfl ?_
        refine x_iload_n 54 hK rfl rfl (lk1_n l1 (by decide) (Or.inl rfl)) ?_
        refine x_if_eq 62 57 hK rfl rfl rfl (by omega) (fun _ => ?_) (fun c => by omega)
        refine x_iload 64 hK rfl rfl (lk1_n l4 (by decide) (Or.inl rfl)) ?_
        refine x_goto 73 hK rfl rfl ?_
        refine x_istore 75 hK rfl rfl _ rfl ?_
        refine x_aload_n 76 hK rfl rfl (lk1_n (lk1_n l0 (by decide) (Or.inl rfl)) (by decide) (Or.inl rfl)) ?_
        refine x_iload 78 hK rfl rfl (lk1_n lk1_s (by decide) (Or.inl rfl)) ?_
        refine x_iload 80 hK rfl rfl lk1_s ?_
        have me581 : gi h 0 9 = (gi h 0 9) := rfl
        have lb581 := luF_b (fd := fd) (ea := ea) (a := i) (b := i) (m := (gi h 0 9)) (by omega) (by omega) g9.2 (fun j hj => (hf j hj).2) (fun j hj => (he j hj).2) (by omega)
        refine x_callV 83 hK hmono rfl rfl [.ref 0, .int (I i), .int (I i)] [] rfl rfl (Nat.le_of_ble_eq_true rfl) (Nat.le_of_ble_eq_true rfl) rfl (sp_0 (h := h) hG) (CLd_le (Nat.le_of_ble_eq_true rfl) (ctX10_lastsForF hSP hG (fd := fd) (ea := ea) (a := i) (z := i) (by rw [me581]; exact hf) (by rw [me581]; exact he) (by omega) (by omega) (by rw [me581]; omega))) ?_
        rintro v9 h9 ⟨e9, rfl⟩
        rw [e9]
        clear e9
        refine x_istore 85 hK rfl rfl _ rfl ?_
        refine x_iload 87 hK rfl rfl lk1_s ?_
        refine x_iload_n 88 hK rfl rfl (lk1_n (lk1_n (lk1_n l2 (by decide) (Or.inl rfl)) (by decide) (Or.inl rfl)) (by decide) (Or.inl rfl)) ?_
        refine x_if_icmp_ge 97 91 hK rfl rfl rfl (by omega) (by omega) (fun c29 => ?_) (fun c29 => ?_)
        · refine x_iinc 100 hK rfl rfl (lk1_n (lk1_n (lk1_n l4 (by decide) (Or.inl rfl)) (by decide) (Or.inl rfl)) (by decide) (Or.inl rfl)) _ rfl ?_
          refine x_goto 27 hK rfl rfl ?_
          have tt : lvT fd ea n (gi h 0 9) i = (luF fd ea i i) := by unfold lvT; first | (rw [if_pos (by omega), if_pos (by omega)]; done) | (rw [if_pos (by omega), if_neg (by omega)]; done) | (rw [if_neg (by omega), if_pos (by omega)]; done) | (rw [if_neg (by omega), if_neg (by omega)]; done)
          have en : (lvF fd ea n (gi h 0 9) (i + 1).toNat) = (s, w) := by rw [lvF_s i0.1, e0, tt]; exact if_neg (by show ¬ (luF fd ea i i) < s; omega)
          exact ih _ (by omega) s w (i + 1) _ rfl (n0) (by omega) (en) (by omega) (by omega) (lk1_n (lk1_n (lk1_n (lk1_n l0 (by decide) (Or.inl rfl)) (by decide) (Or.inl rfl)) (by decide) (Or.inl rfl)) (by decide) (Or.inl rfl)) (lk1_n (lk1_n (lk1_n (lk1_n l1 (by decide) (Or.inl rfl)) (by decide) (Or.inl rfl)) (by decide) (Or.inl rfl)) (by decide) (Or.inl rfl)) (lk1_n (lk1_n (lk1_n (lk1_n l2 (by decide) (Or.inl rfl)) (by decide) (Or.inl rfl)) (by decide) (Or.inl rfl)) (by decide) (Or.inl rfl)) (lk1_n (lk1_n (lk1_n (lk1_n l3 (by decide) (Or.inl rfl)) (by decide) (Or.inl rfl)) (by decide) (Or.inl rfl)) (by decide) (Or.inl rfl)) lk1_s
        · refine x_iload 93 hK rfl rfl lk1_s ?_
          refine x_istore_n 94 hK rfl rfl _ rfl ?_
          refine x_iload 96 hK rfl rfl (lk1_n (lk1_n (lk1_n (lk1_n l4 (by decide) (Or.inl rfl)) (by decide) (Or.inl rfl)) (by decide) (Or.inl rfl)) (by decide) (Or.inl rfl)) ?_
          refine x_istore_n 97 hK rfl rfl _ rfl ?_
          refine x_iinc 100 hK rfl rfl (lk1_n (lk1_n (lk1_n (lk1_n (lk1_n l4 (by decide) (Or.inl rfl)) (by decide) (Or.inl rfl)) (by decide) (Or.inl rfl)) (by decide) (Or.inl rfl)) (by decide) (Or.inl rfl)) _ rfl ?_
          refine x_goto 27 hK rfl rfl ?_
          have tt : lvT fd ea n (gi h 0 9) i = (luF fd ea i i) := by unfold lvT; first | (rw [if_pos (by omega), if_pos (by omega)]; done) | (rw [if_pos (by omega), if_neg (by omega)]; done) | (rw [if_neg (by omega), if_pos (by omega)]; done) | (rw [if_neg (by omega), if_neg (by omega)]; done)
          have en : (lvF fd ea n (gi h 0 9) (i + 1).toNat) = ((luF fd ea i i), i) := by rw [lvF_s i0.1, e0, tt]; exact if_pos (by show (luF fd ea i i) < s; omega)
          exact ih _ (by omega) (luF fd ea i i) i (i + 1) _ rfl (n0) (by omega) (en) (by omega) (by omega) (lk1_n (lk1_n (lk1_n (lk1_n (lk1_n (lk1_n l0 (by decide) (Or.inl rfl)) (by decide) (Or.inl rfl)) (by decide) (Or.inl rfl)) (by decide) (Or.inl rfl)) (by decide) (Or.inl rfl)) (by decide) (Or.inl rfl)) (lk1_n (lk1_n (lk1_n (lk1_n (lk1_n (lk1_n l1 (by decide) (Or.inl rfl)) (by decide) (Or.inl rfl)) (by decide) (Or.inl rfl)) (by decide) (Or.inl rfl)) (by decide) (Or.inl rfl)) (by decide) (Or.inl rfl)) (lk1_n (lk1_n lk1_s (by decide) (Or.inl rfl)) (by decide) (Or.inl rfl)) (lk1_n lk1_s (by decide) (Or.inl rfl)) lk1_s
      · refine x_iload_n 41 hK rfl rfl l1 ?_
        refine x_iconst 42 hK rfl rfl ?_
        refine x_if_icmp_ne 50 45 hK rfl rfl rfl (by omega) (by omega) (fun c42 => ?_) (fun c42 => ?_)
        · refine x_iconst 51 hK rfl rfl ?_
          refine x_istore 53 hK rfl rfl _ rfl ?_
          refine x_iload_n 54 hK rfl rfl (lk1_n l1 (by decide) (Or.inl rfl)) ?_
          refine x_if_eq 62 57 hK rfl rfl rfl (by omega) (fun c => by omega) (fun _ => ?_)
          refine x_iload_n 58 hK rfl rfl (lk1_n l1 (by decide) (Or.inl rfl)) ?_
          refine x_iconst 59 hK rfl rfl ?_
          refine x_if_icmp_ne 67 62 hK rfl rfl rfl (by omega) (by omega) (fun c49 => ?_) (fun c49 => ?_)
          · refine x_aload_n 68 hK rfl rfl (lk1_n l0 (by decide) (Or.inl rfl)) ?_
            refine x_getE 71 hK rfl (Or.inl rfl) rfl (sp_0 (h := h) hG) (e := (gi h 0 9)) (rfl) ?_
            refine x_iconst 72 hK rfl rfl ?_
            refine x_isub 73 hK rfl rfl ?_
            refine x_istore 75 hK rfl rfl _ rfl ?_
            refine x_aload_n 76 hK rfl rfl (lk1_n (lk1_n l0 (by decide) (Or.inl rfl)) (by decide) (Or.inl rfl)) ?_
            refine x_iload 78 hK rfl rfl (lk1_n lk1_s (by decide) (Or.inl rfl)) ?_
            refine x_iload 80 hK rfl rfl lk1_s ?_
            have me582 : gi h 0 9 = (gi h 0 9) := rfl
            have lb582 := luF_b (fd := fd) (ea := ea) (a := 0) (b := ((gi h 0 9) - 1)) (m := (gi h 0 9)) (by omega) (by omega) g9.2 (fun j hj => (hf j hj).2) (fun j hj => (he j hj).2) (by omega)
            refine x_callV 83 hK hmono rfl rfl [.ref 0, .int (I 0), .int (I ((gi h 0 9) - 1))] [] rfl rfl (Nat.le_of_ble_eq_true rfl) (Nat.le_of_ble_eq_true rfl) rfl (sp_0 (h := h) hG) (CLd_le (Nat.le_of_ble_eq_true rfl) (ctX10_lastsForF hSP hG (fd := fd) (ea := ea) (a := 0) (z := ((gi h 0 9) - 1)) (by rw [me582]; exact hf) (by rw [me582]; exact he) (by omega) (by omega) (by rw [me582]; omega))) ?_
            rintro v9 h9 ⟨e9, rfl⟩
            rw [e9]
            clear e9
            refine x_istore 85 hK rfl rfl _ rfl ?_
            refine x_iload 87 hK rfl rfl lk1_s ?_
            refine x_iload_n 88 hK rfl rfl (lk1_n (lk1_n (lk1_n l2 (by decide) (Or.inl rfl)) (by decide) (Or.inl rfl)) (by decide) (Or.inl rfl)) ?_
            refine x_if_icmp_ge 97 91 hK rfl rfl rfl (by omega) (by omega) (fun c62 => ?_) (fun c62 => ?_)
            · refine x_iinc 100 hK rfl rfl (lk1_n (lk1_n (lk1_n l4 (by decide) (Or.inl rfl)) (by decide) (Or.inl rfl)) (by decide) (Or.inl rfl)) _ rfl ?_
              refine x_goto 27 hK rfl rfl ?_
              have tt : lvT fd ea n (gi h 0 9) i = (luF fd ea 0 ((gi h 0 9) - 1)) := by unfold lvT; first | (rw [if_pos (by omega), if_pos (by omega)]; done) | (rw [if_pos (by omega), if_neg (by omega)]; done) | (rw [if_neg (by omega), if_pos (by omega)]; done) | (rw [if_neg (by omega), if_neg (by omega)]; done)
              have en : (lvF fd ea n (gi h 0 9) (i + 1).toNat) = (s, w) := by rw [lvF_s i0.1, e0, tt]; exact if_neg (by show ¬ (luF fd ea 0 ((gi h 0 9) - 1)) < s; omega)
              exact ih _ (by omega) s w (i + 1) _ rfl (n0) (by omega) (en) (by omega) (by omega) (lk1_n (lk1_n (lk1_n (lk1_n l0 (by decide) (Or.inl rfl)) (by decide) (Or.inl rfl)) (by decide) (Or.inl rfl)) (by decide) (Or.inl rfl)) (lk1_n (lk1_n (lk1_n (lk1_n l1 (by decide) (Or.inl rfl)) (by decide) (Or.inl rfl)) (by decide) (Or.inl rfl)) (by decide) (Or.inl rfl)) (lk1_n (lk1_n (lk1_n (lk1_n l2 (by decide) (Or.inl rfl)) (by decide) (Or.inl rfl)) (by decide) (Or.inl rfl)) (by decide) (Or.inl rfl)) (lk1_n (lk1_n (lk1_n (lk1_n l3 (by decide) (Or.inl rfl)) (by decide) (Or.inl rfl)) (by decide) (Or.inl rfl)) (by decide) (Or.inl rfl)) lk1_s
            · refine x_iload 93 hK rfl rfl lk1_s ?_
              refine x_istore_n 94 hK rfl rfl _ rfl ?_
              refine x_iload 96 hK rfl rfl (lk1_n (lk1_n (lk1_n (lk1_n l4 (by decide) (Or.inl rfl)) (by decide) (Or.inl rfl)) (by decide) (Or.inl rfl)) (by decide) (Or.inl rfl)) ?_
              refine x_istore_n 97 hK rfl rfl _ rfl ?_
              refine x_iinc 100 hK rfl rfl (lk1_n (lk1_n (lk1_n (lk1_n (lk1_n l4 (by decide) (Or.inl rfl)) (by decide) (Or.inl rfl)) (by decide) (Or.inl rfl)) (by decide) (Or.inl rfl)) (by decide) (Or.inl rfl)) _ rfl ?_
              refine x_goto 27 hK rfl rfl ?_
              have tt : lvT fd ea n (gi h 0 9) i = (luF fd ea 0 ((gi h 0 9) - 1)) := by unfold lvT; first | (rw [if_pos (by omega), if_pos (by omega)]; done) | (rw [if_pos (by omega), if_neg (by omega)]; done) | (rw [if_neg (by omega), if_pos (by omega)]; done) | (rw [if_neg (by omega), if_neg (by omega)]; done)
              have en : (lvF fd ea n (gi h 0 9) (i + 1).toNat) = ((luF fd ea 0 ((gi h 0 9) - 1)), i) := by rw [lvF_s i0.1, e0, tt]; exact if_pos (by show (luF fd ea 0 ((gi h 0 9) - 1)) < s; omega)
              exact ih _ (by omega) (luF fd ea 0 ((gi h 0 9) - 1)) i (i + 1) _ rfl (n0) (by omega) (en) (by omega) (by omega) (lk1_n (lk1_n (lk1_n (lk1_n (lk1_n (lk1_n l0 (by decide) (Or.inl rfl)) (by decide) (Or.inl rfl)) (by decide) (Or.inl rfl)) (by decide) (Or.inl rfl)) (by decide) (Or.inl rfl)) (by decide) (Or.inl rfl)) (lk1_n (lk1_n (lk1_n (lk1_n (lk1_n (lk1_n l1 (by decide) (Or.inl rfl)) (by decide) (Or.inl rfl)) (by decide) (Or.inl rfl)) (by decide) (Or.inl rfl)) (by decide) (Or.inl rfl)) (by decide) (Or.inl rfl)) (lk1_n (lk1_n lk1_s (by decide) (Or.inl rfl)) (by decide) (Or.inl rfl)) (lk1_n lk1_s (by decide) (Or.inl rfl)) lk1_s
          · refine x_iload 64 hK rfl rfl (lk1_n l4 (by decide) (Or.inl rfl)) ?_
            refine x_goto 73 hK rfl rfl ?_
            refine x_istore 75 hK rfl rfl _ rfl ?_
            refine x_aload_n 76 hK rfl rfl (lk1_n (lk1_n l0 (by decide) (Or.inl rfl)) (by decide) (Or.inl rfl)) ?_
            refine x_iload 78 hK rfl rfl (lk1_n lk1_s (by decide) (Or.inl rfl)) ?_
            refine x_iload 80 hK rfl rfl lk1_s ?_
            have me583 : gi h 0 9 = (gi h 0 9) := rfl
            have lb583 := luF_b (fd := fd) (ea := ea) (a := 0) (b := i) (m := (gi h 0 9)) (by omega) (by omega) g9.2 (fun j hj => (hf j hj).2) (fun j hj => (he j hj).2) (by omega)
            refine x_callV 83 hK hmono rfl rfl [.ref 0, .int (I 0), .int (I i)] [] rfl rfl (Nat.le_of_ble_eq_true rfl) (Nat.le_of_ble_eq_true rfl) rfl (sp_0 (h := h) hG) (CLd_le (Nat.le_of_ble_eq_true rfl) (ctX10_lastsForF hSP hG (fd := fd) (ea := ea) (a := 0) (z := i) (by rw [me583]; exact hf) (by rw [me583]; exact he) (by omega) (by omega) (by rw [me583]; omega))) ?_
            rintro v9 h9 ⟨e9, rfl⟩
            rw [e9]
            clear e9
            refine x_istore 85 hK rfl rfl _ rfl ?_
            refine x_iload 87 hK rfl rfl lk1_s ?_
            refine x_iload_n 88 hK rfl rfl (lk1_n (lk1_n (lk1_n l2 (by decide) (Or.inl rfl)) (by decide) (Or.inl rfl)) (by decide) (Or.inl rfl)) ?_
            refine x_if_icmp_ge 97 91 hK rfl rfl rfl (by omega) (by omega) (fun c83 => ?_) (fun c83 => ?_)
            · refine x_iinc 100 hK rfl rfl (lk1_n (lk1_n (lk1_n l4 (by decide) (Or.inl rfl)) (by decide) (Or.inl rfl)) (by decide) (Or.inl rfl)) _ rfl ?_
              refine x_goto 27 hK rfl rfl ?_
              have tt : lvT fd ea n (gi h 0 9) i = (luF fd ea 0 i) := by unfold lvT; first | (rw [if_pos (by omega), if_pos (by omega)]; done) | (rw [if_pos (by omega), if_neg (by omega)]; done) | (rw [if_neg (by omega), if_pos (by omega)]; done) | (rw [if_neg (by omega), if_neg (by omega)]; done)
              have en : (lvF fd ea n (gi h 0 9) (i + 1).toNat) = (s, w) := by rw [lvF_s i0.1, e0, tt]; exact if_neg (by show ¬ (luF fd ea 0 i) < s; omega)
              exact ih _ (by omega) s w (i + 1) _ rfl (n0) (by omega) (en) (by omega) (by omega) (lk1_n (lk1_n (lk1_n (lk1_n l0 (by decide) (Or.inl rfl)) (by decide) (Or.inl rfl)) (by decide) (Or.inl rfl)) (by decide) (Or.inl rfl)) (lk1_n (lk1_n (lk1_n (lk1_n l1 (by decide) (Or.inl rfl)) (by decide) (Or.inl rfl)) (by decide) (Or.inl rfl)) (by decide) (Or.inl rfl)) (lk1_n (lk1_n (lk1_n (lk1_n l2 (by decide) (Or.inl rfl)) (by decide) (Or.inl rfl)) (by decide) (Or.inl rfl)) (by decide) (Or.inl rfl)) (lk1_n (lk1_n (lk1_n (lk1_n l3 (by decide) (Or.inl rfl)) (by decide) (Or.inl rfl)) (by decide) (Or.inl rfl)) (by decide) (Or.inl rfl)) lk1_s
            · refine x_iload 93 hK rfl rfl lk1_s ?_
              refine x_istore_n 94 hK rfl rfl _ rfl ?_
              refine x_iload 96 hK rfl rfl (lk1_n (lk1_n (lk1_n (lk1_n l4 (by decide) (Or.inl rfl)) (by decide) (Or.inl rfl)) (by decide) (Or.inl rfl)) (by decide) (Or.inl rfl)) ?_
              refine x_istore_n 97 hK rfl rfl _ rfl ?_
              refine x_iinc 100 hK rfl rfl (lk1_n (lk1_n (lk1_n (lk1_n (lk1_n l4 (by decide) (Or.inl rfl)) (by decide) (Or.inl rfl)) (by decide) (Or.inl rfl)) (by decide) (Or.inl rfl)) (by decide) (Or.inl rfl)) _ rfl ?_
              refine x_goto 27 hK rfl rfl ?_
              have tt : lvT fd ea n (gi h 0 9) i = (luF fd ea 0 i) := by unfold lvT; first | (rw [if_pos (by omega), if_pos (by omega)]; done) | (rw [if_pos (by omega), if_neg (by omega)]; done) | (rw [if_neg (by omega), if_pos (by omega)]; done) | (rw [if_neg (by omega), if_neg (by omega)]; done)
              have en : (lvF fd ea n (gi h 0 9) (i + 1).toNat) = ((luF fd ea 0 i), i) := by rw [lvF_s i0.1, e0, tt]; exact if_pos (by show (luF fd ea 0 i) < s; omega)
              exact ih _ (by omega) (luF fd ea 0 i) i (i + 1) _ rfl (n0) (by omega) (en) (by omega) (by omega) (lk1_n (lk1_n (lk1_n (lk1_n (lk1_n (lk1_n l0 (by decide) (Or.inl rfl)) (by decide) (Or.inl rfl)) (by decide) (Or.inl rfl)) (by decide) (Or.inl rfl)) (by decide) (Or.inl rfl)) (by decide) (Or.inl rfl)) (lk1_n (lk1_n (lk1_n (lk1_n (lk1_n (lk1_n l1 (by decide) (Or.inl rfl)) (by decide) (Or.inl rfl)) (by decide) (Or.inl rfl)) (by decide) (Or.inl rfl)) (by decide) (Or.inl rfl)) (by decide) (Or.inl rfl)) (lk1_n (lk1_n lk1_s (by decide) (Or.inl rfl)) (by decide) (Or.inl rfl)) (lk1_n lk1_s (by decide) (Or.inl rfl)) lk1_s
        · refine x_iload 47 hK rfl rfl l4 ?_
          refine x_goto 51 hK rfl rfl ?_
          refine x_istore 53 hK rfl rfl _ rfl ?_
          refine x_iload_n 54 hK rfl rfl (lk1_n l1 (by decide) (Or.inl rfl)) ?_
          refine x_if_eq 62 57 hK rfl rfl rfl (by omega) (fun c => by omega) (fun _ => ?_)
          refine x_iload_n 58 hK rfl rfl (lk1_n l1 (by decide) (Or.inl rfl)) ?_
          refine x_iconst 59 hK rfl rfl ?_
          refine x_if_icmp_ne 67 62 hK rfl rfl rfl (by omega) (by omega) (fun _ => ?_) (fun c => by omega)
          refine x_aload_n 68 hK rfl rfl (lk1_n l0 (by decide) (Or.inl rfl)) ?_
          refine x_getE 71 hK rfl (Or.inl rfl) rfl (sp_0 (h := h) hG) (e := (gi h 0 9)) (rfl) ?_
          refine x_iconst 72 hK rfl rfl ?_
          refine x_isub 73 hK rfl rfl ?_
          refine x_istore 75 hK rfl rfl _ rfl ?_
          refine x_aload_n 76 hK rfl rfl (lk1_n (lk1_n l0 (by decide) (Or.inl rfl)) (by decide) (Or.inl rfl)) ?_
          refine x_iload 78 hK rfl rfl (lk1_n lk1_s (by decide) (Or.inl rfl)) ?_
          refine x_iload 80 hK rfl rfl lk1_s ?_
          have me584 : gi h 0 9 = (gi h 0 9) := rfl
          have lb584 := luF_b (fd := fd) (ea := ea) (a := i) (b := ((gi h 0 9) - 1)) (m := (gi h 0 9)) (by omega) (by omega) g9.2 (fun j hj => (hf j hj).2) (fun j hj => (he j hj).2) (by omega)
          refine x_callV 83 hK hmono rfl rfl [.ref 0, .int (I i), .int (I ((gi h 0 9) - 1))] [] rfl rfl (Nat.le_of_ble_eq_true rfl) (Nat.le_of_ble_eq_true rfl) rfl (sp_0 (h := h) hG) (CLd_le (Nat.le_of_ble_eq_true rfl) (ctX10_lastsForF hSP hG (fd := fd) (ea := ea) (a := i) (z := ((gi h 0 9) - 1)) (by rw [me584]; exact hf) (by rw [me584]; exact he) (by omega) (by omega) (by rw [me584]; omega))) ?_
          rintro v9 h9 ⟨e9, rfl⟩
          rw [e9]
          clear e9
          refine x_istore 85 hK rfl rfl _ rfl ?_
          refine x_iload 87 hK rfl rfl lk1_s ?_
          refine x_iload_n 88 hK rfl rfl (lk1_n (lk1_n (lk1_n l2 (by decide) (Or.inl rfl)) (by decide) (Or.inl rfl)) (by decide) (Or.inl rfl)) ?_
          refine x_if_icmp_ge 97 91 hK rfl rfl rfl (by omega) (by omega) (fun c114 => ?_) (fun c114 => ?_)
          · refine x_iinc 100 hK rfl rfl (lk1_n (lk1_n (lk1_n l4 (by decide) (Or.inl rfl)) (by decide) (Or.inl rfl)) (by decide) (Or.inl rfl)) _ rfl ?_
            refine x_goto 27 hK rfl rfl ?_
            have tt : lvT fd ea n (gi h 0 9) i = (luF fd ea i ((gi h 0 9) - 1)) := by unfold lvT; first | (rw [if_pos (by omega), if_pos (by omega)]; done) | (rw [if_pos (by omega), if_neg (by omega)]; done) | (rw [if_neg (by omega), if_pos (by omega)]; done) | (rw [if_neg (by omega), if_neg (by omega)]; done)
            have en : (lvF fd ea n (gi h 0 9) (i + 1).toNat) = (s, w) := by rw [lvF_s i0.1, e0, tt]; exact if_neg (by show ¬ (luF fd ea i ((gi h 0 9) - 1)) < s; omega)
            exact ih _ (by omega) s w (i + 1) _ rfl (n0) (by omega) (en) (by omega) (by omega) (lk1_n (lk1_n (lk1_n (lk1_n l0 (by decide) (Or.inl rfl)) (by decide) (Or.inl rfl)) (by decide) (Or.inl rfl)) (by decide) (Or.inl rfl)) (lk1_n (lk1_n (lk1_n (lk1_n l1 (by decide) (Or.inl rfl)) (by decide) (Or.inl rfl)) (by decide) (Or.inl rfl)) (by decide) (Or.inl rfl)) (lk1_n (lk1_n (lk1_n (lk1_n l2 (by decide) (Or.inl rfl)) (by decide) (Or.inl rfl)) (by decide) (Or.inl rfl)) (by decide) (Or.inl rfl)) (lk1_n (lk1_n (lk1_n (lk1_n l3 (by decide) (Or.inl rfl)) (by decide) (Or.inl rfl)) (by decide) (Or.inl rfl)) (by decide) (Or.inl rfl)) lk1_s
          · refine x_iload 93 hK rfl rfl lk1_s ?_
            refine x_istore_n 94 hK rfl rfl _ rfl ?_
            refine x_iload 96 hK rfl rfl (lk1_n (lk1_n (lk1_n (lk1_n l4 (by decide) (Or.inl rfl)) (by decide) (Or.inl rfl)) (by decide) (Or.inl rfl)) (by decide) (Or.inl rfl)) ?_
            refine x_istore_n 97 hK rfl rfl _ rfl ?_
            refine x_iinc 100 hK rfl rfl (lk1_n (lk1_n (lk1_n (lk1_n (lk1_n l4 (by decide) (Or.inl rfl)) (by decide) (Or.inl rfl)) (by decide) (Or.inl rfl)) (by decide) (Or.inl rfl)) (by decide) (Or.inl rfl)) _ rfl ?_
            refine x_goto 27 hK rfl rfl ?_
            have tt : lvT fd ea n (gi h 0 9) i = (luF fd ea i ((gi h 0 9) - 1)) := by unfold lvT; first | (rw [if_pos (by omega), if_pos (by omega)]; done) | (rw [if_pos (by omega), if_neg (by omega)]; done) | (rw [if_neg (by omega), if_pos (by omega)]; done) | (rw [if_neg (by omega), if_neg (by omega)]; done)
            have en : (lvF fd ea n (gi h 0 9) (i + 1).toNat) = ((luF fd ea i ((gi h 0 9) - 1)), i) := by rw [lvF_s i0.1, e0, tt]; exact if_pos (by show (luF fd ea i ((gi h 0 9) - 1)) < s; omega)
            exact ih _ (by omega) (luF fd ea i ((gi h 0 9) - 1)) i (i + 1) _ rfl (n0) (by omega) (en) (by omega) (by omega) (lk1_n (lk1_n (lk1_n (lk1_n (lk1_n (lk1_n l0 (by decide) (Or.inl rfl)) (by decide) (Or.inl rfl)) (by decide) (Or.inl rfl)) (by decide) (Or.inl rfl)) (by decide) (Or.inl rfl)) (by decide) (Or.inl rfl)) (lk1_n (lk1_n (lk1_n (lk1_n (lk1_n (lk1_n l1 (by decide) (Or.inl rfl)) (by decide) (Or.inl rfl)) (by decide) (Or.inl rfl)) (by decide) (Or.inl rfl)) (by decide) (Or.inl rfl)) (by decide) (Or.inl rfl)) (lk1_n (lk1_n lk1_s (by decide) (Or.inl rfl)) (by decide) (Or.inl rfl)) (lk1_n lk1_s (by decide) (Or.inl rfl)) lk1_s
  refine x_iload_n 1 hK rfl rfl rfl ?_
  refine x_if_lt 16 4 hK rfl rfl rfl (by omega) (fun c2 => ?_) (fun c2 => ?_)
  · refine x_iconst 17 hK rfl rfl ?_
    exact x_iret hK rfl ⟨Or.inl ⟨fun z => by have z1 := z.1; have z2 := z.2; omega, rfl, rfl⟩, hG, FRM.rf⟩
  · refine x_iload_n 5 hK rfl rfl rfl ?_
    refine x_iconst 6 hK rfl rfl ?_
    refine x_if_icmp_gt 16 9 hK rfl rfl rfl (by omega) (by omega) (fun c7 => ?_) (fun c7 => ?_)
    · refine x_iconst 17 hK rfl rfl ?_
      exact x_iret hK rfl ⟨Or.inl ⟨fun z => by have z1 := z.1; have z2 := z.2; omega, rfl, rfl⟩, hG, FRM.rf⟩
    · refine x_aload_n 10 hK rfl rfl rfl ?_
      have g585 := gri (0) (8) hG (a := 0) (r := 0) (k := 9) rfl rfl
      refine x_getE 13 hK rfl (Or.inl rfl) rfl (sp_0 (h := h) hG) (e := (gi h 0 9)) (rfl) ?_
      refine x_if_ne 18 16 hK rfl rfl rfl (by omega) (fun c12 => ?_) (fun c12 => ?_)
      · refine x_ldc_w 21 hK rfl rfl ?_
        refine x_istore_n 22 hK rfl rfl [(2, .int (I 99999)), (0, .ref 0), (1, .int (I n))] rfl ?_
        refine x_iconst 23 hK rfl rfl ?_
        refine x_istore_n 24 hK rfl rfl [(3, .int (I (-1))), (2, .int (I 99999)), (0, .ref 0), (1, .int (I n))] rfl ?_
        refine x_iconst 25 hK rfl rfl ?_
        refine x_istore 27 hK rfl rfl [(4, .int (I 0)), (3, .int (I (-1))), (2, .int (I 99999)), (0, .ref 0), (1, .int (I n))] rfl ?_
        exact loop _ 99999 (-1) 0 _ rfl (⟨⟨by omega, by omega⟩, by omega⟩) (by omega) (rfl) (by omega) (by omega) rfl rfl rfl rfl rfl
      · refine x_iconst 17 hK rfl rfl ?_
        exact x_iret hK rfl ⟨Or.inl ⟨fun z => by have z1 := z.1; have z2 := z.2; omega, rfl, rfl⟩, hG, FRM.rf⟩
set_option maxRecDepth 4000 in
theorem ctX11_livesF {SP : CT} (hSP : MONO SP) {sh : List (Nat × Nat)} {h : aH} (hG : GD gE gRL sh h) {fd ea : Nat → Int} (hf : ∀ j : Nat, (j : Int) < gi h 171 7 → gi h 178 (41 + j) = fd j ∧ 0 ≤ fd j ∧ fd j ≤ 99) (he : ∀ j : Nat, (j : Int) < gi h 171 7 → gi h 177 j = ea j ∧ 0 ≤ ea j ∧ ea j ≤ 9) {n : Int} (rn : r32 n) : CLd SP 3 mX11_lives [.ref 171, .int (I n)] h 0 0 (fun rv h' => ((¬ ((0 ≤ n ∧ n ≤ 3) ∧ gi h 171 7 ≠ 0) ∧ rv = some (.int (I (-1))) ∧ mrow h' = mrow h ∧ gi h' 171 1 = gi h 171 1) ∨ (((0 ≤ n ∧ n ≤ 3) ∧ gi h 171 7 ≠ 0) ∧ rv = some (.int (I (lvF fd ea n (gi h 171 7) (gi h 171 7).toNat).1)) ∧ mrow h' = [(lvF fd ea n (gi h 171 7) (gi h 171 7).toNat).2])) ∧ GD gE gRL sh h' ∧ FRM gRL [(0, 54, 0, 0), (0, 54, 1, 1), (1, 55, 0, 39)] h h') := by
  refine x_met _ rfl (Nat.le_of_ble_eq_true rfl) (fun K hK => ?_)
  have hmono := MONO_CLd hSP 2
  have g9 := gri 0 8 hG (a := 171) (r := 54) (k := 7) rfl rfl
  have loop : ∀ (mz : Nat) (s w i : Int) (h4 : aH) (ls : List (Nat × Value)), ((gi h 171 7 - i).toNat = mz) → ((0 ≤ n ∧ n ≤ 3) ∧ gi h 171 7 ≠ 0) → (0 ≤ i ∧ i ≤ gi h 171 7) → (n < 3 → (lvF fd ea n (gi h 171 7) i.toNat) = (s, w)) → (n = 3 → (lvF fd ea n (gi h 171 7) (gi h 171 7).toNat) = (s, w)) → (0 ≤ s ∧ s ≤ 99999) → (-1 ≤ w ∧ w ≤ 8) → lk ls 0 = some (.ref 171) → lk ls 1 = some (.int (I n)) → lk ls 2 = some (.int (I s)) → lk ls 3 = some (.int (I w)) → lk ls 4 = some (.int (I i)) → GD gE gRL sh h4 → FRM gRL [(0, 54, 0, 0), (0, 54, 1, 1), (1, 55, 0, 39)] h h4 → K 70 ls [] h4 0 0 := by
    intro mz
    induction mz using Nat.strongRecOn with
    | ind mz ih =>
    intro s w i h4 ls hm n0 i0 e0 e3 s0 w0 l0 l1 l2 l3 l4 hG4 hF4
    have m4 : gi h4 171 7 = gi h 171 7 := FRM_gi hF4 (r := 54) rfl (by decide)
    refine x_iload 72 hK rfl rfl l4 ?_
    refine x_aload_n 73 hK rfl rfl l0 ?_
    have g586 := gri (0) (8) hG (a := 171) (r := 54) (k := 7) rfl rfl
    refine x_getE 76 hK rfl (Or.inl rfl) rfl (sp_171 (h := h4) hG4) (e := (gi h 171 7)) (m4) ?_
    refine x_if_icmp_ge 143 79 hK rfl rfl rfl (by omega) (by omega) (fun c4 => ?_) (fun c4 => ?_)
    · refine x_aload_n 144 hK rfl rfl l0 ?_
      refine x_iconst 145 hK rfl rfl ?_
      refine x_putI 148 hK rfl rfl (sp_171 (h := h4) hG4) ?_
      refine x_aload_n 149 hK rfl rfl l0 ?_
      refine x_iload_n 150 hK rfl rfl l3 ?_
      refine x_i2l 151 hK rfl rfl (by omega) ?_
      have hGp587 : GD gE gRL sh (wI h4 171 1 0) := GD_w1 (hG4) (r := 54) rfl (by omega) rfl (by omega) (by omega)
      have z589 : gi (wI h4 171 1 0) 171 1 = 0 := gi_same (by omega)
      have z589r : mrow (wI h4 171 1 0) = [] := mrow_0 (gi_same (by omega))
      refine x_callV 154 hK hmono rfl rfl [.ref 171, .long (J w)] [] rfl rfl (Nat.le_of_ble_eq_true rfl) (Nat.le_of_ble_eq_true rfl) rfl (sp_171 (h := h4) hG4) (CLd_le (Nat.le_of_ble_eq_true rfl) (ctX11_entersF hSP hGp587 (by omega) (by omega))) ?_
      rintro v588 h588 ⟨rfl, hG588, hF588, t588, s588⟩
      rw [z589] at t588
      rw [z589r] at s588
      replace t588 : gi h588 171 1 = 1 := t588
      change mrow h588 = [w] at s588
      refine x_iload_n 155 hK rfl rfl l2 ?_
      have ee : (lvF fd ea n (gi h 171 7) (gi h 171 7).toNat) = (s, w) := by
        by_cases q : n = 3
        · exact e3 q
        · rw [show (gi h 171 7).toNat = i.toNat by omega]; exact e0 (by omega)
      exact x_iret hK rfl ⟨Or.inr ⟨n0, by rw [ee], by rw [ee]; exact s588⟩, hG588, (FRM_w (hF4) (r := 54) rfl rfl).trans ((hF588).mono rfl)⟩
    · refine x_iload_n 80 hK rfl rfl l1 ?_
      refine x_iconst 81 hK rfl rfl ?_
      refine x_if_icmp_ge 143 84 hK rfl rfl rfl (by omega) (by omega) (fun c16 => ?_) (fun c16 => ?_)
      · refine x_aload_n 144 hK rfl rfl l0 ?_
        refine x_iconst 145 hK rfl rfl ?_
        refine x_putI 148 hK rfl rfl (sp_171 (h := h4) hG4) ?_
        refine x_aload_n 149 hK rfl rfl l0 ?_
        refine x_iload_n 150 hK rfl rfl l3 ?_
        refine x_i2l 151 hK rfl rfl (by omega) ?_
        have hGp590 : GD gE gRL sh (wI h4 171 1 0) := GD_w1 (hG4) (r := 54) rfl (by omega) rfl (by omega) (by omega)
        have z592 : gi (wI h4 171 1 0) 171 1 = 0 := gi_same (by omega)
        have z592r : mrow (wI h4 171 1 0) = [] := mrow_0 (gi_same (by omega))
        refine x_callV 154 hK hmono rfl rfl [.ref 171, .long (J w)] [] rfl rfl (Nat.le_of_ble_eq_true rfl) (Nat.le_of_ble_eq_true rfl) rfl (sp_171 (h := h4) hG4) (CLd_le (Nat.le_of_ble_eq_true rfl) (ctX11_entersF hSP hGp590 (by omega) (by omega))) ?_
        rintro v591 h591 ⟨rfl, hG591, hF591, t591, s591⟩
        rw [z592] at t591
        rw [z592r] at s591
        replace t591 : gi h591 171 1 = 1 := t591
        change mrow h591 = [w] at s591
        refine x_iload_n 155 hK rfl rfl l2 ?_
        have ee : (lvF fd ea n (gi h 171 7) (gi h 171 7).toNat) = (s, w) := by
          by_cases q : n = 3
          · exact e3 q
          · rw [show (gi h 171 7).toNat = i.toNat by omega]; exact e0 (by omega)
        exact x_iret hK rfl ⟨Or.inr ⟨n0, by rw [ee], by rw [ee]; exact s591⟩, hG591, (FRM_w (hF4) (r := 54) rfl rfl).trans ((hF591).mono rfl)⟩
      · refine x_aload_n 85 hK rfl rfl l0 ?_
        refine x_iload_n 86 hK rfl rfl l1 ?_
        refine x_iconst 87 hK rfl rfl ?_
        refine x_if_icmp_ne 94 90 hK rfl rfl rfl (by omega) (by omega) (fun c29 => ?_) (fun c29 => ?_)
        · refine x_iload 96 hK rfl rfl l4 ?_
          refine x_iload_n 97 hK rfl rfl l1 ?_
          refine x_iconst 98 hK rfl rfl ?_
          refine x_if_icmp_ne 110 101 hK rfl rfl rfl (by omega) (by omega) (fun c33 => ?_) (fun c33 => ?_)
          · refine x_iload 112 hK rfl rfl l4 ?_
            have me593 : gi h4 171 7 = (gi h 171 7) := m4
            have lb593 := luF_b (fd := fd) (ea := ea) (a := i) (b := i) (m := (gi h 171 7)) (by omega) (by omega) g9.2 (fun j hj => (hf j hj).2) (fun j hj => (he j hj).2) (by omega)
            refine x_callV 115 hK hmono rfl rfl [.ref 171, .int (I i), .int (I i)] [] rfl rfl (Nat.le_of_ble_eq_true rfl) (Nat.le_of_ble_eq_true rfl) rfl (sp_171 (h := h4) hG4) (CLd_le (Nat.le_of_ble_eq_true rfl) (ctX11_lastsForF hSP hG4 (fd := fd) (ea := ea) (a := i) (z := i) (by rw [me593]; exact (fun j hj => by rw [show gi h4 178 (41 + j) = gi h 178 (41 + j) from FRM_gi hF4 (r := 61) rfl rfl]; exact hf j hj)) (by rw [me593]; exact (fun j hj => by rw [show gi h4 177 j = gi h 177 j from FRM_gi hF4 (r := 60) rfl rfl]; exact he j hj)) (by omega) (by omega) (by rw [me593]; omega))) ?_
            rintro v9 h9 ⟨e9, rfl⟩
            rw [e9]
            clear e9
            refine x_istore 117 hK rfl rfl _ rfl ?_
            refine x_iload 119 hK rfl rfl lk1_s ?_
            refine x_iload_n 120 hK rfl rfl (lk1_n l2 (by decide) (Or.inl rfl)) ?_
            refine x_if_icmp_ge 128 123 hK rfl rfl rfl (by omega) (by omega) (fun c39 => ?_) (fun c39 => ?_)
            · refine x_iload_n 129 hK rfl rfl (lk1_n l3 (by decide) (Or.inl rfl)) ?_
              refine x_istore_n 130 hK rfl rfl _ rfl ?_
              refine x_iload_n 131 hK rfl rfl (lk1_n (lk1_n l2 (by decide) (Or.inl rfl)) (by decide) (Or.inl rfl)) ?_
              refine x_iload 133 hK rfl rfl (lk1_n lk1_s (by decide) (Or.inl rfl)) ?_
              refine x_min 136 hK rfl rfl (Nat.le_of_ble_eq_true rfl) (by omega) (by omega) ?_
              refine x_istore_n 137 hK rfl rfl _ rfl ?_
              refine x_iinc 140 hK rfl rfl (lk1_n (lk1_n (lk1_n l4 (by decide) (Or.inl rfl)) (by decide) (Or.inl rfl)) (by decide) (Or.inl rfl)) _ rfl ?_
              refine x_goto 70 hK rfl rfl ?_
              have tt : lvT fd ea n (gi h 171 7) i = (luF fd ea i i) := by unfold lvT; first | (rw [if_pos (by omega), if_pos (by omega)]; done) | (rw [if_pos (by omega), if_neg (by omega)]; done) | (rw [if_neg (by omega), if_pos (by omega)]; done) | (rw [if_neg (by omega), if_neg (by omega)]; done)
              have eb : (min s (luF fd ea i i)) = s := by omega
              have en : (lvF fd ea n (gi h 171 7) (i + 1).toNat) = ((min s (luF fd ea i i)), w) := by rw [eb, lvF_s i0.1, e0 (by omega), tt]; exact if_neg (by show ¬ (luF fd ea i i) < s; omega)
              exact ih _ (by omega) (min s (luF fd ea i i)) w (i + 1) _ _ rfl (n0) (by omega) (fun _ => en) (fun y => absurd y (by omega)) (by omega) (by omega) (lk1_n (lk1_n (lk1_n (lk1_n l0 (by decide) (Or.inl rfl)) (by decide) (Or.inl rfl)) (by decide) (Or.inl rfl)) (by decide) (Or.inl rfl)) (lk1_n (lk1_n (lk1_n (lk1_n l1 (by decide) (Or.inl rfl)) (by decide) (Or.inl rfl)) (by decide) (Or.inl rfl)) (by decide) (Or.inl rfl)) (lk1_n lk1_s (by decide) (Or.inl rfl)) (lk1_n (lk1_n lk1_s (by decide) (Or.inl rfl)) (by decide) (Or.inl rfl)) lk1_s (hG4) (hF4)
            · refine x_iload 125 hK rfl rfl (lk1_n l4 (by decide) (Or.inl rfl)) ?_
              refine x_goto 129 hK rfl rfl ?_
              refine x_istore_n 130 hK rfl rfl _ rfl ?_
              refine x_iload_n 131 hK rfl rfl (lk1_n (lk1_n l2 (by decide) (Or.inl rfl)) (by decide) (Or.inl rfl)) ?_
              refine x_iload 133 hK rfl rfl (lk1_n lk1_s (by decide) (Or.inl rfl)) ?_
              refine x_min 136 hK rfl rfl (Nat.le_of_ble_eq_true rfl) (by omega) (by omega) ?_
              refine x_istore_n 137 hK rfl rfl _ rfl ?_
              refine x_iinc 140 hK rfl rfl (lk1_n (lk1_n (lk1_n l4 (by decide) (Or.inl rfl)) (by decide) (Or.inl rfl)) (by decide) (Or.inl rfl)) _ rfl ?_
              refine x_goto 70 hK rfl rfl ?_
              have tt : lvT fd ea n (gi h 171 7) i = (luF fd ea i i) := by unfold lvT; first | (rw [if_pos (by omega), if_pos (by omega)]; done) | (rw [if_pos (by omega), if_neg (by omega)]; done) | (rw [if_neg (by omega), if_pos (by omega)]; done) | (rw [if_neg (by omega), if_neg (by omega)]; done)
              have eb : (min s (luF fd ea i i)) = (luF fd ea i i) := by omega
              have en : (lvF fd ea n (gi h 171 7) (i + 1).toNat) = ((min s (luF fd ea i i)), i) := by rw [eb, lvF_s i0.1, e0 (by omega), tt]; exact if_pos (by show (luF fd ea i i) < s; omega)
              exact ih _ (by omega) (min s (luF fd ea i i)) i (i + 1) _ _ rfl (n0) (by omega) (fun _ => en) (fun y => absurd y (by omega)) (by omega) (by omega) (lk1_n (lk1_n (lk1_n (lk1_n l0 (by decide) (Or.inl rfl)) (by decide) (Or.inl rfl)) (by decide) (Or.inl rfl)) (by decide) (Or.inl rfl)) (lk1_n (lk1_n (lk1_n (lk1_n l1 (by decide) (Or.inl rfl)) (by decide) (Or.inl rfl)) (by decide) (Or.inl rfl)) (by decide) (Or.inl rfl)) (lk1_n lk1_s (by decide) (Or.inl rfl)) (lk1_n (lk1_n lk1_s (by decide) (Or.inl rfl)) (by decide) (Or.inl rfl)) lk1_s (hG4) (hF4)
          · refine x_aload_n 102 hK rfl rfl l0 ?_
            refine x_getE 105 hK rfl (Or.inl rfl) rfl (sp_171 (h := h4) hG4) (e := (gi h 171 7)) (m4) ?_
            refine x_iconst 106 hK rfl rfl ?_
            refine x_isub 107 hK rfl rfl ?_
            refine x_goto 112 hK rfl rfl ?_
            have me594 : gi h4 171 7 = (gi h 171 7) := m4
            have lb594 := luF_b (fd := fd) (ea := ea) (a := i) (b := ((gi h 171 7) - 1)) (m := (gi h 171 7)) (by omega) (by omega) g9.2 (fun j hj => (hf j hj).2) (fun j hj => (he j hj).2) (by omega)
            refine x_callV 115 hK hmono rfl rfl [.ref 171, .int (I i), .int (I ((gi h 171 7) - 1))] [] rfl rfl (Nat.le_of_ble_eq_true rfl) (Nat.le_of_ble_eq_true rfl) rfl (sp_171 (h := h4) hG4) (CLd_le (Nat.le_of_ble_eq_true rfl) (ctX11_lastsForF hSP hG4 (fd := fd) (ea := ea) (a := i) (z := ((gi h 171 7) - 1)) (by rw [me594]; exact (fun j hj => by rw [show gi h4 178 (41 + j) = gi h 178 (41 + j) from FRM_gi hF4 (r := 61) rfl rfl]; exact hf j hj)) (by rw [me594]; exact (fun j hj => by rw [show gi h4 177 j = gi h 177 j from FRM_gi hF4 (r := 60) rfl rfl]; exact he j hj)) (by omega) (by omega) (by rw [me594]; omega))) ?_
            rintro v9 h9 ⟨e9, rfl⟩
            rw [e9]
            clear e9
            refine x_istore 117 hK rfl rfl _ rfl ?_
            refine x_iload 119 hK rfl rfl lk1_s ?_
            refine x_iload_n 120 hK rfl rfl (lk1_n l2 (by decide) (Or.inl rfl)) ?_
            refine x_if_icmp_ge 128 123 hK rfl rfl rfl (by omega) (by omega) (fun c68 => ?_) (fun c68 => ?_)
            · refine x_iload_n 129 hK rfl rfl (lk1_n l3 (by decide) (Or.inl rfl)) ?_
              refine x_istore_n 130 hK rfl rfl _ rfl ?_
              refine x_iload_n 131 hK rfl rfl (lk1_n (lk1_n l2 (by decide) (Or.inl rfl)) (by decide) (Or.inl rfl)) ?_
              refine x_iload 133 hK rfl rfl (lk1_n lk1_s (by decide) (Or.inl rfl)) ?_
              refine x_min 136 hK rfl rfl (Nat.le_of_ble_eq_true rfl) (by omega) (by omega) ?_
              refine x_istore_n 137 hK rfl rfl _ rfl ?_
              refine x_iinc 140 hK rfl rfl (lk1_n (lk1_n (lk1_n l4 (by decide) (Or.inl rfl)) (by decide) (Or.inl rfl)) (by decide) (Or.inl rfl)) _ rfl ?_
              refine x_goto 70 hK rfl rfl ?_
              have tt : lvT fd ea n (gi h 171 7) i = (luF fd ea i ((gi h 171 7) - 1)) := by unfold lvT; first | (rw [if_pos (by omega), if_pos (by omega)]; done) | (rw [if_pos (by omega), if_neg (by omega)]; done) | (rw [if_neg (by omega), if_pos (by omega)]; done) | (rw [if_neg (by omega), if_neg (by omega)]; done)
              have eb : (min s (luF fd ea i ((gi h 171 7) - 1))) = s := by omega
              have en : (lvF fd ea n (gi h 171 7) (i + 1).toNat) = ((min s (luF fd ea i ((gi h 171 7) - 1))), w) := by rw [eb, lvF_s i0.1, e0 (by omega), tt]; exact if_neg (by show ¬ (luF fd ea i ((gi h 171 7) - 1)) < s; omega)
              exact ih _ (by omega) (min s (luF fd ea i ((gi h 171 7) - 1))) w (i + 1) _ _ rfl (n0) (by omega) (fun _ => en) (fun y => absurd y (by omega)) (by omega) (by omega) (lk1_n (lk1_n (lk1_n (lk1_n l0 (by decide) (Or.inl rfl)) (by decide) (Or.inl rfl)) (by decide) (Or.inl rfl)) (by decide) (Or.inl rfl)) (lk1_n (lk1_n (lk1_n (lk1_n l1 (by decide) (Or.inl rfl)) (by decide) (Or.inl rfl)) (by decide) (Or.inl rfl)) (by decide) (Or.inl rfl)) (lk1_n lk1_s (by decide) (Or.inl rfl)) (lk1_n (lk1_n lk1_s (by decide) (Or.inl rfl)) (by decide) (Or.inl rfl)) lk1_s (hG4) (hF4)
            · refine x_iload 125 hK rfl rfl (lk1_n l4 (by decide) (Or.inl rfl)) ?_
              refine x_goto 129 hK rfl rfl ?_
              refine x_istore_n 130 hK rfl rfl _ rfl ?_
              refine x_iload_n 131 hK rfl rfl (lk1_n (lk1_n l2 (by decide) (Or.inl rfl)) (by decide) (Or.inl rfl)) ?_
              refine x_iload 133 hK rfl rfl (lk1_n lk1_s (by decide) (Or.inl rfl)) ?_
              refine x_min 136 hK rfl rfl (Nat.le_of_ble_eq_true rfl) (by omega) (by omega) ?_
              refine x_istore_n 137 hK rfl rfl _ rfl ?_
              refine x_iinc 140 hK rfl rfl (lk1_n (lk1_n (lk1_n l4 (by decide) (Or.inl rfl)) (by decide) (Or.inl rfl)) (by decide) (Or.inl rfl)) _ rfl ?_
              refine x_goto 70 hK rfl rfl ?_
              have tt : lvT fd ea n (gi h 171 7) i = (luF fd ea i ((gi h 171 7) - 1)) := by unfold lvT; first | (rw [if_pos (by omega), if_pos (by omega)]; done) | (rw [if_pos (by omega), if_neg (by omega)]; done) | (rw [if_neg (by omega), if_pos (by omega)]; done) | (rw [if_neg (by omega), if_neg (by omega)]; done)
              have eb : (min s (luF fd ea i ((gi h 171 7) - 1))) = (luF fd ea i ((gi h 171 7) - 1)) := by omega
              have en : (lvF fd ea n (gi h 171 7) (i + 1).toNat) = ((min s (luF fd ea i ((gi h 171 7) - 1))), i) := by rw [eb, lvF_s i0.1, e0 (by omega), tt]; exact if_pos (by show (luF fd ea i ((gi h 171 7) - 1)) < s; omega)
              exact ih _ (by omega) (min s (luF fd ea i ((gi h 171 7) - 1))) i (i + 1) _ _ rfl (n0) (by omega) (fun _ => en) (fun y => absurd y (by omega)) (by omega) (by omega) (lk1_n (lk1_n (lk1_n (lk1_n l0 (by decide) (Or.inl rfl)) (by decide) (Or.inl rfl)) (by decide) (Or.inl rfl)) (by decide) (Or.inl rfl)) (lk1_n (lk1_n (lk1_n (lk1_n l1 (by decide) (Or.inl rfl)) (by decide) (Or.inl rfl)) (by decide) (Or.inl rfl)) (by decide) (Or.inl rfl)) (lk1_n lk1_s (by decide) (Or.inl rfl)) (lk1_n (lk1_n lk1_s (by decide) (Or.inl rfl)) (by decide) (Or.inl rfl)) lk1_s (hG4) (hF4)
        · refine x_iconst 91 hK rfl rfl ?_
          refine x_goto 96 hK rfl rfl ?_
          refine x_iload_n 97 hK rfl rfl l1 ?_
          refine x_iconst 98 hK rfl rfl ?_
          refine x_if_icmp_ne 110 101 hK rfl rfl rfl (by omega) (by omega) (fun _ => ?_) (fun c => by omega)
          refine x_iload 112 hK rfl rfl l4 ?_
          have me595 : gi h4 171 7 = (gi h 171 7) := m4
          have lb595 := luF_b (fd := fd) (ea := ea) (a := 0) (b := i) (m := (gi h 171 7)) (by omega) (by omega) g9.2 (fun j hj => (hf j hj).2) (fun j hj => (he j hj).2) (by omega)
          refine x_callV 115 hK hmono rfl rfl [.ref 171, .int (I 0), .int (I i)] [] rfl rfl (Nat.le_of_ble_eq_true rfl) (Nat.le_of_ble_eq_true rfl) rfl (sp_171 (h := h4) hG4) (CLd_le (Nat.le_of_ble_eq_true rfl) (ctX11_lastsForF hSP hG4 (fd := fd) (ea := ea) (a := 0) (z := i) (by rw [me595]; exact (fun j hj => by rw [show gi h4 178 (41 + j) = gi h 178 (41 + j) from FRM_gi hF4 (r := 61) rfl rfl]; exact hf j hj)) (by rw [me595]; exact (fun j hj => by rw [show gi h4 177 j = gi h 177 j from FRM_gi hF4 (r := 60) rfl rfl]; exact he j hj)) (by omega) (by omega) (by rw [me595]; omega))) ?_
          rintro v9 h9 ⟨e9, rfl⟩
          rw [e9]
          clear e9
          refine x_istore 117 hK rfl rfl _ rfl ?_
          refine x_iload 119 hK rfl rfl lk1_s ?_
          refine x_iload_n 120 hK rfl rfl (lk1_n l2 (by decide) (Or.inl rfl)) ?_
          refine x_if_icmp_ge 128 123 hK rfl rfl rfl (by omega) (by omega) (fun c98 => ?_) (fun c98 => ?_)
          · refine x_iload_n 129 hK rfl rfl (lk1_n l3 (by decide) (Or.inl rfl)) ?_
            refine x_istore_n 130 hK rfl rfl _ rfl ?_
            refine x_iload_n 131 hK rfl rfl (lk1_n (lk1_n l2 (by decide) (Or.inl rfl)) (by decide) (Or.inl rfl)) ?_
            refine x_iload 133 hK rfl rfl (lk1_n lk1_s (by decide) (Or.inl rfl)) ?_
            refine x_min 136 hK rfl rfl (Nat.le_of_ble_eq_true rfl) (by omega) (by omega) ?_
            refine x_istore_n 137 hK rfl rfl _ rfl ?_
            refine x_iinc 140 hK rfl rfl (lk1_n (lk1_n (lk1_n l4 (by decide) (Or.inl rfl)) (by decide) (Or.inl rfl)) (by decide) (Or.inl rfl)) _ rfl ?_
            refine x_goto 70 hK rfl rfl ?_
            have tt : lvT fd ea n (gi h 171 7) i = (luF fd ea 0 i) := by unfold lvT; first | (rw [if_pos (by omega), if_pos (by omega)]; done) | (rw [if_pos (by omega), if_neg (by omega)]; done) | (rw [if_neg (by omega), if_pos (by omega)]; done) | (rw [if_neg (by omega), if_neg (by omega)]; done)
            have eb : (min s (luF fd ea 0 i)) = s := by omega
            have en : (lvF fd ea n (gi h 171 7) (i + 1).toNat) = ((min s (luF fd ea 0 i)), w) := by rw [eb, lvF_s i0.1, e0 (by omega), tt]; exact if_neg (by show ¬ (luF fd ea 0 i) < s; omega)
            exact ih _ (by omega) (min s (luF fd ea 0 i)) w (i + 1) _ _ rfl (n0) (by omega) (fun _ => en) (fun y => absurd y (by omega)) (by omega) (by omega) (lk1_n (lk1_n (lk1_n (lk1_n l0 (by decide) (Or.inl rfl)) (by decide) (Or.inl rfl)) (by decide) (Or.inl rfl)) (by decide) (Or.inl rfl)) (lk1_n (lk1_n (lk1_n (lk1_n l1 (by decide) (Or.inl rfl)) (by decide) (Or.inl rfl)) (by decide) (Or.inl rfl)) (by decide) (Or.inl rfl)) (lk1_n lk1_s (by decide) (Or.inl rfl)) (lk1_n (lk1_n lk1_s (by decide) (Or.inl rfl)) (by decide) (Or.inl rfl)) lk1_s (hG4) (hF4)
          · refine x_iload 125 hK rfl rfl (lk1_n l4 (by decide) (Or.inl rfl)) ?_
            refine x_goto 129 hK rfl rfl ?_
            refine x_istore_n 130 hK rfl rfl _ rfl ?_
            refine x_iload_n 131 hK rfl rfl (lk1_n (lk1_n l2 (by decide) (Or.inl rfl)) (by decide) (Or.inl rfl)) ?_
            refine x_iload 133 hK rfl rfl (lk1_n lk1_s (by decide) (Or.inl rfl)) ?_
            refine x_min 136 hK rfl rfl (Nat.le_of_ble_eq_true rfl) (by omega) (by omega) ?_
            refine x_istore_n 137 hK rfl rfl _ rfl ?_
            refine x_iinc 140 hK rfl rfl (lk1_n (lk1_n (lk1_n l4 (by decide) (Or.inl rfl)) (by decide) (Or.inl rfl)) (by decide) (Or.inl rfl)) _ rfl ?_
            refine x_goto 70 hK rfl rfl ?_
            have tt : lvT fd ea n (gi h 171 7) i = (luF fd ea 0 i) := by unfold lvT; first | (rw [if_pos (by omega), if_pos (by omega)]; done) | (rw [if_pos (by omega), if_neg (by omega)]; done) | (rw [if_neg (by omega), if_pos (by omega)]; done) | (rw [if_neg (by omega), if_neg (by omega)]; done)
            have eb : (min s (luF fd ea 0 i)) = (luF fd ea 0 i) := by omega
            have en : (lvF fd ea n (gi h 171 7) (i + 1).toNat) = ((min s (luF fd ea 0 i)), i) := by rw [eb, lvF_s i0.1, e0 (by omega), tt]; exact if_pos (by show (luF fd ea 0 i) < s; omega)
            exact ih _ (by omega) (min s (luF fd ea 0 i)) i (i + 1) _ _ rfl (n0) (by omega) (fun _ => en) (fun y => absurd y (by omega)) (by omega) (by omega) (lk1_n (lk1_n (lk1_n (lk1_n l0 (by decide) (Or.inl rfl)) (by decide) (Or.inl rfl)) (by decide) (Or.inl rfl)) (by decide) (Or.inl rfl)) (lk1_n (lk1_n (lk1_n (lk1_n l1 (by decide) (Or.inl rfl)) (by decide) (Or.inl rfl)) (by decide) (Or.inl rfl)) (by decide) (Or.inl rfl)) (lk1_n lk1_s (by decide) (Or.inl rfl)) (lk1_n (lk1_n lk1_s (by decide) (Or.inl rfl)) (by decide) (Or.inl rfl)) lk1_s (hG4) (hF4)
  refine x_aload_n 1 hK rfl rfl rfl ?_
  refine x_iconst 2 hK rfl rfl ?_
  refine x_putI 5 hK rfl rfl (sp_171 (h := h) hG) ?_
  refine x_iload_n 6 hK rfl rfl rfl ?_
  refine x_i2l 7 hK rfl rfl (by omega) ?_
  refine x_lconstE 8 0 hK rfl rfl rfl ?_
  refine x_ldc2_w 11 hK rfl rfl ?_
  have hGp596 : GD gE gRL sh (wI h 171 0 0) := GD_w1 (hG) (r := 54) rfl (by omega) rfl (by omega) (by omega)
  refine x_callS 14 hK hmono rfl (Or.inl rfl) rfl [.long (J n), .long (J 0), .long (J 3)] [] rfl rfl (Nat.le_of_ble_eq_true rfl) (Nat.le_of_ble_eq_true rfl) (CLd_le (Nat.le_of_ble_eq_true rfl) (ctX11_in (by omega) (by omega) (by omega))) ?_
  rintro v9 h9 ⟨e9, ⟨rfl, i1597, i2597⟩ | ⟨rfl, i1597⟩⟩ <;> rw [e9] <;> clear e9
  · refine x_if_eq 24 17 hK rfl rfl rfl (by omega) (fun c => by omega) (fun _ => ?_)
    refine x_aload_n 18 hK rfl rfl rfl ?_
    have g598 := gri (0) (8) hG (a := 171) (r := 54) (k := 7) rfl rfl
    refine x_getE 21 hK rfl (Or.inl rfl) rfl (sp_171 (h := h) hG) (e := (gi h 171 7)) (gi_k (by decide) _) ?_
    refine x_if_ne 26 24 hK rfl rfl rfl (by omega) (fun c12 => ?_) (fun c12 => ?_)
    · refine x_iload_n 27 hK rfl rfl rfl ?_
      refine x_iconst 28 hK rfl rfl ?_
      refine x_if_icmp_ne 45 31 hK rfl rfl rfl (by omega) (by omega) (fun c15 => ?_) (fun c15 => ?_)
      · refine x_ldc_w 48 hK rfl rfl ?_
        refine x_istore_n 49 hK rfl rfl [(2, .int (I 99999)), (0, .ref 171), (1, .int (I n))] rfl ?_
        refine x_iload_n 50 hK rfl rfl rfl ?_
        refine x_iconst 51 hK rfl rfl ?_
        refine x_if_icmp_ne 65 54 hK rfl rfl rfl (by omega) (by omega) (fun _ => ?_) (fun c => by omega)
        refine x_iconst 66 hK rfl rfl ?_
        refine x_istore_n 67 hK rfl rfl [(3, .int (I (-1))), (2, .int (I 99999)), (0, .ref 171), (1, .int (I n))] rfl ?_
        refine x_iconst 68 hK rfl rfl ?_
        refine x_istore 70 hK rfl rfl [(4, .int (I 0)), (3, .int (I (-1))), (2, .int (I 99999)), (0, .ref 171), (1, .int (I n))] rfl ?_
        exact loop _ 99999 (-1) 0 _ _ rfl (⟨⟨by omega, by omega⟩, by omega⟩) (by omega) (fun _ => rfl) (fun y => absurd y (by omega)) (by omega) (by omega) rfl rfl rfl rfl rfl (GD_w1 (hG) (r := 54) rfl (by omega) rfl (by omega) (by omega)) (FRM_w ((FRM.rf : FRM gRL [(0, 54, 0, 0), (0, 54, 1, 1), (1, 55, 0, 39)] h h)) (r := 54) rfl rfl)
      · refine x_aload_n 32 hK rfl rfl rfl ?_
        refine x_iconst 33 hK rfl rfl ?_
        refine x_aload_n 34 hK rfl rfl rfl ?_
        refine x_getE 37 hK rfl (Or.inl rfl) rfl (sp_171 (h := h) hG) (e := (gi h 171 7)) (gi_k (by decide) _) ?_
        refine x_iconst 38 hK rfl rfl ?_
        refine x_isub 39 hK rfl rfl ?_
        have hGp600 : GD gE gRL sh (wI h 171 0 0) := GD_w1 (hG) (r := 54) rfl (by omega) rfl (by omega) (by omega)
        have me599 : gi (wI h 171 0 0) 171 7 = (gi h 171 7) := gi_k (by decide) _
        have lb599 := luF_b (fd := fd) (ea := ea) (a := 0) (b := ((gi h 171 7) - 1)) (m := (gi h 171 7)) (by omega) (by omega) g9.2 (fun j hj => (hf j hj).2) (fun j hj => (he j hj).2) (by omega)
        refine x_callV 42 hK hmono rfl rfl [.ref 171, .int (I 0), .int (I ((gi h 171 7) - 1))] [] rfl rfl (Nat.le_of_ble_eq_true rfl) (Nat.le_of_ble_eq_true rfl) rfl (sp_171 (h := h) hG) (CLd_le (Nat.le_of_ble_eq_true rfl) (ctX11_lastsForF hSP hGp600 (fd := fd) (ea := ea) (a := 0) (z := ((gi h 171 7) - 1)) (by rw [me599]; exact (fun j hj => by rw [show gi (wI h 171 0 0) 178 (41 + j) = gi h 178 (41 + j) from gi_a (by decide) _]; exact hf j hj)) (by rw [me599]; exact (fun j hj => by rw [show gi (wI h 171 0 0) 177 j = gi h 177 j from gi_a (by decide) _]; exact he j hj)) (by omega) (by omega) (by rw [me599]; omega))) ?_
        rintro v9 h9 ⟨e9, rfl⟩
        rw [e9]
        clear e9
        refine x_goto 48 hK rfl rfl ?_
        refine x_istore_n 49 hK rfl rfl [(2, .int (I (luF fd ea 0 ((gi h 171 7) - 1)))), (0, .ref 171), (1, .int (I n))] rfl ?_
        refine x_iload_n 50 hK rfl rfl rfl ?_
        refine x_iconst 51 hK rfl rfl ?_
        refine x_if_icmp_ne 65 54 hK rfl rfl rfl (by omega) (by omega) (fun c => by omega) (fun _ => ?_)
        refine x_iload_n 55 hK rfl rfl rfl ?_
        refine x_ldc_w 58 hK rfl rfl ?_
        refine x_if_icmp_ge 65 61 hK rfl rfl rfl (by omega) (by omega) (fun c40 => ?_) (fun c40 => ?_)
        · refine x_iconst 66 hK rfl rfl ?_
          refine x_istore_n 67 hK rfl rfl [(3, .int (I (-1))), (2, .int (I (luF fd ea 0 ((gi h 171 7) - 1)))), (0, .ref 171), (1, .int (I n))] rfl ?_
          refine x_iconst 68 hK rfl rfl ?_
          refine x_istore 70 hK rfl rfl [(4, .int (I 0)), (3, .int (I (-1))), (2, .int (I (luF fd ea 0 ((gi h 171 7) - 1)))), (0, .ref 171), (1, .int (I n))] rfl ?_
          exact loop _ (luF fd ea 0 ((gi h 171 7) - 1)) (-1) 0 _ _ rfl (⟨⟨by omega, by omega⟩, by omega⟩) (by omega) (fun y => absurd y (by omega)) (fun y => by
            rw [y]
            have z := lv_3 (fd := fd) (ea := ea) (ms := gi h 171 7) (by omega) ((gi h 171 7).toNat - 1)
            rw [show (gi h 171 7).toNat - 1 + 1 = (gi h 171 7).toNat by omega] at z
            rw [z]
            first | (rw [if_pos (by omega)]; done) | (rw [if_neg (by omega)]; exact Prod.ext (by show (99999 : Int) = _; omega) rfl)) (by omega) (by omega) rfl rfl rfl rfl rfl (GD_w1 (hG) (r := 54) rfl (by omega) rfl (by omega) (by omega)) (FRM_w ((FRM.rf : FRM gRL [(0, 54, 0, 0), (0, 54, 1, 1), (1, 55, 0, 39)] h h)) (r := 54) rfl rfl)
        · refine x_iconst 62 hK rfl rfl ?_
          refine x_goto 66 hK rfl rfl ?_
          refine x_istore_n 67 hK rfl rfl [(3, .int (I 0)), (2, .int (I (luF fd ea 0 ((gi h 171 7) - 1)))), (0, .ref 171), (1, .int (I n))] rfl ?_
          refine x_iconst 68 hK rfl rfl ?_
          refine x_istore 70 hK rfl rfl [(4, .int (I 0)), (3, .int (I 0)), (2, .int (I (luF fd ea 0 ((gi h 171 7) - 1)))), (0, .ref 171), (1, .int (I n))] rfl ?_
          exact loop _ (luF fd ea 0 ((gi h 171 7) - 1)) 0 0 _ _ rfl (⟨⟨by omega, by omega⟩, by omega⟩) (by omega) (fun y => absurd y (by omega)) (fun y => by
            rw [y]
            have z := lv_3 (fd := fd) (ea := ea) (ms := gi h 171 7) (by omega) ((gi h 171 7).toNat - 1)
            rw [show (gi h 171 7).toNat - 1 + 1 = (gi h 171 7).toNat by omega] at z
            rw [z]
            first | (rw [if_pos (by omega)]; done) | (rw [if_neg (by omega)]; exact Prod.ext (by show (99999 : Int) = _; omega) rfl)) (by omega) (by omega) rfl rfl rfl rfl rfl (GD_w1 (hG) (r := 54) rfl (by omega) rfl (by omega) (by omega)) (FRM_w ((FRM.rf : FRM gRL [(0, 54, 0, 0), (0, 54, 1, 1), (1, 55, 0, 39)] h h)) (r := 54) rfl rfl)
    · refine x_iconst 25 hK rfl rfl ?_
      exact x_iret hK rfl ⟨Or.inl ⟨fun z => by have z1 := z.1; have z2 := z.2; omega, rfl, mrow_k (by decide), gi_k (by decide) _⟩, GD_w1 (hG) (r := 54) rfl (by omega) rfl (by omega) (by omega), FRM_w ((FRM.rf : FRM gRL [(0, 54, 0, 0), (0, 54, 1, 1), (1, 55, 0, 39)] h h)) (r := 54) rfl rfl⟩
  · refine x_if_eq 24 17 hK rfl rfl rfl (by omega) (fun _ => ?_) (fun c => by omega)
    refine x_iconst 25 hK rfl rfl ?_
    exact x_iret hK rfl ⟨Or.inl ⟨fun z => by have z1 := z.1; have z2 := z.2; omega, rfl, mrow_k (by decide), gi_k (by decide) _⟩, GD_w1 (hG) (r := 54) rfl (by omega) rfl (by omega) (by omega), FRM_w ((FRM.rf : FRM gRL [(0, 54, 0, 0), (0, 54, 1, 1), (1, 55, 0, 39)] h h)) (r := 54) rfl rfl⟩
set_option maxRecDepth 4000 in
theorem ctX10_rocksInLaneF {SP : CT} (hSP : MONO SP) {sh : List (Nat × Nat)} {h : aH} (hG : GD gE gRL sh h) {b : Int} {w : WS} {ms : Int} (hS : STR ms (kS h 23) w) (hw : WW b w) (hb : b ≤ 950000) (hml : ∀ j : Nat, (j : Int) < gi h 19 0 → 0 ≤ gi h 20 j ∧ gi h 20 j ≤ 999) {l n : Int} (rl : r32 l) (rn : r32 n) : CLd SP 2 mX10_rocksInLane [.ref 0, .int (I l), .int (I n)] h 0 0 (fun rv h' => h' = h ∧ rv = some (.int (I (rkN (gi h 20) (gi h 21) w.1 n l (gi h 19 0).toNat)))) := by
  refine x_met _ rfl (Nat.le_of_ble_eq_true rfl) (fun K hK => ?_)
  have hmono := MONO_CLd hSP 1
  obtain ⟨k0, k1, k2, k3, k4, k5, k6⟩ := STR_to hG hS
  have hb1 := STR_hb hG hS hw (by omega)
  have lb := hw.2.1
  have w0 := hw.1
  have g19 := gri 0 16 hG (a := 19) (r := 13) (k := 0) rfl rfl
  have loop : ∀ (mz : Nat) (c i : Int) (ls : List (Nat × Value)), ((gi h 19 0 - i).toNat = mz) → (0 ≤ i ∧ i ≤ gi h 19 0) → (c = (rkN (gi h 20) (gi h 21) w.1 n l i.toNat)) → lk ls 0 = some (.ref 0) → lk ls 1 = some (.int (I l)) → lk ls 2 = some (.int (I n)) → lk ls 3 = some (.int (I c)) → lk ls 4 = some (.int (I i)) → K 5 ls [] h 0 0 := by
    intro mz
    induction mz using Nat.strongRecOn with
    | ind mz ih =>
    intro c i ls hm i0 c0 l0 l1 l2 l3 l4
    have cb := rkN_b (gi h 20) (gi h 21) w.1 n l i.toNat
    have gm := fun z : i < gi h 19 0 => hml i.toNat (by omega)
    have gl2 := fun z : i < gi h 19 0 => grn 0 8 hG (a := 21) (r := 15) (k := i.toNat) rfl rfl (by omega)
    refine x_iload 7 hK rfl rfl l4 ?_
    refine x_aload_n 8 hK rfl rfl l0 ?_
    refine x_getR 11 hK rfl rfl (sp_0 (h := h) hG) (rf_0_7 (h := h) hG) ?_
    have g601 := gri (0) (16) hG (a := 19) (r := 13) (k := 0) rfl rfl
    refine x_getE 14 hK rfl (Or.inl rfl) rfl (sp_19 (h := h) hG) (e := (gi h 19 0)) (rfl) ?_
    refine x_if_icmp_ge 72 17 hK rfl rfl rfl (by omega) (by omega) (fun c5 => ?_) (fun c5 => ?_)
    · refine x_iload_n 73 hK rfl rfl l3 ?_
      exact x_iret hK rfl ⟨rfl, by rw [c0, show i.toNat = (gi h 19 0).toNat by omega]⟩
    · refine x_aload_n 18 hK rfl rfl l0 ?_
      refine x_getR 21 hK rfl rfl (sp_0 (h := h) hG) (rf_0_7 (h := h) hG) ?_
      refine x_getR 24 hK rfl rfl (sp_19 (h := h) hG) (rf_19_1 (h := h) hG) ?_
      refine x_iload 26 hK rfl rfl l4 ?_
      have g602 := gi_r h 20 i.toNat
      refine x_ialoadE 27 hK rfl rfl (sp_20 (h := h) hG) (by omega) (by omega) (by omega) (e' := (gi h 20 i.toNat)) (rfl) ?_
      refine x_aload_n 28 hK rfl rfl l0 ?_
      refine x_getR 31 hK rfl rfl (sp_0 (h := h) hG) (rf_0_10 (h := h) hG) ?_
      refine x_getE 34 hK rfl (Or.inl rfl) rfl (sp_23 (h := h) hG) (e := (w.1)) (k0) ?_
      refine x_isub 35 hK rfl rfl ?_
      refine x_istore 37 hK rfl rfl _ rfl ?_
      refine x_aload_n 38 hK rfl rfl (lk1_n l0 (by decide) (Or.inl rfl)) ?_
      refine x_getR 41 hK rfl rfl (sp_0 (h := h) hG) (rf_0_7 (h := h) hG) ?_
      refine x_getR 44 hK rfl rfl (sp_19 (h := h) hG) (rf_19_2 (h := h) hG) ?_
      refine x_iload 46 hK rfl rfl (lk1_n l4 (by decide) (Or.inl rfl)) ?_
      have g603 := grn (0) (8) hG (a := 21) (r := 15) (k := i.toNat) rfl rfl (by omega)
      refine x_ialoadE 47 hK rfl rfl (sp_21 (h := h) hG) (by omega) (by omega) (by omega) (e' := (gi h 21 i.toNat)) (rfl) ?_
      refine x_iload_n 48 hK rfl rfl (lk1_n l1 (by decide) (Or.inl rfl)) ?_
      refine x_if_icmp_ne 66 51 hK rfl rfl rfl (by omega) (by omega) (fun c24 => ?_) (fun c24 => ?_)
      · refine x_iinc 69 hK rfl rfl (lk1_n l4 (by decide) (Or.inl rfl)) _ rfl ?_
        refine x_goto 5 hK rfl rfl ?_
        exact ih _ (by omega) c (i + 1) _ rfl (by omega) (by rw [rkN_s i0.1, if_neg (by omega), c0]; exact (Int.add_zero _).symm) (lk1_n (lk1_n l0 (by decide) (Or.inl rfl)) (by decide) (Or.inl rfl)) (lk1_n (lk1_n l1 (by decide) (Or.inl rfl)) (by decide) (Or.inl rfl)) (lk1_n (lk1_n l2 (by decide) (Or.inl rfl)) (by decide) (Or.inl rfl)) (lk1_n (lk1_n l3 (by decide) (Or.inl rfl)) (by decide) (Or.inl rfl)) lk1_s
      · refine x_iload 53 hK rfl rfl lk1_s ?_
        refine x_iconst 54 hK rfl rfl ?_
        refine x_if_icmp_lt 66 57 hK rfl rfl rfl (by omega) (by omega) (fun c30 => ?_) (fun c30 => ?_)
        · refine x_iinc 69 hK rfl rfl (lk1_n l4 (by decide) (Or.inl rfl)) _ rfl ?_
          refine x_goto 5 hK rfl rfl ?_
          exact ih _ (by omega) c (i + 1) _ rfl (by omega) (by rw [rkN_s i0.1, if_neg (by omega), c0]; exact (Int.add_zero _).symm) (lk1_n (lk1_n l0 (by decide) (Or.inl rfl)) (by decide) (Or.inl rfl)) (lk1_n (lk1_n l1 (by decide) (Or.inl rfl)) (by decide) (Or.inl rfl)) (lk1_n (lk1_n l2 (by decide) (Or.inl rfl)) (by decide) (Or.inl rfl)) (lk1_n (lk1_n l3 (by decide) (Or.inl rfl)) (by decide) (Or.inl rfl)) lk1_s
        · refine x_iload 59 hK rfl rfl lk1_s ?_
          refine x_iload_n 60 hK rfl rfl (lk1_n l2 (by decide) (Or.inl rfl)) ?_
          refine x_if_icmp_gt 66 63 hK rfl rfl rfl (by omega) (by omega) (fun c36 => ?_) (fun c36 => ?_)
          · refine x_iinc 69 hK rfl rfl (lk1_n l4 (by decide) (Or.inl rfl)) _ rfl ?_
            refine x_goto 5 hK rfl rfl ?_
            exact ih _ (by omega) c (i + 1) _ rfl (by omega) (by rw [rkN_s i0.1, if_neg (by omega), c0]; exact (Int.add_zero _).symm) (lk1_n (lk1_n l0 (by decide) (Or.inl rfl)) (by decide) (Or.inl rfl)) (lk1_n (lk1_n l1 (by decide) (Or.inl rfl)) (by decide) (Or.inl rfl)) (lk1_n (lk1_n l2 (by decide) (Or.inl rfl)) (by decide) (Or.inl rfl)) (lk1_n (lk1_n l3 (by decide) (Or.inl rfl)) (by decide) (Or.inl rfl)) lk1_s
          · refine x_iinc 66 hK rfl rfl (lk1_n l3 (by decide) (Or.inl rfl)) _ rfl ?_
            refine x_iinc 69 hK rfl rfl (lk1_n (lk1_n l4 (by decide) (Or.inl rfl)) (by decide) (Or.inl rfl)) _ rfl ?_
            refine x_goto 5 hK rfl rfl ?_
            exact ih _ (by omega) (c + 1) (i + 1) _ rfl (by omega) (by rw [rkN_s i0.1, if_pos (by omega), c0]) (lk1_n (lk1_n (lk1_n l0 (by decide) (Or.inl rfl)) (by decide) (Or.inl rfl)) (by decide) (Or.inl rfl)) (lk1_n (lk1_n (lk1_n l1 (by decide) (Or.inl rfl)) (by decide) (Or.inl rfl)) (by decide) (Or.inl rfl)) (lk1_n (lk1_n (lk1_n l2 (by decide) (Or.inl rfl)) (by decide) (Or.inl rfl)) (by decide) (Or.inl rfl)) (lk1_n lk1_s (by decide) (Or.inl rfl)) lk1_s
  refine x_iconst 1 hK rfl rfl ?_
  refine x_istore_n 2 hK rfl rfl [(3, .int (I 0)), (0, .ref 0), (1, .int (I l)), (2, .int (I n))] rfl ?_
  refine x_iconst 3 hK rfl rfl ?_
  refine x_istore 5 hK rfl rfl [(4, .int (I 0)), (3, .int (I 0)), (0, .ref 0), (1, .int (I l)), (2, .int (I n))] rfl ?_
  exact loop _ 0 0 _ rfl (by omega) (rfl) rfl rfl rfl rfl rfl
set_option maxRecDepth 4000 in
theorem ctX10_apartF {SP : CT} (hSP : MONO SP) {sh : List (Nat × Nat)} {h : aH} (hG : GD gE gRL sh h) {l : Int} (hl : 0 ≤ l ∧ l ≤ 8) : CLd SP 1 mX10_apart [.ref 0, .int (I l)] h 0 0 (fun rv h' => h' = h ∧ rv = some (.int (I (apt (gi h 23 1) l)))) := by
  refine x_met _ rfl (Nat.le_of_ble_eq_true rfl) (fun K hK => ?_)
  have hmono := MONO_CLd hSP 0
  have g1 := gri 0 8 hG (a := 23) (r := 17) (k := 1) rfl rfl
  refine x_iload_n 1 hK rfl rfl rfl ?_
  refine x_aload_n 2 hK rfl rfl rfl ?_
  refine x_getR 5 hK rfl rfl (sp_0 (h := h) hG) (rf_0_10 (h := h) hG) ?_
  have g604 := gri (0) (8) hG (a := 23) (r := 17) (k := 1) rfl rfl
  refine x_getE 8 hK rfl (Or.inl rfl) rfl (sp_23 (h := h) hG) (e := (gi h 23 1)) (rfl) ?_
  refine x_isub 9 hK rfl rfl ?_
  refine x_abs 12 hK rfl rfl (Nat.le_of_ble_eq_true rfl) (by omega) ?_
  exact x_iret hK rfl ⟨rfl, rfl⟩
set_option maxRecDepth 4000 in
theorem ctX10_safestF {SP : CT} (hSP : MONO SP) {sh : List (Nat × Nat)} {h : aH} (hG : GD gE gRL sh h) {b : Int} {w : WS} {ms : Int} (hS : STR ms (kS h 23) w) (hw : WW b w) (hb : b ≤ 950000) (hml : ∀ j : Nat, (j : Int) < gi h 19 0 → 0 ≤ gi h 20 j ∧ gi h 20 j ≤ 999) {n : Int} (rn : r32 n) : CLd SP 4 mX10_safest [.ref 0, .int (I n)] h 0 0 (fun rv h' => ((¬ (1 ≤ n ∧ n ≤ 999) ∧ rv = some (.int (I (-1))) ∧ h' = h) ∨ ((1 ≤ n ∧ n ≤ 999) ∧ ∃ e : Int, rv = some (.int (I e)) ∧ (0 ≤ e ∧ e ≤ 8) ∧ BST (fun l => (rkN (gi h 20) (gi h 21) w.1 n l (gi h 19 0).toNat)) w.2.1 (fun l => 0 ≤ l ∧ l ≤ 8) e ∧ gi h' 3 1 = 2 ∧ crow h' = [(rkN (gi h 20) (gi h 21) w.1 n e (gi h 19 0).toNat), (rkN (gi h 20) (gi h 21) w.1 n (w.2.1) (gi h 19 0).toNat)])) ∧ GD gE gRL sh h' ∧ FRM gRL [(0, 3, 1, 1), (1, 4, 0, 29)] h h') := by
  refine x_met _ rfl (Nat.le_of_ble_eq_true rfl) (fun K hK => ?_)
  have hmono := MONO_CLd hSP 3
  obtain ⟨k0, k1, k2, k3, k4, k5, k6⟩ := STR_to hG hS
  have hb1 := STR_hb hG hS hw (by omega)
  have lb := hw.2.1
  have w0 := hw.1
  have g19 := gri 0 16 hG (a := 19) (r := 13) (k := 0) rfl rfl
  obtain ⟨c, hc⟩ : ∃ c : Int → Int, c = (fun l => (rkN (gi h 20) (gi h 21) w.1 n l (gi h 19 0).toNat)) := ⟨_, rfl⟩
  have hcl : ∀ l, (rkN (gi h 20) (gi h 21) w.1 n l (gi h 19 0).toNat) = c l := fun l => by rw [hc]
  rw [← hc] at hK
  simp only [hcl] at hK
  have cb : ∀ l, 0 ≤ c l ∧ c l ≤ 16 := fun l => by have z := rkN_b (gi h 20) (gi h 21) w.1 n l (gi h 19 0).toNat; rw [hcl] at z; omega
  have loop : ∀ (mz : Nat) (b_ f u i : Int) (ls : List (Nat × Value)), ((9 - i).toNat = mz) → (1 ≤ n ∧ n ≤ 999) → (0 ≤ i ∧ i ≤ 9) → (0 ≤ b_ ∧ b_ ≤ 8) → (f = c b_) → (u = c w.2.1) → (b_ = w.2.1 ∨ (0 ≤ b_ ∧ b_ < i)) → (BST c w.2.1 (fun l => l = w.2.1 ∨ (0 ≤ l ∧ l < i)) b_) → lk ls 0 = some (.ref 0) → lk ls 1 = some (.int (I n)) → lk ls 2 = some (.int (I b_)) → lk ls 3 = some (.int (I f)) → lk ls 4 = some (.int (I u)) → lk ls 5 = some (.int (I i)) → K 41 ls [] h 0 0 := by
    intro mz
    induction mz using Nat.strongRecOn with
    | ind mz ih =>
    intro b_ f u i ls hm n0 i0 b0 f0 u0 mb bs l0 l1 l2 l3 l4 l5
    have ci := cb i
    have cbb := cb b_
    have cbl := cb w.2.1
    have ab : ∀ l, 0 ≤ l → l ≤ 8 → 0 ≤ apt w.2.1 l ∧ apt w.2.1 l ≤ 8 := fun l h1 h2 => by unfold apt; split <;> omega
    refine x_iload 43 hK rfl rfl l5 ?_
    refine x_bipush 45 hK rfl rfl rfl ?_
    refine x_if_icmp_gt 95 48 hK rfl rfl rfl (by omega) (by omega) (fun c3 => ?_) (fun c3 => ?_)
    · refine x_aload_n 96 hK rfl rfl l0 ?_
      refine x_getR 99 hK rfl rfl (sp_0 (h := h) hG) (rf_0_1 (h := h) hG) ?_
      refine x_iload_n 100 hK rfl rfl l3 ?_
      refine x_i2l 101 hK rfl rfl (by omega) ?_
      refine x_iload 103 hK rfl rfl l4 ?_
      refine x_i2l 104 hK rfl rfl (by omega) ?_
      refine x_callV 107 hK hmono rfl rfl [.ref 3, .long (J f), .long (J u)] [] rfl rfl (Nat.le_of_ble_eq_true rfl) (Nat.le_of_ble_eq_true rfl) rfl (sp_3 (h := h) hG) (CLd_le (Nat.le_of_ble_eq_true rfl) (ctX3_tellTwo hSP hG (by omega) (by omega))) ?_
      rintro v605 h605 ⟨rfl, hG605, hF605, t605, s605⟩
      refine x_iload_n 108 hK rfl rfl l2 ?_
      have bf : BST c w.2.1 (fun l => 0 ≤ l ∧ l ≤ 8) b_ := fun l hl => bs l (Or.inr ⟨hl.1, by omega⟩)
      exact x_iret hK rfl ⟨Or.inr ⟨n0, b_, rfl, b0, bf, t605, by rw [← f0, ← u0]; exact s605⟩, hG605, hF605⟩
    · refine x_aload_n 49 hK rfl rfl l0 ?_
      refine x_iload 51 hK rfl rfl l5 ?_
      refine x_iload_n 52 hK rfl rfl l1 ?_
      have cz606 := cb i
      refine x_callV 55 hK hmono rfl rfl [.ref 0, .int (I i), .int (I n)] [] rfl rfl (Nat.le_of_ble_eq_true rfl) (Nat.le_of_ble_eq_true rfl) rfl (sp_0 (h := h) hG) (CLd_le (Nat.le_of_ble_eq_true rfl) (ctX10_rocksInLaneF hSP hG hS hw hb hml (l := i) (n := n) (by omega) rn)) ?_
      rintro v9 h9 ⟨e9, rfl⟩
      rw [e9, hcl i]
      clear e9
      refine x_istore 57 hK rfl rfl _ rfl ?_
      refine x_iload 59 hK rfl rfl lk1_s ?_
      refine x_iload_n 60 hK rfl rfl (lk1_n l3 (by decide) (Or.inl rfl)) ?_
      refine x_if_icmp_lt 83 63 hK rfl rfl rfl (by omega) (by omega) (fun c20 => ?_) (fun c20 => ?_)
      · refine x_iload 85 hK rfl rfl lk1_s ?_
        refine x_istore_n 86 hK rfl rfl _ rfl ?_
        refine x_iload 88 hK rfl rfl (lk1_n (lk1_n l5 (by decide) (Or.inl rfl)) (by decide) (Or.inl rfl)) ?_
        refine x_istore_n 89 hK rfl rfl _ rfl ?_
        refine x_iinc 92 hK rfl rfl (lk1_n (lk1_n (lk1_n l5 (by decide) (Or.inl rfl)) (by decide) (Or.inl rfl)) (by decide) (Or.inl rfl)) _ rfl ?_
        refine x_goto 41 hK rfl rfl ?_
        have ax0 : b_ = w.2.1 → apt w.2.1 b_ = 0 := fun q => by rw [q]; unfold apt; split <;> omega
        have ai0 : apt w.2.1 i = 0 → i = w.2.1 := fun q => by unfold apt at q; split at q <;> omega
        have bn : BST c w.2.1 (fun l => l = w.2.1 ∨ (0 ≤ l ∧ l < i + 1)) i := by
          intro l hl
          have hl : l = w.2.1 ∨ (0 ≤ l ∧ l < i + 1) := hl
          by_cases y : l = i
          · rw [y]
            exact Or.inr ⟨rfl, Or.inr ⟨rfl, Int.le_refl _⟩⟩
          · have hl2 : l = w.2.1 ∨ (0 ≤ l ∧ l < i) := Or.elim hl Or.inl (fun q => Or.inr ⟨q.1, by omega⟩)
            have z := bs l hl2
            omega
        exact ih _ (by omega) i (c i) u (i + 1) _ rfl (n0) (by omega) (by omega) (rfl) (u0) (by omega) (bn) (lk1_n (lk1_n (lk1_n (lk1_n l0 (by decide) (Or.inl rfl)) (by decide) (Or.inl rfl)) (by decide) (Or.inl rfl)) (by decide) (Or.inl rfl)) (lk1_n (lk1_n (lk1_n (lk1_n l1 (by decide) (Or.inl rfl)) (by decide) (Or.inl rfl)) (by decide) (Or.inl rfl)) (by decide) (Or.inl rfl)) (lk1_n lk1_s (by decide) (Or.inl rfl)) (lk1_n (lk1_n lk1_s (by decide) (Or.inl rfl)) (by decide) (Or.inl rfl)) (lk1_n (lk1_n (lk1_n (lk1_n l4 (by decide) (Or.inl rfl)) (by decide) (Or.inl rfl)) (by decide) (Or.inl rfl)) (by decide) (Or.inl rfl)) lk1_s
      · refine x_iload 65 hK rfl rfl lk1_s ?_
        refine x_iload_n 66 hK rfl rfl (lk1_n l3 (by decide) (Or.inl rfl)) ?_
        refine x_if_icmp_ne 89 69 hK rfl rfl rfl (by omega) (by omega) (fun c30 => ?_) (fun c30 => ?_)
        · refine x_iinc 92 hK rfl rfl (lk1_n l5 (by decide) (Or.inl rfl)) _ rfl ?_
          refine x_goto 41 hK rfl rfl ?_
          have ax0 : b_ = w.2.1 → apt w.2.1 b_ = 0 := fun q => by rw [q]; unfold apt; split <;> omega
          have ai0 : apt w.2.1 i = 0 → i = w.2.1 := fun q => by unfold apt at q; split at q <;> omega
          have bn : BST c w.2.1 (fun l => l = w.2.1 ∨ (0 ≤ l ∧ l < i + 1)) b_ := by
            intro l hl
            have hl : l = w.2.1 ∨ (0 ≤ l ∧ l < i + 1) := hl
            by_cases y : l = i
            · rw [y]
              rcases mb with q | q
              · have q1 := ax0 q
                have q2 := ab i (by omega) (by omega)
                by_cases q3 : apt w.2.1 i = 0
                · have q4 := ai0 q3
                  omega
                · omega
              · omega
            · have hl2 : l = w.2.1 ∨ (0 ≤ l ∧ l < i) := Or.elim hl Or.inl (fun q => Or.inr ⟨q.1, by omega⟩)
              have z := bs l hl2
              omega
          exact ih _ (by omega) b_ f u (i + 1) _ rfl (n0) (by omega) (by omega) (f0) (u0) (by omega) (bn) (lk1_n (lk1_n l0 (by decide) (Or.inl rfl)) (by decide) (Or.inl rfl)) (lk1_n (lk1_n l1 (by decide) (Or.inl rfl)) (by decide) (Or.inl rfl)) (lk1_n (lk1_n l2 (by decide) (Or.inl rfl)) (by decide) (Or.inl rfl)) (lk1_n (lk1_n l3 (by decide) (Or.inl rfl)) (by decide) (Or.inl rfl)) (lk1_n (lk1_n l4 (by decide) (Or.inl rfl)) (by decide) (Or.inl rfl)) lk1_s
        · refine x_aload_n 70 hK rfl rfl (lk1_n l0 (by decide) (Or.inl rfl)) ?_
          refine x_iload 72 hK rfl rfl (lk1_n l5 (by decide) (Or.inl rfl)) ?_
          have az607 := ab i (by omega) (by omega)
          refine x_callV 75 hK hmono rfl rfl [.ref 0, .int (I i)] [] rfl rfl (Nat.le_of_ble_eq_true rfl) (Nat.le_of_ble_eq_true rfl) rfl (sp_0 (h := h) hG) (CLd_le (Nat.le_of_ble_eq_true rfl) (ctX10_apartF hSP hG (l := i) (by omega))) ?_
          rintro v9 h9 ⟨e9, rfl⟩
          rw [e9, k1]
          clear e9
          refine x_aload_n 76 hK rfl rfl (lk1_n l0 (by decide) (Or.inl rfl)) ?_
          refine x_iload_n 77 hK rfl rfl (lk1_n l2 (by decide) (Or.inl rfl)) ?_
          have az608 := ab b_ (by omega) (by omega)
          refine x_callV 80 hK hmono rfl rfl [.ref 0, .int (I b_)] [.int (I (apt w.2.1 i))] rfl rfl (Nat.le_of_ble_eq_true rfl) (Nat.le_of_ble_eq_true rfl) rfl (sp_0 (h := h) hG) (CLd_le (Nat.le_of_ble_eq_true rfl) (ctX10_apartF hSP hG (l := b_) (by omega))) ?_
          rintro v9 h9 ⟨e9, rfl⟩
          rw [e9, k1]
          clear e9
          refine x_if_icmp_ge 89 83 hK rfl rfl rfl (by omega) (by omega) (fun c40 => ?_) (fun c40 => ?_)
          · refine x_iinc 92 hK rfl rfl (lk1_n l5 (by decide) (Or.inl rfl)) _ rfl ?_
            refine x_goto 41 hK rfl rfl ?_
            have ax0 : b_ = w.2.1 → apt w.2.1 b_ = 0 := fun q => by rw [q]; unfold apt; split <;> omega
            have ai0 : apt w.2.1 i = 0 → i = w.2.1 := fun q => by unfold apt at q; split at q <;> omega
            have bn : BST c w.2.1 (fun l => l = w.2.1 ∨ (0 ≤ l ∧ l < i + 1)) b_ := by
              intro l hl
              have hl : l = w.2.1 ∨ (0 ≤ l ∧ l < i + 1) := hl
              by_cases y : l = i
              · rw [y]
                rcases mb with q | q
                · have q1 := ax0 q
                  have q2 := ab i (by omega) (by omega)
                  by_cases q3 : apt w.2.1 i = 0
                  · have q4 := ai0 q3
                    omega
                  · omega
                · omega
              · have hl2 : l = w.2.1 ∨ (0 ≤ l ∧ l < i) := Or.elim hl Or.inl (fun q => Or.inr ⟨q.1, by omega⟩)
                have z := bs l hl2
                omega
            exact ih _ (by omega) b_ f u (i + 1) _ rfl (n0) (by omega) (by omega) (f0) (u0) (by omega) (bn) (lk1_n (lk1_n l0 (by decide) (Or.inl rfl)) (by decide) (Or.inl rfl)) (lk1_n (lk1_n l1 (by decide) (Or.inl rfl)) (by decide) (Or.inl rfl)) (lk1_n (lk1_n l2 (by decide) (Or.inl rfl)) (by decide) (Or.inl rfl)) (lk1_n (lk1_n l3 (by decide) (Or.inl rfl)) (by decide) (Or.inl rfl)) (lk1_n (lk1_n l4 (by decide) (Or.inl rfl)) (by decide) (Or.inl rfl)) lk1_s
          · refine x_iload 85 hK rfl rfl lk1_s ?_
            refine x_istore_n 86 hK rfl rfl _ rfl ?_
            refine x_iload 88 hK rfl rfl (lk1_n (lk1_n l5 (by decide) (Or.inl rfl)) (by decide) (Or.inl rfl)) ?_
            refine x_istore_n 89 hK rfl rfl _ rfl ?_
            refine x_iinc 92 hK rfl rfl (lk1_n (lk1_n (lk1_n l5 (by decide) (Or.inl rfl)) (by decide) (Or.inl rfl)) (by decide) (Or.inl rfl)) _ rfl ?_
            refine x_goto 41 hK rfl rfl ?_
            have ax0 : b_ = w.2.1 → apt w.2.1 b_ = 0 := fun q => by rw [q]; unfold apt; split <;> omega
            have ai0 : apt w.2.1 i = 0 → i = w.2.1 := fun q => by unfold apt at q; split at q <;> omega
            have bn : BST c w.2.1 (fun l => l = w.2.1 ∨ (0 ≤ l ∧ l < i + 1)) i := by
              intro l hl
              have hl : l = w.2.1 ∨ (0 ≤ l ∧ l < i + 1) := hl
              by_cases y : l = i
              · rw [y]
                exact Or.inr ⟨rfl, Or.inr ⟨rfl, Int.le_refl _⟩⟩
              · have hl2 : l = w.2.1 ∨ (0 ≤ l ∧ l < i) := Or.elim hl Or.inl (fun q => Or.inr ⟨q.1, by omega⟩)
                have z := bs l hl2
                omega
            exact ih _ (by omega) i (c i) u (i + 1) _ rfl (n0) (by omega) (by omega) (rfl) (u0) (by omega) (bn) (lk1_n (lk1_n (lk1_n (lk1_n l0 (by decide) (Or.inl rfl)) (by decide) (Or.inl rfl)) (by decide) (Or.inl rfl)) (by decide) (Or.inl rfl)) (lk1_n (lk1_n (lk1_n (lk1_n l1 (by decide) (Or.inl rfl)) (by decide) (Or.inl rfl)) (by decide) (Or.inl rfl)) (by decide) (Or.inl rfl)) (lk1_n lk1_s (by decide) (Or.inl rfl)) (lk1_n (lk1_n lk1_s (by decide) (Or.inl rfl)) (by decide) (Or.inl rfl)) (lk1_n (lk1_n (lk1_n (lk1_n l4 (by decide) (Or.inl rfl)) (by decide) (Or.inl rfl)) (by decide) (Or.inl rfl)) (by decide) (Or.inl rfl)) lk1_s
  refine x_iload_n 1 hK rfl rfl rfl ?_
  refine x_iconst 2 hK rfl rfl ?_
  refine x_if_icmp_lt 12 5 hK rfl rfl rfl (by omega) (by omega) (fun c3 => ?_) (fun c3 => ?_)
  · refine x_iconst 13 hK rfl rfl ?_
    exact x_iret hK rfl ⟨Or.inl ⟨by omega, rfl, rfl⟩, hG, FRM.rf⟩
  · refine x_iload_n 6 hK rfl rfl rfl ?_
    refine x_sipush 9 hK rfl rfl rfl ?_
    refine x_if_icmp_le 14 12 hK rfl rfl rfl (by omega) (by omega) (fun c8 => ?_) (fun c8 => ?_)
    · refine x_aload_n 15 hK rfl rfl rfl ?_
      refine x_getR 18 hK rfl rfl (sp_0 (h := h) hG) (rf_0_10 (h := h) hG) ?_
      refine x_getE 21 hK rfl (Or.inl rfl) rfl (sp_23 (h := h) hG) (e := (w.2.1)) (k1) ?_
      refine x_istore_n 22 hK rfl rfl [(2, .int (I (w.2.1))), (0, .ref 0), (1, .int (I n))] rfl ?_
      refine x_aload_n 23 hK rfl rfl rfl ?_
      refine x_aload_n 24 hK rfl rfl rfl ?_
      refine x_getR 27 hK rfl rfl (sp_0 (h := h) hG) (rf_0_10 (h := h) hG) ?_
      refine x_getE 30 hK rfl (Or.inl rfl) rfl (sp_23 (h := h) hG) (e := (w.2.1)) (k1) ?_
      refine x_iload_n 31 hK rfl rfl rfl ?_
      have cz609 := cb (w.2.1)
      refine x_callV 34 hK hmono rfl rfl [.ref 0, .int (I (w.2.1)), .int (I n)] [] rfl rfl (Nat.le_of_ble_eq_true rfl) (Nat.le_of_ble_eq_true rfl) rfl (sp_0 (h := h) hG) (CLd_le (Nat.le_of_ble_eq_true rfl) (ctX10_rocksInLaneF hSP hG hS hw hb hml (l := (w.2.1)) (n := n) (by omega) rn)) ?_
      rintro v9 h9 ⟨e9, rfl⟩
      rw [e9, hcl (w.2.1)]
      clear e9
      refine x_istore_n 35 hK rfl rfl [(3, .int (I (c (w.2.1)))), (2, .int (I (w.2.1))), (0, .ref 0), (1, .int (I n))] rfl ?_
      refine x_iload_n 36 hK rfl rfl rfl ?_
      refine x_istore 38 hK rfl rfl [(4, .int (I (c (w.2.1)))), (3, .int (I (c (w.2.1)))), (2, .int (I (w.2.1))), (0, .ref 0), (1, .int (I n))] rfl ?_
      refine x_iconst 39 hK rfl rfl ?_
      refine x_istore 41 hK rfl rfl [(5, .int (I 0)), (4, .int (I (c (w.2.1)))), (3, .int (I (c (w.2.1)))), (2, .int (I (w.2.1))), (0, .ref 0), (1, .int (I n))] rfl ?_
      exact loop _ (w.2.1) (c (w.2.1)) (c (w.2.1)) 0 _ rfl (⟨by omega, by omega⟩) (by omega) (by omega) (rfl) (rfl) (by omega) (fun l hl => by
        rcases hl with q | q
        · rw [q]; exact Or.inr ⟨rfl, Or.inr ⟨rfl, Int.le_refl _⟩⟩
        · omega) rfl rfl rfl rfl rfl rfl
    · refine x_iconst 13 hK rfl rfl ?_
      exact x_iret hK rfl ⟨Or.inl ⟨by omega, rfl, rfl⟩, hG, FRM.rf⟩
set_option maxRecDepth 4000 in
theorem ctX11_rocksInF {SP : CT} (hSP : MONO SP) {sh : List (Nat × Nat)} {h : aH} (hG : GD gE gRL sh h) (h0 : 0 ≤ gi h 178 0 ∧ gi h 178 0 ≤ 1000000) {l n : Int} (rl : r32 l) (rn : r32 n) : CLd SP 2 mX11_rocksIn [.ref 171, .int (I l), .int (I n)] h 0 0 (fun rv h' => h' = h ∧ rv = some (.int (I (rkN (gi h 175) (gi h 176) (gi h 178 0) n l (gi h 171 6).toNat)))) := by
  refine x_met _ rfl (Nat.le_of_ble_eq_true rfl) (fun K hK => ?_)
  have hmono := MONO_CLd hSP 1
  have g6 := gri 0 16 hG (a := 171) (r := 54) (k := 6) rfl rfl
  have loop : ∀ (mz : Nat) (c i : Int) (ls : List (Nat × Value)), ((gi h 171 6 - i).toNat = mz) → (0 ≤ i ∧ i ≤ gi h 171 6) → (c = (rkN (gi h 175) (gi h 176) (gi h 178 0) n l i.toNat)) → lk ls 0 = some (.ref 171) → lk ls 1 = some (.int (I l)) → lk ls 2 = some (.int (I n)) → lk ls 3 = some (.int (I c)) → lk ls 4 = some (.int (I i)) → K 5 ls [] h 0 0 := by
    intro mz
    induction mz using Nat.strongRecOn with
    | ind mz ih =>
    intro c i ls hm i0 c0 l0 l1 l2 l3 l4
    have cb := rkN_b (gi h 175) (gi h 176) (gi h 178 0) n l i.toNat
    refine x_iload 7 hK rfl rfl l4 ?_
    refine x_aload_n 8 hK rfl rfl l0 ?_
    have g610 := gri (0) (16) hG (a := 171) (r := 54) (k := 6) rfl rfl
    refine x_getE 11 hK rfl (Or.inl rfl) rfl (sp_171 (h := h) hG) (e := (gi h 171 6)) (rfl) ?_
    refine x_if_icmp_ge 75 14 hK rfl rfl rfl (by omega) (by omega) (fun c4 => ?_) (fun c4 => ?_)
    · refine x_iload_n 76 hK rfl rfl l3 ?_
      exact x_iret hK rfl ⟨rfl, by rw [c0, show i.toNat = (gi h 171 6).toNat by omega]⟩
    · refine x_iload_n 15 hK rfl rfl l3 ?_
      refine x_aload_n 16 hK rfl rfl l0 ?_
      refine x_getR 19 hK rfl rfl (sp_171 (h := h) hG) (rf_171_12 (h := h) hG) ?_
      refine x_iload 21 hK rfl rfl l4 ?_
      have g611 := gi_r h 176 i.toNat
      refine x_ialoadE 22 hK rfl rfl (sp_176 (h := h) hG) (by omega) (by omega) (by omega) (e' := (gi h 176 i.toNat)) (rfl) ?_
      refine x_iload_n 23 hK rfl rfl l1 ?_
      refine x_if_icmp_ne 63 26 hK rfl rfl rfl (by omega) (by omega) (fun c13 => ?_) (fun c13 => ?_)
      · refine x_iconst 64 hK rfl rfl ?_
        refine x_callS 67 hK hmono rfl (Or.inl rfl) rfl [.int (I 0)] [.int (I c)] rfl rfl (Nat.le_of_ble_eq_true rfl) (Nat.le_of_ble_eq_true rfl) (CLd_le (Nat.le_of_ble_eq_true rfl) (ctX11_flag (by omega))) ?_
        rintro v9 h9 ⟨e9, rfl⟩
        rw [e9]
        clear e9
        refine x_iadd 68 hK rfl rfl ?_
        refine x_istore_n 69 hK rfl rfl _ rfl ?_
        refine x_iinc 72 hK rfl rfl (lk1_n l4 (by decide) (Or.inl rfl)) _ rfl ?_
        refine x_goto 5 hK rfl rfl ?_
        exact ih _ (by omega) (c + 0) (i + 1) _ rfl (by omega) (by rw [rkN_s i0.1, if_neg (by omega), c0]) (lk1_n (lk1_n l0 (by decide) (Or.inl rfl)) (by decide) (Or.inl rfl)) (lk1_n (lk1_n l1 (by decide) (Or.inl rfl)) (by decide) (Or.inl rfl)) (lk1_n (lk1_n l2 (by decide) (Or.inl rfl)) (by decide) (Or.inl rfl)) (lk1_n lk1_s (by decide) (Or.inl rfl)) lk1_s
      · refine x_aload_n 27 hK rfl rfl l0 ?_
        refine x_getR 30 hK rfl rfl (sp_171 (h := h) hG) (rf_171_11 (h := h) hG) ?_
        refine x_iload 32 hK rfl rfl l4 ?_
        have g613 := grn (0) (999) hG (a := 175) (r := 58) (k := i.toNat) rfl rfl (by omega)
        refine x_ialoadE 33 hK rfl rfl (sp_175 (h := h) hG) (by omega) (by omega) (by omega) (e' := (gi h 175 i.toNat)) (rfl) ?_
        refine x_i2l 34 hK rfl rfl (by omega) ?_
        refine x_aload_n 35 hK rfl rfl l0 ?_
        refine x_getR 38 hK rfl rfl (sp_171 (h := h) hG) (rf_171_14 (h := h) hG) ?_
        refine x_iconst 39 hK rfl rfl ?_
        have g614 := gi_r h 178 0
        refine x_ialoadE 40 hK rfl rfl (sp_178 (h := h) hG) (by omega) (by omega) (by omega) (e' := (gi h 178 0)) (rfl) ?_
        refine x_iconst 41 hK rfl rfl ?_
        refine x_iadd 42 hK rfl rfl ?_
        refine x_i2l 43 hK rfl rfl (by omega) ?_
        refine x_aload_n 44 hK rfl rfl l0 ?_
        refine x_getR 47 hK rfl rfl (sp_171 (h := h) hG) (rf_171_14 (h := h) hG) ?_
        refine x_iconst 48 hK rfl rfl ?_
        refine x_ialoadE 49 hK rfl rfl (sp_178 (h := h) hG) (by omega) (by omega) (by omega) (e' := (gi h 178 0)) (rfl) ?_
        refine x_i2l 50 hK rfl rfl (by omega) ?_
        refine x_iload_n 51 hK rfl rfl l2 ?_
        refine x_i2l 52 hK rfl rfl (by omega) ?_
        refine x_ladd 53 hK rfl rfl ?_
        refine x_callS 56 hK hmono rfl (Or.inl rfl) rfl [.long (J (gi h 175 i.toNat)), .long (J ((gi h 178 0) + 1)), .long (J ((gi h 178 0) + n))] [.int (I c)] rfl rfl (Nat.le_of_ble_eq_true rfl) (Nat.le_of_ble_eq_true rfl) (CLd_le (Nat.le_of_ble_eq_true rfl) (ctX11_in (by omega) (by omega) (by omega))) ?_
        rintro v9 h9 ⟨e9, ⟨rfl, i1615, i2615⟩ | ⟨rfl, i1615⟩⟩ <;> rw [e9] <;> clear e9
        · refine x_if_eq 63 59 hK rfl rfl rfl (by omega) (fun c => by omega) (fun _ => ?_)
          refine x_iconst 60 hK rfl rfl ?_
          refine x_goto 64 hK rfl rfl ?_
          refine x_callS 67 hK hmono rfl (Or.inl rfl) rfl [.int (I 1)] [.int (I c)] rfl rfl (Nat.le_of_ble_eq_true rfl) (Nat.le_of_ble_eq_true rfl) (CLd_le (Nat.le_of_ble_eq_true rfl) (ctX11_flag (by omega))) ?_
          rintro v9 h9 ⟨e9, rfl⟩
          rw [e9]
          clear e9
          refine x_iadd 68 hK rfl rfl ?_
          refine x_istore_n 69 hK rfl rfl _ rfl ?_
          refine x_iinc 72 hK rfl rfl (lk1_n l4 (by decide) (Or.inl rfl)) _ rfl ?_
          refine x_goto 5 hK rfl rfl ?_
          exact ih _ (by omega) (c + 1) (i + 1) _ rfl (by omega) (by rw [rkN_s i0.1, if_pos (by omega), c0]) (lk1_n (lk1_n l0 (by decide) (Or.inl rfl)) (by decide) (Or.inl rfl)) (lk1_n (lk1_n l1 (by decide) (Or.inl rfl)) (by decide) (Or.inl rfl)) (lk1_n (lk1_n l2 (by decide) (Or.inl rfl)) (by decide) (Or.inl rfl)) (lk1_n lk1_s (by decide) (Or.inl rfl)) lk1_s
        · refine x_if_eq 63 59 hK rfl rfl rfl (by omega) (fun _ => ?_) (fun c => by omega)
          refine x_iconst 64 hK rfl rfl ?_
          refine x_callS 67 hK hmono rfl (Or.inl rfl) rfl [.int (I 0)] [.int (I c)] rfl rfl (Nat.le_of_ble_eq_true rfl) (Nat.le_of_ble_eq_true rfl) (CLd_le (Nat.le_of_ble_eq_true rfl) (ctX11_flag (by omega))) ?_
          rintro v9 h9 ⟨e9, rfl⟩
          rw [e9]
          clear e9
          refine x_iadd 68 hK rfl rfl ?_
          refine x_istore_n 69 hK rfl rfl _ rfl ?_
          refine x_iinc 72 hK rfl rfl (lk1_n l4 (by decide) (Or.inl rfl)) _ rfl ?_
          refine x_goto 5 hK rfl rfl ?_
          exact ih _ (by omega) (c + 0) (i + 1) _ rfl (by omega) (by rw [rkN_s i0.1, if_neg (by omega), c0]) (lk1_n (lk1_n l0 (by decide) (Or.inl rfl)) (by decide) (Or.inl rfl)) (lk1_n (lk1_n l1 (by decide) (Or.inl rfl)) (by decide) (Or.inl rfl)) (lk1_n (lk1_n l2 (by decide) (Or.inl rfl)) (by decide) (Or.inl rfl)) (lk1_n lk1_s (by decide) (Or.inl rfl)) lk1_s
  refine x_iconst 1 hK rfl rfl ?_
  refine x_istore_n 2 hK rfl rfl [(3, .int (I 0)), (0, .ref 171), (1, .int (I l)), (2, .int (I n))] rfl ?_
  refine x_iconst 3 hK rfl rfl ?_
  refine x_istore 5 hK rfl rfl [(4, .int (I 0)), (3, .int (I 0)), (0, .ref 171), (1, .int (I l)), (2, .int (I n))] rfl ?_
  exact loop _ 0 0 _ rfl (by omega) (rfl) rfl rfl rfl rfl rfl
set_option maxRecDepth 4000 in
theorem ctX11_safestF {SP : CT} (hSP : MONO SP) {sh : List (Nat × Nat)} {h : aH} (hG : GD gE gRL sh h) (h0 : 0 ≤ gi h 178 0 ∧ gi h 178 0 ≤ 1000000) {n : Int} (rn : r32 n) : CLd SP 4 mX11_safest [.ref 171, .int (I n)] h 0 0 (fun rv h' => ((¬ (1 ≤ n ∧ n ≤ 999) ∧ rv = some (.int (I (-1))) ∧ mrow h' = mrow h ∧ gi h' 171 1 = gi h 171 1) ∨ ((1 ≤ n ∧ n ≤ 999) ∧ ∃ e : Int, rv = some (.int (I e)) ∧ (0 ≤ e ∧ e ≤ 8) ∧ BST (fun l => (rkN (gi h 175) (gi h 176) (gi h 178 0) n l (gi h 171 6).toNat)) (gi h 178 1) (fun l => 0 ≤ l ∧ l ≤ 8) e ∧ mrow h' = [(rkN (gi h 175) (gi h 176) (gi h 178 0) n e (gi h 171 6).toNat), (rkN (gi h 175) (gi h 176) (gi h 178 0) n (gi h 178 1) (gi h 171 6).toNat)])) ∧ GD gE gRL sh h' ∧ FRM gRL [(0, 54, 0, 0), (0, 54, 1, 1), (1, 55, 0, 39)] h h') := by
  refine x_met _ rfl (Nat.le_of_ble_eq_true rfl) (fun K hK => ?_)
  have hmono := MONO_CLd hSP 3
  have g6 := gri 0 16 hG (a := 171) (r := 54) (k := 6) rfl rfl
  have gl := gri 0 8 hG (a := 178) (r := 61) (k := 1) rfl rfl
  obtain ⟨c, hc⟩ : ∃ c : Int → Int, c = (fun l => (rkN (gi h 175) (gi h 176) (gi h 178 0) n l (gi h 171 6).toNat)) := ⟨_, rfl⟩
  have hcl : ∀ l, (rkN (gi h 175) (gi h 176) (gi h 178 0) n l (gi h 171 6).toNat) = c l := fun l => by rw [hc]
  rw [← hc] at hK
  simp only [hcl] at hK
  have cb : ∀ l, 0 ≤ c l ∧ c l ≤ 16 := fun l => by have z := rkN_b (gi h 175) (gi h 176) (gi h 178 0) n l (gi h 171 6).toNat; rw [hcl] at z; omega
  have loop : ∀ (mz : Nat) (b_ i : Int) (h4 : aH) (ls : List (Nat × Value)), ((9 - i).toNat = mz) → (1 ≤ n ∧ n ≤ 999) → (1 ≤ i ∧ i ≤ 9) → (0 ≤ b_ ∧ b_ < i) → (BST c (gi h 178 1) (fun l => 0 ≤ l ∧ l < i) b_) → (mrow h4 = mrow h) → (gi h4 171 1 = gi h 171 1) → lk ls 0 = some (.ref 171) → lk ls 1 = some (.int (I n)) → lk ls 2 = some (.int (I b_)) → lk ls 3 = some (.int (I i)) → GD gE gRL sh h4 → FRM gRL [(0, 54, 0, 0), (0, 54, 1, 1), (1, 55, 0, 39)] h h4 → K 23 ls [] h4 0 0 := by
    intro mz
    induction mz using Nat.strongRecOn with
    | ind mz ih =>
    intro b_ i h4 ls hm n0 i0 b0 bs rw4 r14 l0 l1 l2 l3 hG4 hF4
    have ci := cb i
    have cbb := cb b_
    have ab : ∀ l, 0 ≤ l → l ≤ 8 → 0 ≤ apt (gi h 178 1) l ∧ apt (gi h 178 1) l ≤ 8 := fun l h1 h2 => by unfold apt; split <;> omega
    have ai := ab i
    have abb := ab b_
    refine x_iload_n 24 hK rfl rfl l3 ?_
    refine x_bipush 26 hK rfl rfl rfl ?_
    refine x_if_icmp_ge 96 29 hK rfl rfl rfl (by omega) (by omega) (fun c3 => ?_) (fun c3 => ?_)
    · refine x_aload_n 97 hK rfl rfl l0 ?_
      refine x_iconst 98 hK rfl rfl ?_
      refine x_putI 101 hK rfl rfl (sp_171 (h := h4) hG4) ?_
      refine x_aload_n 102 hK rfl rfl l0 ?_
      refine x_aload_n 103 hK rfl rfl l0 ?_
      refine x_iload_n 104 hK rfl rfl l2 ?_
      refine x_iload_n 105 hK rfl rfl l1 ?_
      have hGp619 : GD gE gRL sh (wI h4 171 1 0) := GD_w1 (hG4) (r := 54) rfl (by omega) rfl (by omega) (by omega)
      have cz618 := cb b_
      have ez618 : rkN (gi (wI h4 171 1 0) 175) (gi (wI h4 171 1 0) 176) (gi (wI h4 171 1 0) 178 0) n b_ (gi (wI h4 171 1 0) 171 6).toNat = c b_ := by rw [← hcl, show gi (wI h4 171 1 0) 175 = gi h 175 from funext fun j => (gi_a (by decide) _).trans (FRM_gi hF4 (r := 58) rfl rfl), show gi (wI h4 171 1 0) 176 = gi h 176 from funext fun j => (gi_a (by decide) _).trans (FRM_gi hF4 (r := 59) rfl rfl), show gi (wI h4 171 1 0) 178 0 = gi h 178 0 from (gi_a (by decide) _).trans (FRM_gi hF4 (r := 61) rfl rfl), show gi (wI h4 171 1 0) 171 6 = gi h 171 6 from (gi_k (by decide) _).trans (FRM_gi hF4 (r := 54) rfl rfl)]
      refine x_callV 108 hK hmono rfl rfl [.ref 171, .int (I b_), .int (I n)] [.ref 171] rfl rfl (Nat.le_of_ble_eq_true rfl) (Nat.le_of_ble_eq_true rfl) rfl (sp_171 (h := h4) hG4) (CLd_le (Nat.le_of_ble_eq_true rfl) (ctX11_rocksInF hSP hGp619 (by rw [show gi (wI h4 171 1 0) 178 0 = gi h 178 0 from (gi_a (by decide) _).trans (FRM_gi hF4 (r := 61) rfl rfl)]; exact h0) (l := b_) (n := n) (by omega) rn)) ?_
      rintro v9 h9 ⟨e9, rfl⟩
      rw [e9, ez618]
      clear e9
      refine x_i2l 109 hK rfl rfl (by omega) ?_
      have hGp620 : GD gE gRL sh (wI h4 171 1 0) := GD_w1 (hG4) (r := 54) rfl (by omega) rfl (by omega) (by omega)
      have z622 : gi (wI h4 171 1 0) 171 1 = 0 := gi_same (by omega)
      have z622r : mrow (wI h4 171 1 0) = [] := mrow_0 (gi_same (by omega))
      refine x_callV 112 hK hmono rfl rfl [.ref 171, .long (J (c b_))] [] rfl rfl (Nat.le_of_ble_eq_true rfl) (Nat.le_of_ble_eq_true rfl) rfl (sp_171 (h := h4) hG4) (CLd_le (Nat.le_of_ble_eq_true rfl) (ctX11_entersF hSP hGp620 (by omega) (by omega))) ?_
      rintro v621 h621 ⟨rfl, hG621, hF621, t621, s621⟩
      rw [z622] at t621
      rw [z622r] at s621
      replace t621 : gi h621 171 1 = 1 := t621
      change mrow h621 = [(c b_)] at s621
      refine x_aload_n 113 hK rfl rfl l0 ?_
      refine x_aload_n 114 hK rfl rfl l0 ?_
      refine x_aload_n 115 hK rfl rfl l0 ?_
      refine x_getR 118 hK rfl rfl (sp_171 (h := h621) hG621) (rf_171_14 (h := h621) hG621) ?_
      refine x_iconst 119 hK rfl rfl ?_
      have g623 := gri (0) (8) hG (a := 178) (r := 61) (k := 1) rfl rfl
      refine x_ialoadE 120 hK rfl rfl (sp_178 (h := h621) hG621) (by omega) (by omega) (by omega) (e' := (gi h 178 1)) ((FRM_gi hF621 (r := 61) rfl rfl).trans ((gi_a (by decide) _).trans (FRM_gi hF4 (r := 61) rfl rfl))) ?_
      refine x_iload_n 121 hK rfl rfl l1 ?_
      have cz624 := cb (gi h 178 1)
      have ez624 : rkN (gi h621 175) (gi h621 176) (gi h621 178 0) n (gi h 178 1) (gi h621 171 6).toNat = c (gi h 178 1) := by rw [← hcl, show gi h621 175 = gi h 175 from funext fun j => (FRM_gi hF621 (r := 58) rfl rfl).trans ((gi_a (by decide) _).trans (FRM_gi hF4 (r := 58) rfl rfl)), show gi h621 176 = gi h 176 from funext fun j => (FRM_gi hF621 (r := 59) rfl rfl).trans ((gi_a (by decide) _).trans (FRM_gi hF4 (r := 59) rfl rfl)), show gi h621 178 0 = gi h 178 0 from (FRM_gi hF621 (r := 61) rfl rfl).trans ((gi_a (by decide) _).trans (FRM_gi hF4 (r := 61) rfl rfl)), show gi h621 171 6 = gi h 171 6 from (FRM_gi hF621 (r := 54) rfl rfl).trans ((gi_k (by decide) _).trans (FRM_gi hF4 (r := 54) rfl rfl))]
      refine x_callV 124 hK hmono rfl rfl [.ref 171, .int (I (gi h 178 1)), .int (I n)] [.ref 171] rfl rfl (Nat.le_of_ble_eq_true rfl) (Nat.le_of_ble_eq_true rfl) rfl (sp_171 (h := h621) hG621) (CLd_le (Nat.le_of_ble_eq_true rfl) (ctX11_rocksInF hSP hG621 (by rw [show gi h621 178 0 = gi h 178 0 from (FRM_gi hF621 (r := 61) rfl rfl).trans ((gi_a (by decide) _).trans (FRM_gi hF4 (r := 61) rfl rfl))]; exact h0) (l := (gi h 178 1)) (n := n) (by omega) rn)) ?_
      rintro v9 h9 ⟨e9, rfl⟩
      rw [e9, ez624]
      clear e9
      refine x_i2l 125 hK rfl rfl (by omega) ?_
      have z626 : gi h621 171 1 = 1 := t621
      have z626r : mrow h621 = [(c b_)] := s621
      refine x_callV 128 hK hmono rfl rfl [.ref 171, .long (J (c (gi h 178 1)))] [] rfl rfl (Nat.le_of_ble_eq_true rfl) (Nat.le_of_ble_eq_true rfl) rfl (sp_171 (h := h621) hG621) (CLd_le (Nat.le_of_ble_eq_true rfl) (ctX11_entersF hSP hG621 (by omega) (by omega))) ?_
      rintro v625 h625 ⟨rfl, hG625, hF625, t625, s625⟩
      rw [z626] at t625
      rw [z626r] at s625
      replace t625 : gi h625 171 1 = 2 := t625
      change mrow h625 = [(c b_), (c (gi h 178 1))] at s625
      refine x_iload_n 129 hK rfl rfl l2 ?_
      have bf : BST c (gi h 178 1) (fun l => 0 ≤ l ∧ l ≤ 8) b_ := fun l hl => bs l ⟨hl.1, by omega⟩
      exact x_iret hK rfl ⟨Or.inr ⟨n0, b_, rfl, by omega, bf, s625⟩, hG625, ((FRM_w (hF4) (r := 54) rfl rfl).trans ((hF621).mono rfl)).trans ((hF625).mono rfl)⟩
    · refine x_aload_n 30 hK rfl rfl l0 ?_
      refine x_iload_n 31 hK rfl rfl l3 ?_
      refine x_iload_n 32 hK rfl rfl l1 ?_
      have cz627 := cb i
      have ez627 : rkN (gi h4 175) (gi h4 176) (gi h4 178 0) n i (gi h4 171 6).toNat = c i := by rw [← hcl, show gi h4 175 = gi h 175 from funext fun j => FRM_gi hF4 (r := 58) rfl rfl, show gi h4 176 = gi h 176 from funext fun j => FRM_gi hF4 (r := 59) rfl rfl, show gi h4 178 0 = gi h 178 0 from FRM_gi hF4 (r := 61) rfl rfl, show gi h4 171 6 = gi h 171 6 from FRM_gi hF4 (r := 54) rfl rfl]
      refine x_callV 35 hK hmono rfl rfl [.ref 171, .int (I i), .int (I n)] [] rfl rfl (Nat.le_of_ble_eq_true rfl) (Nat.le_of_ble_eq_true rfl) rfl (sp_171 (h := h4) hG4) (CLd_le (Nat.le_of_ble_eq_true rfl) (ctX11_rocksInF hSP hG4 (by rw [show gi h4 178 0 = gi h 178 0 from FRM_gi hF4 (r := 61) rfl rfl]; exact h0) (l := i) (n := n) (by omega) rn)) ?_
      rintro v9 h9 ⟨e9, rfl⟩
      rw [e9, ez627]
      clear e9
      refine x_aload_n 36 hK rfl rfl l0 ?_
      refine x_iload_n 37 hK rfl rfl l2 ?_
      refine x_iload_n 38 hK rfl rfl l1 ?_
      have cz628 := cb b_
      have ez628 : rkN (gi h4 175) (gi h4 176) (gi h4 178 0) n b_ (gi h4 171 6).toNat = c b_ := by rw [← hcl, show gi h4 175 = gi h 175 from funext fun j => FRM_gi hF4 (r := 58) rfl rfl, show gi h4 176 = gi h 176 from funext fun j => FRM_gi hF4 (r := 59) rfl rfl, show gi h4 178 0 = gi h 178 0 from FRM_gi hF4 (r := 61) rfl rfl, show gi h4 171 6 = gi h 171 6 from FRM_gi hF4 (r := 54) rfl rfl]
      refine x_callV 41 hK hmono rfl rfl [.ref 171, .int (I b_), .int (I n)] [.int (I (c i))] rfl rfl (Nat.le_of_ble_eq_true rfl) (Nat.le_of_ble_eq_true rfl) rfl (sp_171 (h := h4) hG4) (CLd_le (Nat.le_of_ble_eq_true rfl) (ctX11_rocksInF hSP hG4 (by rw [show gi h4 178 0 = gi h 178 0 from FRM_gi hF4 (r := 61) rfl rfl]; exact h0) (l := b_) (n := n) (by omega) rn)) ?_
      rintro v9 h9 ⟨e9, rfl⟩
      rw [e9, ez628]
      clear e9
      refine x_isub 42 hK rfl rfl ?_
      refine x_istore 44 hK rfl rfl _ rfl ?_
      refine x_iload_n 45 hK rfl rfl (lk1_n l3 (by decide) (Or.inl rfl)) ?_
      refine x_aload_n 46 hK rfl rfl (lk1_n l0 (by decide) (Or.inl rfl)) ?_
      refine x_getR 49 hK rfl rfl (sp_171 (h := h4) hG4) (rf_171_14 (h := h4) hG4) ?_
      refine x_iconst 50 hK rfl rfl ?_
      have g629 := gri (0) (8) hG (a := 178) (r := 61) (k := 1) rfl rfl
      refine x_ialoadE 51 hK rfl rfl (sp_178 (h := h4) hG4) (by omega) (by omega) (by omega) (e' := (gi h 178 1)) (FRM_gi hF4 (r := 61) rfl rfl) ?_
      refine x_isub 52 hK rfl rfl ?_
      refine x_abs 55 hK rfl rfl (Nat.le_of_ble_eq_true rfl) (by omega) ?_
      refine x_iload_n 56 hK rfl rfl (lk1_n l2 (by decide) (Or.inl rfl)) ?_
      refine x_aload_n 57 hK rfl rfl (lk1_n l0 (by decide) (Or.inl rfl)) ?_
      refine x_getR 60 hK rfl rfl (sp_171 (h := h4) hG4) (rf_171_14 (h := h4) hG4) ?_
      refine x_iconst 61 hK rfl rfl ?_
      refine x_ialoadE 62 hK rfl rfl (sp_178 (h := h4) hG4) (by omega) (by omega) (by omega) (e' := (gi h 178 1)) (FRM_gi hF4 (r := 61) rfl rfl) ?_
      refine x_isub 63 hK rfl rfl ?_
      refine x_abs 66 hK rfl rfl (Nat.le_of_ble_eq_true rfl) (by omega) ?_
      refine x_isub 67 hK rfl rfl ?_
      refine x_istore 69 hK rfl rfl _ rfl ?_
      refine x_iload 71 hK rfl rfl (lk1_n lk1_s (by decide) (Or.inl rfl)) ?_
      refine x_if_lt 84 74 hK rfl rfl rfl (by omega) (fun c53 => ?_) (fun c53 => ?_)
      · refine x_iload_n 85 hK rfl rfl (lk1_n (lk1_n l3 (by decide) (Or.inl rfl)) (by decide) (Or.inl rfl)) ?_
        refine x_goto 89 hK rfl rfl ?_
        refine x_istore_n 90 hK rfl rfl _ rfl ?_
        refine x_iinc 93 hK rfl rfl (lk1_n (lk1_n (lk1_n l3 (by decide) (Or.inl rfl)) (by decide) (Or.inl rfl)) (by decide) (Or.inl rfl)) _ rfl ?_
        refine x_goto 23 hK rfl rfl ?_
        unfold apt at ai abb
        have ei : apt (gi h 178 1) i = (if 0 ≤ i - gi h 178 1 then i - gi h 178 1 else -(i - gi h 178 1)) := rfl
        have eb : apt (gi h 178 1) b_ = (if 0 ≤ b_ - gi h 178 1 then b_ - gi h 178 1 else -(b_ - gi h 178 1)) := rfl
        have bn : BST c (gi h 178 1) (fun l => 0 ≤ l ∧ l < i + 1) i := by
          intro l hl
          have hl : 0 ≤ l ∧ l < i + 1 := hl
          by_cases y : l = i
          · rw [y]
            exact Or.inr ⟨rfl, Or.inr ⟨rfl, Int.le_refl _⟩⟩
          · have hl2 : 0 ≤ l ∧ l < i := by omega
            have z := bs l hl2
            omega
        exact ih _ (by omega) i (i + 1) _ _ rfl (n0) (by omega) (by omega) (bn) (rw4) (r14) (lk1_n (lk1_n (lk1_n (lk1_n l0 (by decide) (Or.inl rfl)) (by decide) (Or.inl rfl)) (by decide) (Or.inl rfl)) (by decide) (Or.inl rfl)) (lk1_n (lk1_n (lk1_n (lk1_n l1 (by decide) (Or.inl rfl)) (by decide) (Or.inl rfl)) (by decide) (Or.inl rfl)) (by decide) (Or.inl rfl)) (lk1_n lk1_s (by decide) (Or.inl rfl)) lk1_s (hG4) (hF4)
      · refine x_iload 76 hK rfl rfl (lk1_n lk1_s (by decide) (Or.inl rfl)) ?_
        refine x_if_ne 88 79 hK rfl rfl rfl (by omega) (fun c61 => ?_) (fun c61 => ?_)
        · refine x_iload_n 89 hK rfl rfl (lk1_n (lk1_n l2 (by decide) (Or.inl rfl)) (by decide) (Or.inl rfl)) ?_
          refine x_istore_n 90 hK rfl rfl _ rfl ?_
          refine x_iinc 93 hK rfl rfl (lk1_n (lk1_n (lk1_n l3 (by decide) (Or.inl rfl)) (by decide) (Or.inl rfl)) (by decide) (Or.inl rfl)) _ rfl ?_
          refine x_goto 23 hK rfl rfl ?_
          unfold apt at ai abb
          have ei : apt (gi h 178 1) i = (if 0 ≤ i - gi h 178 1 then i - gi h 178 1 else -(i - gi h 178 1)) := rfl
          have eb : apt (gi h 178 1) b_ = (if 0 ≤ b_ - gi h 178 1 then b_ - gi h 178 1 else -(b_ - gi h 178 1)) := rfl
          have bn : BST c (gi h 178 1) (fun l => 0 ≤ l ∧ l < i + 1) b_ := by
            intro l hl
            have hl : 0 ≤ l ∧ l < i + 1 := hl
            by_cases y : l = i
            · rw [y]
              omega
            · have hl2 : 0 ≤ l ∧ l < i := by omega
              have z := bs l hl2
              omega
          exact ih _ (by omega) b_ (i + 1) _ _ rfl (n0) (by omega) (by omega) (bn) (rw4) (r14) (lk1_n (lk1_n (lk1_n (lk1_n l0 (by decide) (Or.inl rfl)) (by decide) (Or.inl rfl)) (by decide) (Or.inl rfl)) (by decide) (Or.inl rfl)) (lk1_n (lk1_n (lk1_n (lk1_n l1 (by decide) (Or.inl rfl)) (by decide) (Or.inl rfl)) (by decide) (Or.inl rfl)) (by decide) (Or.inl rfl)) (lk1_n lk1_s (by decide) (Or.inl rfl)) lk1_s (hG4) (hF4)
        · refine x_iload 81 hK rfl rfl lk1_s ?_
          refine x_if_ge 88 84 hK rfl rfl rfl (by omega) (fun c68 => ?_) (fun c68 => ?_)
          · refine x_iload_n 89 hK rfl rfl (lk1_n (lk1_n l2 (by decide) (Or.inl rfl)) (by decide) (Or.inl rfl)) ?_
            refine x_istore_n 90 hK rfl rfl _ rfl ?_
            refine x_iinc 93 hK rfl rfl (lk1_n (lk1_n (lk1_n l3 (by decide) (Or.inl rfl)) (by decide) (Or.inl rfl)) (by decide) (Or.inl rfl)) _ rfl ?_
            refine x_goto 23 hK rfl rfl ?_
            unfold apt at ai abb
            have ei : apt (gi h 178 1) i = (if 0 ≤ i - gi h 178 1 then i - gi h 178 1 else -(i - gi h 178 1)) := rfl
            have eb : apt (gi h 178 1) b_ = (if 0 ≤ b_ - gi h 178 1 then b_ - gi h 178 1 else -(b_ - gi h 178 1)) := rfl
            have bn : BST c (gi h 178 1) (fun l => 0 ≤ l ∧ l < i + 1) b_ := by
              intro l hl
              have hl : 0 ≤ l ∧ l < i + 1 := hl
              by_cases y : l = i
              · rw [y]
                omega
              · have hl2 : 0 ≤ l ∧ l < i := by omega
                have z := bs l hl2
                omega
            exact ih _ (by omega) b_ (i + 1) _ _ rfl (n0) (by omega) (by omega) (bn) (rw4) (r14) (lk1_n (lk1_n (lk1_n (lk1_n l0 (by decide) (Or.inl rfl)) (by decide) (Or.inl rfl)) (by decide) (Or.inl rfl)) (by decide) (Or.inl rfl)) (lk1_n (lk1_n (lk1_n (lk1_n l1 (by decide) (Or.inl rfl)) (by decide) (Or.inl rfl)) (by decide) (Or.inl rfl)) (by decide) (Or.inl rfl)) (lk1_n lk1_s (by decide) (Or.inl rfl)) lk1_s (hG4) (hF4)
          · refine x_iload_n 85 hK rfl rfl (lk1_n (lk1_n l3 (by decide) (Or.inl rfl)) (by decide) (Or.inl rfl)) ?_
            refine x_goto 89 hK rfl rfl ?_
            refine x_istore_n 90 hK rfl rfl _ rfl ?_
            refine x_iinc 93 hK rfl rfl (lk1_n (lk1_n (lk1_n l3 (by decide) (Or.inl rfl)) (by decide) (Or.inl rfl)) (by decide) (Or.inl rfl)) _ rfl ?_
            refine x_goto 23 hK rfl rfl ?_
            unfold apt at ai abb
            have ei : apt (gi h 178 1) i = (if 0 ≤ i - gi h 178 1 then i - gi h 178 1 else -(i - gi h 178 1)) := rfl
            have eb : apt (gi h 178 1) b_ = (if 0 ≤ b_ - gi h 178 1 then b_ - gi h 178 1 else -(b_ - gi h 178 1)) := rfl
            have bn : BST c (gi h 178 1) (fun l => 0 ≤ l ∧ l < i + 1) i := by
              intro l hl
              have hl : 0 ≤ l ∧ l < i + 1 := hl
              by_cases y : l = i
              · rw [y]
                exact Or.inr ⟨rfl, Or.inr ⟨rfl, Int.le_refl _⟩⟩
              · have hl2 : 0 ≤ l ∧ l < i := by omega
                have z := bs l hl2
                omega
            exact ih _ (by omega) i (i + 1) _ _ rfl (n0) (by omega) (by omega) (bn) (rw4) (r14) (lk1_n (lk1_n (lk1_n (lk1_n l0 (by decide) (Or.inl rfl)) (by decide) (Or.inl rfl)) (by decide) (Or.inl rfl)) (by decide) (Or.inl rfl)) (lk1_n (lk1_n (lk1_n (lk1_n l1 (by decide) (Or.inl rfl)) (by decide) (Or.inl rfl)) (by decide) (Or.inl rfl)) (by decide) (Or.inl rfl)) (lk1_n lk1_s (by decide) (Or.inl rfl)) lk1_s (hG4) (hF4)
  refine x_aload_n 1 hK rfl rfl rfl ?_
  refine x_iconst 2 hK rfl rfl ?_
  refine x_putI 5 hK rfl rfl (sp_171 (h := h) hG) ?_
  refine x_iload_n 6 hK rfl rfl rfl ?_
  refine x_i2l 7 hK rfl rfl (by omega) ?_
  refine x_lconstE 8 1 hK rfl rfl rfl ?_
  refine x_ldc2_w 11 hK rfl rfl ?_
  have hGp630 : GD gE gRL sh (wI h 171 0 0) := GD_w1 (hG) (r := 54) rfl (by omega) rfl (by omega) (by omega)
  refine x_callS 14 hK hmono rfl (Or.inl rfl) rfl [.long (J n), .long (J 1), .long (J 999)] [] rfl rfl (Nat.le_of_ble_eq_true rfl) (Nat.le_of_ble_eq_true rfl) (CLd_le (Nat.le_of_ble_eq_true rfl) (ctX11_in (by omega) (by omega) (by omega))) ?_
  rintro v9 h9 ⟨e9, ⟨rfl, i1631, i2631⟩ | ⟨rfl, i1631⟩⟩ <;> rw [e9] <;> clear e9
  · refine x_if_ne 19 17 hK rfl rfl rfl (by omega) (fun _ => ?_) (fun c => by omega)
    refine x_iconst 20 hK rfl rfl ?_
    refine x_istore_n 21 hK rfl rfl [(2, .int (I 0)), (0, .ref 171), (1, .int (I n))] rfl ?_
    refine x_iconst 22 hK rfl rfl ?_
    refine x_istore_n 23 hK rfl rfl [(3, .int (I 1)), (2, .int (I 0)), (0, .ref 171), (1, .int (I n))] rfl ?_
    exact loop _ 0 1 _ _ rfl (⟨by omega, by omega⟩) (by omega) (by omega) (fun l hl => by
      have q : l = 0 := by omega
      rw [q]; exact Or.inr ⟨rfl, Or.inr ⟨rfl, Int.le_refl _⟩⟩) (mrow_k (by decide)) (gi_k (by decide) _) rfl rfl rfl rfl (GD_w1 (hG) (r := 54) rfl (by omega) rfl (by omega) (by omega)) (FRM_w ((FRM.rf : FRM gRL [(0, 54, 0, 0), (0, 54, 1, 1), (1, 55, 0, 39)] h h)) (r := 54) rfl rfl)
  · refine x_if_ne 19 17 hK rfl rfl rfl (by omega) (fun c => by omega) (fun _ => ?_)
    refine x_iconst 18 hK rfl rfl ?_
    exact x_iret hK rfl ⟨Or.inl ⟨by omega, rfl, mrow_k (by decide), gi_k (by decide) _⟩, GD_w1 (hG) (r := 54) rfl (by omega) rfl (by omega) (by omega), FRM_w ((FRM.rf : FRM gRL [(0, 54, 0, 0), (0, 54, 1, 1), (1, 55, 0, 39)] h h)) (r := 54) rfl rfl⟩
end
