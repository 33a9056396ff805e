/-! THE FIRST ROCK THAT IS HIT -/
set_option maxRecDepth 4000 in
theorem ctX11_stepGoesTU {SP : CT} (hSP : MONO SP) {sh : List (Nat × Nat)} {h : aH} (hG : GD gE gRL sh h) {b : Int} (wb : WB b (RC h 179 0)) (hb : b ≤ 1000000) : CLd SP 5 mX11_stepGoes [.ref 171, .ref 179] h 0 0 (fun rv h' => rv = none ∧ GD gE gRL sh h' ∧ FRM gRL [(0, 54, 31, 32), (0, 62, 0, 56)] h h' ∧ vw (RC h' 179 0) = stW (gi h 175) (gi h 176) (gi h 171 6).toNat (gi h 171 7) (gi h 177) (vw (RC h 179 0)) ∧ WB (b + 1) (RC h' 179 0)) := by
  refine x_met _ rfl (Nat.le_of_ble_eq_true rfl) (fun K hK => ?_)
  have hmono := MONO_CLd hSP 4
  have g3 := gri 0 12 hG (a := 179) (r := 62) (k := 3) rfl rfl
  have g7 := gri 0 8 hG (a := 171) (r := 54) (k := 7) rfl rfl
  have g6 := gri 0 16 hG (a := 171) (r := 54) (k := 6) rfl rfl
  obtain ⟨w0, w1, w2, w3, w4, w5⟩ := wb
  rw [RC_0 (by omega)] at w0 w1 w2 w3 w4
  have w6 : ∀ m, m < 8 → (0 ≤ gi h 179 (41 + m) ∧ gi h 179 (41 + m) ≤ 99) ∧ 0 ≤ gi h 179 (49 + m) ∧ gi h 179 (49 + m) ≤ b := fun m hm => by have := w5 m hm; rw [RC_0 (by omega), RC_0 (by omega)] at this; exact this
  have hH := hitN_b (gi h 175) (gi h 176) (gi h 179 0 + 1) (stL (vw (RC h 179 0))) (gi h 171 6).toNat
  have eH : stH (gi h 175) (gi h 176) (gi h 171 6).toNat (vw (RC h 179 0)) = hitN (gi h 175) (gi h 176) (gi h 179 0 + 1) (stL (vw (RC h 179 0))) (gi h 171 6).toNat := by show hitN _ _ (RC h 179 0 0 + 1) _ _ = _; rw [RC_0 (by omega)]
  have eL : stL (vw (RC h 179 0)) = ((wl (RC h 179 0)).filter fun q => decide (q.1 = gi h 179 0 + 1)).foldl ptF (gi h 179 1) := by show ((wl (RC h 179 0)).filter fun z => decide (z.1 = RC h 179 0 0 + 1)).foldl ptF (RC h 179 0 1) = _; rw [RC_0 (by omega), RC_0 (by omega)]
  have lb : 0 ≤ stL (vw (RC h 179 0)) ∧ stL (vw (RC h 179 0)) ≤ 8 := by rw [eL]; exact ptF_b w1 _
  have loop : ∀ (mz : Nat) (k : Int) (h4 : aH) (ls : List (Nat × Value)), ((gi h 171 7 - k).toNat = mz) → (0 ≤ k ∧ k ≤ gi h 171 7) → (gi h4 179 0 = gi h 179 0 + 1) → (gi h4 179 1 = stL (vw (RC h 179 0))) → (gi h4 179 2 = gi h 179 2 + stH (gi h 175) (gi h 176) (gi h 171 6).toNat (vw (RC h 179 0))) → (gi h4 179 4 = gi h 179 4) → (wl (RC h4 179 0) = (wl (RC h 179 0)).filter (fun z => !decide (z.1 = gi h 179 0 + 1))) → (∀ j : Nat, j < 8 → gi h4 179 (41 + j) = (if (j : Int) < k then fdS (gi h 179 (41 + j)) (gi h 177 j) else gi h 179 (41 + j)) ∧ gi h4 179 (49 + j) = (if (j : Int) < k then huS (gi h 179 (49 + j)) (gi h 179 (41 + j)) (gi h 177 j) else gi h 179 (49 + j))) → lk ls 0 = some (.ref 171) → lk ls 1 = some (.ref 179) → lk ls 3 = some (.int (I k)) → GD gE gRL sh h4 → FRM gRL [(0, 54, 31, 32), (0, 62, 0, 56)] h h4 → K 41 ls [] h4 0 0 := by
    intro mz
    induction mz using Nat.strongRecOn with
    | ind mz ih =>
    intro k h4 ls hm k0 a0 a1 a2 a4 aw fl l0 l1 l3 hG4 hF4
    have g43 := gri 0 12 hG4 (a := 179) (r := 62) (k := 3) rfl rfl
    have hcb := hcN_b (fun j => gi h 179 (41 + j)) (gi h 177) k.toNat
    have w7 := fun z : k < 8 => w6 k.toNat (by omega)
    have hs := hcN_s (f := (fun j => gi h 179 (41 + j))) (e := gi h 177) k0.1
    refine x_iload_n 42 hK rfl rfl l3 ?_
    refine x_aload_n 43 hK rfl rfl l0 ?_
    have g578 := gri (0) (8) hG (a := 171) (r := 54) (k := 7) rfl rfl
    refine x_getE 46 hK rfl (Or.inl rfl) rfl (sp_171 (h := h4) hG4) (e := (gi h 171 7)) (FRM_gi hF4 (r := 54) rfl rfl) ?_
    refine x_if_icmp_ge 133 49 hK rfl rfl rfl (by omega) (by omega) (fun c4 => ?_) (fun c4 => ?_)
    · obtain rfl : k = gi h 171 7 := by omega
      have ev : vw (RC h4 179 0) = stW (gi h 175) (gi h 176) (gi h 171 6).toNat (gi h 171 7) (gi h 177) (vw (RC h 179 0)) := by
        refine WS_ext ?_ ?_ ?_ ?_ ?_ (fun m => ?_) (fun m => ?_)
        · show RC h4 179 0 0 = RC h 179 0 0 + 1; rw [RC_0 (by omega), RC_0 (by omega), a0]
        · show RC h4 179 0 1 = stL (vw (RC h 179 0)); rw [RC_0 (by omega), a1]
        · show RC h4 179 0 2 = RC h 179 0 2 + _; rw [RC_0 (by omega), RC_0 (by omega), a2]
        · show RC h4 179 0 4 = RC h 179 0 4; rw [RC_0 (by omega), RC_0 (by omega), a4]
        · show wl (RC h4 179 0) = (wl (RC h 179 0)).filter (fun z => !decide (z.1 = RC h 179 0 0 + 1)); rw [RC_0 (by omega)]; exact aw
        · show (if m < 8 then RC h4 179 0 (41 + m) else 0) = if (m : Int) < gi h 171 7 then fdS (if m < 8 then RC h 179 0 (41 + m) else 0) (gi h 177 m) else (if m < 8 then RC h 179 0 (41 + m) else 0)
          by_cases c : m < 8
          · rw [if_pos c, if_pos c, RC_0 (by omega), RC_0 (by omega)]; exact (fl m c).1
          · rw [if_neg c, if_neg c, if_neg (by omega)]
        · show (if m < 8 then RC h4 179 0 (49 + m) else 0) = if (m : Int) < gi h 171 7 then huS (if m < 8 then RC h 179 0 (49 + m) else 0) (if m < 8 then RC h 179 0 (41 + m) else 0) (gi h 177 m) else (if m < 8 then RC h 179 0 (49 + m) else 0)
          by_cases c : m < 8
          · rw [if_pos c, if_pos c, if_pos c, RC_0 (by omega), RC_0 (by omega), RC_0 (by omega)]; exact (fl m c).2
          · rw [if_neg c, if_neg c, if_neg (by omega)]
      have eu : stU (gi h 171 7) (gi h 177) (vw (RC h 179 0)) = hcN (fun j => gi h 179 (41 + j)) (gi h 177) (gi h 171 7).toNat := by
        show hcN (fun m => if m < 8 then RC h 179 0 (41 + m) else 0) _ _ = _
        exact hcN_c _ fun m hm => by rw [if_pos (by omega), RC_0 (by omega)]
      have ewb : WB (b + 1) (RC h4 179 0) := by
        have y1 := gri 0 8 hG4 (a := 179) (r := 62) (k := 1) rfl rfl
        refine ⟨?_, ?_, ?_, ?_, ?_, fun m hm => ?_⟩
        · rw [RC_0 (by omega), a0]; omega
        · rw [RC_0 (by omega)]; exact y1
        · rw [RC_0 (by omega), a2, eH]; omega
        · rw [RC_0 (by omega)]; exact g43
        · rw [RC_0 (by omega), a4]; omega
        · rw [RC_0 (by omega), RC_0 (by omega), (fl m hm).1, (fl m hm).2]
          have z1 := w6 m hm
          have z2 := grn 0 9 hG (a := 177) (r := 60) (k := m) rfl rfl (by omega)
          unfold fdS huS
          (repeat' split) <;> omega
      exact x_vret hK rfl ⟨rfl, hG4, hF4, ev, ewb⟩
    · refine x_aload_n 50 hK rfl rfl l1 ?_
      refine x_bipush 52 hK rfl rfl rfl ?_
      refine x_iload_n 53 hK rfl rfl l3 ?_
      refine x_iadd 54 hK rfl rfl ?_
      refine x_ialoadE 55 hK rfl rfl (sp_179 (h := h4) hG4) (by omega) (by omega) (by omega) (e' := (gi h 179 (41 + k.toNat))) (((gi_to (by omega)).trans ((fl k.toNat (by omega)).1.trans (if_neg (by omega))))) ?_
      refine x_aload_n 56 hK rfl rfl l0 ?_
      refine x_getR 59 hK rfl rfl (sp_171 (h := h4) hG4) (rf_171_13 (h := h4) hG4) ?_
      refine x_iload_n 60 hK rfl rfl l3 ?_
      have g579 := grn (0) (9) hG (a := 177) (r := 60) (k := k.toNat) rfl rfl (by omega)
      refine x_ialoadE 61 hK rfl rfl (sp_177 (h := h4) hG4) (by omega) (by omega) (by omega) (e' := (gi h 177 k.toNat)) (FRM_gi hF4 (r := 60) rfl rfl) ?_
      refine x_if_icmp_ge 68 64 hK rfl rfl rfl (by omega) (by omega) (fun c15 => ?_) (fun c15 => ?_)
      · refine x_iconst 69 hK rfl rfl ?_
        refine x_istore 71 hK rfl rfl _ rfl ?_
        refine x_aload_n 72 hK rfl rfl (lk1_n l1 (by decide) (Or.inl rfl)) ?_
        refine x_bipush 74 hK rfl rfl rfl ?_
        refine x_iload_n 75 hK rfl rfl (lk1_n l3 (by decide) (Or.inl rfl)) ?_
        refine x_iadd 76 hK rfl rfl ?_
        refine x_dup2 77 hK rfl rfl rfl rfl ?_
        refine x_ialoadE 78 hK rfl rfl (sp_179 (h := h4) hG4) (by omega) (by omega) (by omega) (e' := (gi h 179 (49 + k.toNat))) (((gi_to (by omega)).trans ((fl k.toNat (by omega)).2.trans (if_neg (by omega))))) ?_
        refine x_iload 80 hK rfl rfl lk1_s ?_
        refine x_callS 83 hK hmono rfl (Or.inl rfl) rfl [.int (I 0)] [.int (I (gi h 179 (49 + k.toNat))), .int (I (49 + k)), .ref 179] rfl rfl (Nat.le_of_ble_eq_true rfl) (Nat.le_of_ble_eq_true rfl) (CLd_le (Nat.le_of_ble_eq_true rfl) (ctX11_flag (by omega))) ?_
        rintro v9 h9 ⟨e9, rfl⟩
        rw [e9]
        clear e9
        refine x_iadd 84 hK rfl rfl ?_
        refine x_iastore 85 hK rfl rfl (sp_179 (h := h4) hG4) (by omega) (by omega) (by omega) ?_
        refine x_aload_n 86 hK rfl rfl (lk1_n l0 (by decide) (Or.inl rfl)) ?_
        refine x_dup 87 hK rfl rfl rfl ?_
        have g581 := gi_r h4 171 32
        refine x_getE 90 hK rfl (Or.inl rfl) rfl (sp_171 (h := h4) hG4) (e := (gi h4 171 32)) (gi_a (by decide) _) ?_
        refine x_iload 92 hK rfl rfl lk1_s ?_
        have hGp582 : GD gE gRL sh (wI h4 179 (49 + k).toNat ((gi h 179 (49 + k.toNat)) + 0)) := GD_st (hG4) (r := 62) rfl rfl (fun z => by omega) (fun z => by omega) (fun j hj z => by omega)
        refine x_callS 95 hK hmono rfl (Or.inl rfl) rfl [.int (I 0)] [.int (I (gi h4 171 32)), .ref 171] rfl rfl (Nat.le_of_ble_eq_true rfl) (Nat.le_of_ble_eq_true rfl) (CLd_le (Nat.le_of_ble_eq_true rfl) (ctX11_flag (by omega))) ?_
        rintro v9 h9 ⟨e9, rfl⟩
        rw [e9]
        clear e9
        refine x_iadd 96 hK rfl rfl ?_
        refine x_putI 99 hK rfl rfl (sp_171 (h := h4) hG4) ?_
        refine x_aload_n 100 hK rfl rfl (lk1_n l1 (by decide) (Or.inl rfl)) ?_
        refine x_bipush 102 hK rfl rfl rfl ?_
        refine x_iload_n 103 hK rfl rfl (lk1_n l3 (by decide) (Or.inl rfl)) ?_
        refine x_iadd 104 hK rfl rfl ?_
        refine x_iload 106 hK rfl rfl lk1_s ?_
        refine x_if_eq 113 109 hK rfl rfl rfl (by omega) (fun _ => ?_) (fun c => by omega)
        refine x_aload_n 114 hK rfl rfl (lk1_n l1 (by decide) (Or.inl rfl)) ?_
        refine x_bipush 116 hK rfl rfl rfl ?_
        refine x_iload_n 117 hK rfl rfl (lk1_n l3 (by decide) (Or.inl rfl)) ?_
        refine x_iadd 118 hK rfl rfl ?_
        refine x_ialoadE 119 hK rfl rfl (sp_179 (h := h4) hG4) (by omega) (by omega) (by omega) (e' := (gi h 179 (41 + k.toNat))) ((gi_a (by decide) _).trans ((gi_k (by omega) _).trans (((gi_to (by omega)).trans ((fl k.toNat (by omega)).1.trans (if_neg (by omega))))))) ?_
        refine x_aload_n 120 hK rfl rfl (lk1_n l0 (by decide) (Or.inl rfl)) ?_
        refine x_getR 123 hK rfl rfl (sp_171 (h := h4) hG4) (rf_171_13 (h := h4) hG4) ?_
        refine x_iload_n 124 hK rfl rfl (lk1_n l3 (by decide) (Or.inl rfl)) ?_
        refine x_ialoadE 125 hK rfl rfl (sp_177 (h := h4) hG4) (by omega) (by omega) (by omega) (e' := (gi h 177 k.toNat)) ((gi_a (by decide) _).trans ((gi_a (by decide) _).trans (FRM_gi hF4 (r := 60) rfl rfl))) ?_
        refine x_isub 126 hK rfl rfl ?_
        refine x_iastore 127 hK rfl rfl (sp_179 (h := h4) hG4) (by omega) (by omega) (by omega) ?_
        refine x_iinc 130 hK rfl rfl (lk1_n l3 (by decide) (Or.inl rfl)) _ rfl ?_
        refine x_goto 41 hK rfl rfl ?_
        have n3 : gi (wI (wI (wI h4 179 (49 + k).toNat ((gi h 179 (49 + k.toNat)) + 0)) 171 32 ((gi h4 171 32) + 0)) 179 (41 + k).toNat ((gi h 179 (41 + k.toNat)) - (gi h 177 k.toNat))) 179 3 = gi h4 179 3 := ((gi_k (by omega) _).trans ((gi_a (by decide) _).trans ((gi_k (by omega) _).trans rfl)))
        have y1 : gi (wI (wI (wI h4 179 (49 + k).toNat ((gi h 179 (49 + k.toNat)) + 0)) 171 32 ((gi h4 171 32) + 0)) 179 (41 + k).toNat ((gi h 179 (41 + k.toNat)) - (gi h 177 k.toNat))) 179 (41 + k).toNat = ((gi h 179 (41 + k.toNat)) - (gi h 177 k.toNat)) := gi_same (by omega)
        have y2 : gi (wI (wI (wI h4 179 (49 + k).toNat ((gi h 179 (49 + k.toNat)) + 0)) 171 32 ((gi h4 171 32) + 0)) 179 (41 + k).toNat ((gi h 179 (41 + k.toNat)) - (gi h 177 k.toNat))) 179 (49 + k).toNat = ((gi h 179 (49 + k.toNat)) + 0) := (gi_k (by omega) _).trans ((gi_a (by decide) _).trans (gi_same (by omega)))
        have fn : ∀ j : Nat, j < 8 → gi (wI (wI (wI h4 179 (49 + k).toNat ((gi h 179 (49 + k.toNat)) + 0)) 171 32 ((gi h4 171 32) + 0)) 179 (41 + k).toNat ((gi h 179 (41 + k.toNat)) - (gi h 177 k.toNat))) 179 (41 + j) = (if (j : Int) < (k + 1) then fdS (gi h 179 (41 + j)) (gi h 177 j) else gi h 179 (41 + j)) ∧ gi (wI (wI (wI h4 179 (49 + k).toNat ((gi h 179 (49 + k.toNat)) + 0)) 171 32 ((gi h4 171 32) + 0)) 179 (41 + k).toNat ((gi h 179 (41 + k.toNat)) - (gi h 177 k.toNat))) 179 (49 + j) = (if (j : Int) < (k + 1) then huS (gi h 179 (49 + j)) (gi h 179 (41 + j)) (gi h 177 j) else gi h 179 (49 + j)) := by
          intro j hj
          by_cases c : j = k.toNat
          · subst c
            rw [if_pos (by omega), if_pos (by omega), (gi_to (show 41 + k.toNat = (41 + k).toNat by omega)).trans y1, (gi_to (show 49 + k.toNat = (49 + k).toNat by omega)).trans y2]
            unfold fdS huS
            rw [if_neg (by omega), if_neg (by omega)]
            exact ⟨rfl, Int.add_zero _⟩
          · rw [← if_j k0.1 c, ← if_j k0.1 c]
            exact ⟨((gi_k (by omega) _).trans ((gi_a (by decide) _).trans ((gi_k (by omega) _).trans (fl j hj).1))), ((gi_k (by omega) _).trans ((gi_a (by decide) _).trans ((gi_k (by omega) _).trans (fl j hj).2)))⟩
        exact ih _ (by omega) (k + 1) _ _ rfl (by omega) (((gi_k (by omega) _).trans ((gi_a (by decide) _).trans ((gi_k (by omega) _).trans a0)))) (((gi_k (by omega) _).trans ((gi_a (by decide) _).trans ((gi_k (by omega) _).trans a1)))) (((gi_k (by omega) _).trans ((gi_a (by decide) _).trans ((gi_k (by omega) _).trans a2)))) (((gi_k (by omega) _).trans ((gi_a (by decide) _).trans ((gi_k (by omega) _).trans a4)))) ((by rw [← aw, wl_RC (by rw [n3]; omega), wl_RC (by omega), n3]; exact wlK_congr fun j z1 z2 => ((gi_k (by omega) _).trans ((gi_a (by decide) _).trans ((gi_k (by omega) _).trans rfl))))) (fn) (lk1_n (lk1_n l0 (by decide) (Or.inl rfl)) (by decide) (Or.inl rfl)) (lk1_n (lk1_n l1 (by decide) (Or.inl rfl)) (by decide) (Or.inl rfl)) lk1_s (GD_st (GD_w0 (GD_st (hG4) (r := 62) rfl rfl (fun z => by omega) (fun z => by omega) (fun j hj z => by omega)) (r := 54) rfl rfl) (r := 62) rfl rfl (fun z => by omega) (fun z => by omega) (fun j hj z => by omega)) (FRM_wn 0 56 (FRM_w (FRM_wn 0 56 (hF4) (r := 62) rfl rfl rfl (by omega) (by omega)) (r := 54) rfl rfl) (r := 62) rfl rfl rfl (by omega) (by omega))
      · refine x_iconst 65 hK rfl rfl ?_
        refine x_goto 69 hK rfl rfl ?_
        refine x_istore 71 hK rfl rfl _ rfl ?_
        refine x_aload_n 72 hK rfl rfl (lk1_n l1 (by decide) (Or.inl rfl)) ?_
        refine x_bipush 74 hK rfl rfl rfl ?_
        refine x_iload_n 75 hK rfl rfl (lk1_n l3 (by decide) (Or.inl rfl)) ?_
        refine x_iadd 76 hK rfl rfl ?_
        refine x_dup2 77 hK rfl rfl rfl rfl ?_
        refine x_ialoadE 78 hK rfl rfl (sp_179 (h := h4) hG4) (by omega) (by omega) (by omega) (e' := (gi h 179 (49 + k.toNat))) (((gi_to (by omega)).trans ((fl k.toNat (by omega)).2.trans (if_neg (by omega))))) ?_
        refine x_iload 80 hK rfl rfl lk1_s ?_
        refine x_callS 83 hK hmono rfl (Or.inl rfl) rfl [.int (I 1)] [.int (I (gi h 179 (49 + k.toNat))), .int (I (49 + k)), .ref 179] rfl rfl (Nat.le_of_ble_eq_true rfl) (Nat.le_of_ble_eq_true rfl) (CLd_le (Nat.le_of_ble_eq_true rfl) (ctX11_flag (by omega))) ?_
        rintro v9 h9 ⟨e9, rfl⟩
        rw [e9]
        clear e9
        refine x_iadd 84 hK rfl rfl ?_
        refine x_iastore 85 hK rfl rfl (sp_179 (h := h4) hG4) (by omega) (by omega) (by omega) ?_
        refine x_aload_n 86 hK rfl rfl (lk1_n l0 (by decide) (Or.inl rfl)) ?_
        refine x_dup 87 hK rfl rfl rfl ?_
        have g585 := gi_r h4 171 32
        refine x_getE 90 hK rfl (Or.inl rfl) rfl (sp_171 (h := h4) hG4) (e := (gi h4 171 32)) (gi_a (by decide) _) ?_
        refine x_iload 92 hK rfl rfl lk1_s ?_
        have hGp586 : GD gE gRL sh (wI h4 179 (49 + k).toNat ((gi h 179 (49 + k.toNat)) + 1)) := GD_st (hG4) (r := 62) rfl rfl (fun z => by omega) (fun z => by omega) (fun j hj z => by omega)
        refine x_callS 95 hK hmono rfl (Or.inl rfl) rfl [.int (I 1)] [.int (I (gi h4 171 32)), .ref 171] rfl rfl (Nat.le_of_ble_eq_true rfl) (Nat.le_of_ble_eq_true rfl) (CLd_le (Nat.le_of_ble_eq_true rfl) (ctX11_flag (by omega))) ?_
        rintro v9 h9 ⟨e9, rfl⟩
        rw [e9]
        clear e9
        refine x_iadd 96 hK rfl rfl ?_
        refine x_putI 99 hK rfl rfl (sp_171 (h := h4) hG4) ?_
        refine x_aload_n 100 hK rfl rfl (lk1_n l1 (by decide) (Or.inl rfl)) ?_
        refine x_bipush 102 hK rfl rfl rfl ?_
        refine x_iload_n 103 hK rfl rfl (lk1_n l3 (by decide) (Or.inl rfl)) ?_
        refine x_iadd 104 hK rfl rfl ?_
        refine x_iload 106 hK rfl rfl lk1_s ?_
        refine x_if_eq 113 109 hK rfl rfl rfl (by omega) (fun c => by omega) (fun _ => ?_)
        refine x_iconst 110 hK rfl rfl ?_
        refine x_goto 126 hK rfl rfl ?_
        refine x_iastore 127 hK rfl rfl (sp_179 (h := h4) hG4) (by omega) (by omega) (by omega) ?_
        refine x_iinc 130 hK rfl rfl (lk1_n l3 (by decide) (Or.inl rfl)) _ rfl ?_
        refine x_goto 41 hK rfl rfl ?_
        have n3 : gi (wI (wI (wI h4 179 (49 + k).toNat ((gi h 179 (49 + k.toNat)) + 1)) 171 32 ((gi h4 171 32) + 1)) 179 (41 + k).toNat 0) 179 3 = gi h4 179 3 := ((gi_k (by omega) _).trans ((gi_a (by decide) _).trans ((gi_k (by omega) _).trans rfl)))
        have y1 : gi (wI (wI (wI h4 179 (49 + k).toNat ((gi h 179 (49 + k.toNat)) + 1)) 171 32 ((gi h4 171 32) + 1)) 179 (41 + k).toNat 0) 179 (41 + k).toNat = 0 := gi_same (by omega)
        have y2 : gi (wI (wI (wI h4 179 (49 + k).toNat ((gi h 179 (49 + k.toNat)) + 1)) 171 32 ((gi h4 171 32) + 1)) 179 (41 + k).toNat 0) 179 (49 + k).toNat = ((gi h 179 (49 + k.toNat)) + 1) := (gi_k (by omega) _).trans ((gi_a (by decide) _).trans (gi_same (by omega)))
        have fn : ∀ j : Nat, j < 8 → gi (wI (wI (wI h4 179 (49 + k).toNat ((gi h 179 (49 + k.toNat)) + 1)) 171 32 ((gi h4 171 32) + 1)) 179 (41 + k).toNat 0) 179 (41 + j) = (if (j : Int) < (k + 1) then fdS (gi h 179 (41 + j)) (gi h 177 j) else gi h 179 (41 + j)) ∧ gi (wI (wI (wI h4 179 (49 + k).toNat ((gi h 179 (49 + k.toNat)) + 1)) 171 32 ((gi h4 171 32) + 1)) 179 (41 + k).toNat 0) 179 (49 + j) = (if (j : Int) < (k + 1) then huS (gi h 179 (49 + j)) (gi h 179 (41 + j)) (gi h 177 j) else gi h 179 (49 + j)) := by
          intro j hj
          by_cases c : j = k.toNat
          · subst c
            rw [if_pos (by omega), if_pos (by omega), (gi_to (show 41 + k.toNat = (41 + k).toNat by omega)).trans y1, (gi_to (show 49 + k.toNat = (49 + k).toNat by omega)).trans y2]
            unfold fdS huS
            rw [if_pos (by omega), if_pos (by omega)]
            exact ⟨rfl, rfl⟩
          · rw [← if_j k0.1 c, ← if_j k0.1 c]
            exact ⟨((gi_k (by omega) _).trans ((gi_a (by decide) _).trans ((gi_k (by omega) _).trans (fl j hj).1))), ((gi_k (by omega) _).trans ((gi_a (by decide) _).trans ((gi_k (by omega) _).trans (fl j hj).2)))⟩
        exact ih _ (by omega) (k + 1) _ _ rfl (by omega) (((gi_k (by omega) _).trans ((gi_a (by decide) _).trans ((gi_k (by omega) _).trans a0)))) (((gi_k (by omega) _).trans ((gi_a (by decide) _).trans ((gi_k (by omega) _).trans a1)))) (((gi_k (by omega) _).trans ((gi_a (by decide) _).trans ((gi_k (by omega) _).trans a2)))) (((gi_k (by omega) _).trans ((gi_a (by decide) _).trans ((gi_k (by omega) _).trans a4)))) ((by rw [← aw, wl_RC (by rw [n3]; omega), wl_RC (by omega), n3]; exact wlK_congr fun j z1 z2 => ((gi_k (by omega) _).trans ((gi_a (by decide) _).trans ((gi_k (by omega) _).trans rfl))))) (fn) (lk1_n (lk1_n l0 (by decide) (Or.inl rfl)) (by decide) (Or.inl rfl)) (lk1_n (lk1_n l1 (by decide) (Or.inl rfl)) (by decide) (Or.inl rfl)) lk1_s (GD_st (GD_w0 (GD_st (hG4) (r := 62) rfl rfl (fun z => by omega) (fun z => by omega) (fun j hj z => by omega)) (r := 54) rfl rfl) (r := 62) rfl rfl (fun z => by omega) (fun z => by omega) (fun j hj z => by omega)) (FRM_wn 0 56 (FRM_w (FRM_wn 0 56 (hF4) (r := 62) rfl rfl rfl (by omega) (by omega)) (r := 54) rfl rfl) (r := 62) rfl rfl rfl (by omega) (by omega))
  refine x_aload_n 1 hK rfl rfl rfl ?_
  refine x_iconst 2 hK rfl rfl ?_
  refine x_dup2 3 hK rfl rfl rfl rfl ?_
  have g588 := gi_r h 179 0
  refine x_ialoadE 4 hK rfl rfl (sp_179 (h := h) hG) (by omega) (by omega) (by omega) (e' := (gi h 179 0)) (rfl) ?_
  refine x_iconst 5 hK rfl rfl ?_
  refine x_iadd 6 hK rfl rfl ?_
  refine x_iastore 7 hK rfl rfl (sp_179 (h := h) hG) (by omega) (by omega) (by omega) ?_
  refine x_aload_n 8 hK rfl rfl rfl ?_
  change K 8 _ _ (wI h 179 0 ((gi h 179 0) + 1)) _ _
  have hG1 : GD gE gRL sh (wI h 179 0 ((gi h 179 0) + 1)) := GD_w0 (hG) (r := 62) rfl rfl
  have e0 : gi (wI h 179 0 ((gi h 179 0) + 1)) 179 0 = gi h 179 0 + 1 := gi_same (by omega)
  have ew : wl (RC (wI h 179 0 ((gi h 179 0) + 1)) 179 0) = wl (RC h 179 0) := by rw [wl_RC (by rw [gi_k (by decide)]; omega), wl_RC (by omega), gi_k (by decide)]; exact wlK_congr fun j z1 z2 => gi_k (by omega) _
  refine x_callS 11 hK hmono rfl (Or.inl rfl) rfl [.ref 179] [] rfl rfl (Nat.le_of_ble_eq_true rfl) (Nat.le_of_ble_eq_true rfl) (CLd_le (Nat.le_of_ble_eq_true rfl) (ctX11_doesDueTF hSP hG1)) ?_
  rintro v2 h2 ⟨rfl, hG2, hF2, d1, d2⟩
  rw [e0, ew] at d1 d2
  rw [show gi (wI h 179 0 ((gi h 179 0) + 1)) 179 1 = gi h 179 1 from gi_k (by decide) _, ← eL] at d1
  refine x_aload_n 12 hK rfl rfl rfl ?_
  refine x_aload_n 13 hK rfl rfl rfl ?_
  refine x_iconst 14 hK rfl rfl ?_
  refine x_ialoadE 15 hK rfl rfl (sp_179 (h := h2) hG2) (by omega) (by omega) (by omega) (e' := ((gi h 179 0) + 1)) ((FRM_gi hF2 (r := 62) rfl rfl).trans (gi_same (by omega))) ?_
  refine x_aload_n 16 hK rfl rfl rfl ?_
  refine x_iconst 17 hK rfl rfl ?_
  refine x_ialoadE 18 hK rfl rfl (sp_179 (h := h2) hG2) (by omega) (by omega) (by omega) (e' := (stL (vw (RC h 179 0)))) (d1) ?_
  refine x_callV 21 hK hmono rfl rfl [.ref 171, .int (I ((gi h 179 0) + 1)), .int (I (stL (vw (RC h 179 0))))] [] rfl rfl (Nat.le_of_ble_eq_true rfl) (Nat.le_of_ble_eq_true rfl) rfl (sp_171 (h := h2) hG2) (CLd_le (Nat.le_of_ble_eq_true rfl) (ctX11_hitsAtF hSP hG2 (by omega) (by omega))) ?_
  rintro v9 h9 ⟨e9, rfl⟩
  rw [e9, show gi h2 175 = gi h 175 from funext fun j => (FRM_gi hF2 (r := 58) rfl rfl).trans (gi_a (by decide) _), show gi h2 176 = gi h 176 from funext fun j => (FRM_gi hF2 (r := 59) rfl rfl).trans (gi_a (by decide) _), show gi h2 171 6 = gi h 171 6 from (FRM_gi hF2 (r := 54) rfl rfl).trans (gi_a (by decide) _), ← eH]
  clear e9
  rw [← eH] at hH
  refine x_istore_n 22 hK rfl rfl [(2, .int (I (stH (gi h 175) (gi h 176) (gi h 171 6).toNat (vw (RC h 179 0))))), (0, .ref 171), (1, .ref 179)] rfl ?_
  refine x_aload_n 23 hK rfl rfl rfl ?_
  refine x_iconst 24 hK rfl rfl ?_
  refine x_dup2 25 hK rfl rfl rfl rfl ?_
  have g589 := gi_r h 179 2
  refine x_ialoadE 26 hK rfl rfl (sp_179 (h := h2) hG2) (by omega) (by omega) (by omega) (e' := (gi h 179 2)) ((FRM_gi hF2 (r := 62) rfl rfl).trans (gi_k (by decide) _)) ?_
  refine x_iload_n 27 hK rfl rfl rfl ?_
  refine x_iadd 28 hK rfl rfl ?_
  refine x_iastore 29 hK rfl rfl (sp_179 (h := h2) hG2) (by omega) (by omega) (by omega) ?_
  refine x_aload_n 30 hK rfl rfl rfl ?_
  refine x_dup 31 hK rfl rfl rfl ?_
  have g590 := gi_r h 171 31
  refine x_getE 34 hK rfl (Or.inl rfl) rfl (sp_171 (h := h2) hG2) (e := (gi h 171 31)) ((gi_a (by decide) _).trans ((FRM_gi hF2 (r := 54) rfl rfl).trans (gi_a (by decide) _))) ?_
  refine x_iload_n 35 hK rfl rfl rfl ?_
  refine x_iadd 36 hK rfl rfl ?_
  refine x_putI 39 hK rfl rfl (sp_171 (h := h2) hG2) ?_
  refine x_iconst 40 hK rfl rfl ?_
  refine x_istore_n 41 hK rfl rfl [(3, .int (I 0)), (2, .int (I (stH (gi h 175) (gi h 176) (gi h 171 6).toNat (vw (RC h 179 0))))), (0, .ref 171), (1, .ref 179)] rfl ?_
  change K 41 _ _ (wI (wI h2 179 2 ((gi h 179 2) + (stH (gi h 175) (gi h 176) (gi h 171 6).toNat (vw (RC h 179 0))))) 171 31 ((gi h 171 31) + (stH (gi h 175) (gi h 176) (gi h 171 6).toNat (vw (RC h 179 0))))) _ _
  have g23 := gri 0 12 hG2 (a := 179) (r := 62) (k := 3) rfl rfl
  have n3 : gi (wI (wI h2 179 2 ((gi h 179 2) + (stH (gi h 175) (gi h 176) (gi h 171 6).toNat (vw (RC h 179 0))))) 171 31 ((gi h 171 31) + (stH (gi h 175) (gi h 176) (gi h 171 6).toNat (vw (RC h 179 0))))) 179 3 = gi h2 179 3 := (gi_a (by decide) _).trans (gi_k (by decide) _)
  exact loop _ 0 _ _ rfl (by omega) ((gi_a (by decide) _).trans ((gi_k (by decide) _).trans ((FRM_gi hF2 (r := 62) rfl rfl).trans (gi_same (by omega))))) ((gi_a (by decide) _).trans ((gi_k (by decide) _).trans (d1))) ((gi_a (by decide) _).trans (gi_same (by omega))) ((gi_a (by decide) _).trans ((gi_k (by decide) _).trans ((FRM_gi hF2 (r := 62) rfl rfl).trans (gi_k (by decide) _)))) ((by rw [← d2, wl_RC (by rw [n3]; omega), wl_RC (by omega), n3]; exact wlK_congr fun j z1 z2 => (gi_a (by decide) _).trans (gi_k (by omega) _))) ((fun j hj => by rw [if_neg (by omega), if_neg (by omega)]; exact ⟨(gi_a (by decide) _).trans ((gi_k (by omega) _).trans ((FRM_gi hF2 (r := 62) rfl (mh_179 (by omega))).trans (gi_k (by omega) _))), (gi_a (by decide) _).trans ((gi_k (by omega) _).trans ((FRM_gi hF2 (r := 62) rfl (mh_179 (by omega))).trans (gi_k (by omega) _)))⟩)) rfl rfl rfl (GD_w0 (GD_w0 (hG2) (r := 62) rfl rfl) (r := 54) rfl rfl) (FRM_w (FRM_w ((FRM_w ((FRM.rf : FRM gRL [(0, 54, 31, 32), (0, 62, 0, 56)] h h)) (r := 62) rfl rfl).trans ((hF2).mono rfl)) (r := 62) rfl rfl) (r := 54) rfl rfl)
/-- in STEP k from now she hits ROCK r -/
noncomputable def hitA (ml ln : Nat → Int) (w : WS) (k : Int) (r : Nat) : Prop := ml r = w.1 + k ∧ ln r = lnW w k
noncomputable def PSt (ml ln : Nat → Int) (w : WS) (nr : Nat) (e f : Int) : Prop := (e = -2 ∧ f = -1 ∧ ∀ r : Nat, r < nr → ∀ k : Int, 1 ≤ k → k ≤ 999 → ¬ hitA ml ln w k r) ∨ ((0 ≤ f ∧ f < nr) ∧ (1 ≤ e ∧ e ≤ 999) ∧ hitA ml ln w e f.toNat ∧ (∀ r : Nat, (r : Int) < f → ¬ hitA ml ln w e r) ∧ ∀ r : Nat, r < nr → ∀ k : Int, 1 ≤ k → k < e → ¬ hitA ml ln w k r)
theorem PSt_u {ml ln : Nat → Int} {w : WS} {nr : Nat} {e f e' f' : Int} (h : PSt ml ln w nr e f) (h' : PSt ml ln w nr e' f') : e = e' ∧ f = f' := by
  rcases h with ⟨a1, a2, a3⟩ | ⟨a0, a1, a2, a3, a4⟩
  · rcases h' with ⟨b1, b2, b3⟩ | ⟨b0, b1, b2, b3, b4⟩
    · exact ⟨by omega, by omega⟩
    · exact absurd b2 (a3 _ (by omega) _ b1.1 b1.2)
  · rcases h' with ⟨b1, b2, b3⟩ | ⟨b0, b1, b2, b3, b4⟩
    · exact absurd a2 (b3 _ (by omega) _ a1.1 a1.2)
    · have e1 : e = e' := by
        by_cases c : e < e'
        · exact absurd a2 (b4 _ (by omega) _ a1.1 c)
        · by_cases d : e' < e
          · exact absurd b2 (a4 _ (by omega) _ b1.1 d)
          · omega
      subst e1
      refine ⟨rfl, ?_⟩
      by_cases c : f < f'
      · exact absurd a2 (b3 _ (by omega))
      · by_cases d : f' < f
        · exact absurd b2 (a3 _ (by omega))
        · omega
theorem PSt_c {ml ln ml' ln' : Nat → Int} {w : WS} {nr : Nat} {e f : Int} (hc : ∀ j : Nat, j < nr → ml' j = ml j ∧ ln' j = ln j) (h : PSt ml' ln' w nr e f) : PSt ml ln w nr e f := by
  have hi : ∀ r : Nat, r < nr → ∀ k : Int, hitA ml ln w k r → hitA ml' ln' w k r := fun r hr k z => ⟨(hc r hr).1.trans z.1, (hc r hr).2.trans z.2⟩
  rcases h with ⟨a1, a2, a3⟩ | ⟨a0, a1, a2, a3, a4⟩
  · exact Or.inl ⟨a1, a2, fun r hr k h1 h2 z => a3 r hr k h1 h2 (hi r hr k z)⟩
  · exact Or.inr ⟨a0, a1, ⟨(hc _ (by omega)).1.symm.trans a2.1, (hc _ (by omega)).2.symm.trans a2.2⟩, fun r hr z => a3 r hr (hi r (by omega) _ z), fun r hr k h1 h2 z => a4 r hr k h1 h2 (hi r hr k z)⟩
/-- of the first i ROCKS -/
noncomputable def QSt (ml ln : Nat → Int) (w : WS) (i : Nat) (s f : Int) : Prop := (f = -1 ∧ s = 1000 ∧ ∀ r : Nat, r < i → ∀ k : Int, 1 ≤ k → k ≤ 999 → ¬ hitA ml ln w k r) ∨ ((0 ≤ f ∧ f < i) ∧ (1 ≤ s ∧ s ≤ 999) ∧ hitA ml ln w s f.toNat ∧ (∀ r : Nat, (r : Int) < f → ¬ hitA ml ln w s r) ∧ ∀ r : Nat, r < i → ∀ k : Int, 1 ≤ k → k < s → ¬ hitA ml ln w k r)
theorem QSt_no {ml ln : Nat → Int} {w : WS} {i : Nat} {s f : Int} (h : QSt ml ln w i s f) (hn : ¬ (1 ≤ ml i - w.1 ∧ ml i - w.1 < s ∧ lnW w (ml i - w.1) = ln i)) : QSt ml ln w (i + 1) s f := by
  have key : ∀ k : Int, 1 ≤ k → k < s → ¬ hitA ml ln w k i := fun k h1 h2 z => by
    have e : ml i - w.1 = k := by have := z.1; omega
    rw [e] at hn
    exact hn ⟨h1, h2, z.2.symm⟩
  rcases h with ⟨a1, a2, a3⟩ | ⟨a0, a1, a2, a3, a4⟩
  · refine Or.inl ⟨a1, a2, fun r hr k h1 h2 => ?_⟩
    by_cases c : r = i
    · rw [c]; exact key k h1 (by omega)
    · exact a3 r (by omega) k h1 h2
  · refine Or.inr ⟨⟨a0.1, by omega⟩, a1, a2, a3, fun r hr k h1 h2 => ?_⟩
    by_cases c : r = i
    · rw [c]; exact key k h1 h2
    · exact a4 r (by omega) k h1 h2
theorem QSt_yes {ml ln : Nat → Int} {w : WS} {i : Nat} {s f : Int} (h : QSt ml ln w i s f) (h1 : 1 ≤ ml i - w.1) (h2 : ml i - w.1 < s) (h3 : lnW w (ml i - w.1) = ln i) : QSt ml ln w (i + 1) (ml i - w.1) i := by
  have old : ∀ r : Nat, r < i → ∀ k : Int, 1 ≤ k → k < s → k ≤ 999 → ¬ hitA ml ln w k r := fun r hr k g1 g2 g3 => by
    rcases h with ⟨a1, a2, a3⟩ | ⟨a0, a1, a2, a3, a4⟩
    · exact a3 r hr k g1 g3
    · exact a4 r hr k g1 g2
  have sb : s ≤ 1000 := by
    rcases h with ⟨a1, a2, a3⟩ | ⟨a0, a1, a2, a3, a4⟩ <;> omega
  refine Or.inr ⟨⟨by omega, by omega⟩, ⟨h1, by omega⟩, ⟨by rw [Int.toNat_natCast]; omega, by rw [Int.toNat_natCast]; exact h3.symm⟩, fun r hr => old r (by omega) _ h1 h2 (by omega), fun r hr k g1 g2 z => ?_⟩
  by_cases c : r = i
  · rw [c] at z
    have := z.1
    omega
  · exact old r (by omega) k g1 (by omega) (by omega) z
theorem QSt_end {ml ln : Nat → Int} {w : WS} {n : Nat} {s f : Int} (h : QSt ml ln w n s f) : (f = -1 → PSt ml ln w n (-2) (-1)) ∧ (f ≠ -1 → PSt ml ln w n s f) := by
  rcases h with ⟨a1, a2, a3⟩ | ⟨a0, a1, a2, a3, a4⟩
  · exact ⟨fun _ => Or.inl ⟨rfl, rfl, a3⟩, fun z => absurd a1 z⟩
  · exact ⟨fun z => by omega, fun _ => Or.inr ⟨a0, a1, a2, a3, a4⟩⟩
set_option maxRecDepth 4000 in
theorem ctX10_strikesF {SP : CT} (hSP : MONO SP) {sh : List (Nat × Nat)} {h : aH} (hG : GD gE gRL sh h) {b : Int} {w : WS} {ms : Int} (hS : STR ms (kS h 23) w) (hw : WW b w) (hb : b ≤ 950000) (hml : ∀ j : Nat, (j : Int) < gi h 19 0 → 0 ≤ gi h 20 j ∧ gi h 20 j ≤ 999) : CLd SP 4 mX10_strikes [.ref 0] h 0 0 (fun rv h' => (∃ e f : Int, rv = some (.int (I e)) ∧ PSt (gi h 20) (gi h 21) w (gi h 19 0).toNat e f ∧ (e = -2 → h' = h) ∧ (e ≠ -2 → gi h' 3 1 = 1 ∧ crow h' = [f])) ∧ GD gE gRL sh h' ∧ FRM gRL [(0, 3, 1, 1), (1, 4, 0, 29)] h h') := by
  refine x_met _ rfl (Nat.le_of_ble_eq_true rfl) (fun K hK => ?_)
  have hmono := MONO_CLd hSP 3
  obtain ⟨k0, k1, k2, k3, k4, k5, k6⟩ := STR_to hG hS
  have hb1 := STR_hb hG hS hw (by omega)
  have lb := hw.2.1
  have w0 := hw.1
  have g19 := gri 0 16 hG (a := 19) (r := 13) (k := 0) rfl rfl
  have loop : ∀ (mz : Nat) (s f i : Int) (ls : List (Nat × Value)), (((gi h 19 0) - i).toNat = mz) → (0 ≤ i ∧ i ≤ (gi h 19 0)) → (QSt (gi h 20) (gi h 21) w i.toNat s f) → (1 ≤ s ∧ s ≤ 1000) → (-1 ≤ f ∧ f ≤ 16) → lk ls 0 = some (.ref 0) → lk ls 1 = some (.int (I s)) → lk ls 2 = some (.int (I f)) → lk ls 3 = some (.int (I i)) → K 8 ls [] h 0 0 := by
    intro mz
    induction mz using Nat.strongRecOn with
    | ind mz ih =>
    intro s f i ls hm i0 q0 s0 f0 l0 l1 l2 l3
    have gm := fun z : i < (gi h 19 0) => hml i.toNat (by omega)
    have gl2 := fun z : i < (gi h 19 0) => grn 0 8 hG (a := 21) (r := 15) (k := i.toNat) rfl rfl (by omega)
    refine x_iload_n 9 hK rfl rfl l3 ?_
    refine x_aload_n 10 hK rfl rfl l0 ?_
    refine x_getR 13 hK rfl rfl (sp_0 (h := h) hG) (rf_0_7 (h := h) hG) ?_
    have g591 := gri (0) (16) hG (a := 19) (r := 13) (k := 0) rfl rfl
    refine x_getE 16 hK rfl (Or.inl rfl) rfl (sp_19 (h := h) hG) (e := (gi h 19 0)) (rfl) ?_
    refine x_if_icmp_ge 82 19 hK rfl rfl rfl (by omega) (by omega) (fun c5 => ?_) (fun c5 => ?_)
    · refine x_iload_n 83 hK rfl rfl l2 ?_
      refine x_iconst 84 hK rfl rfl ?_
      refine x_if_icmp_ne 90 87 hK rfl rfl rfl (by omega) (by omega) (fun c8 => ?_) (fun c8 => ?_)
      · refine x_aload_n 91 hK rfl rfl l0 ?_
        refine x_getR 94 hK rfl rfl (sp_0 (h := h) hG) (rf_0_1 (h := h) hG) ?_
        refine x_iload_n 95 hK rfl rfl l2 ?_
        refine x_i2l 96 hK rfl rfl (by omega) ?_
        refine x_callV 99 hK hmono rfl rfl [.ref 3, .long (J f)] [] rfl rfl (Nat.le_of_ble_eq_true rfl) (Nat.le_of_ble_eq_true rfl) rfl (sp_3 (h := h) hG) (CLd_le (Nat.le_of_ble_eq_true rfl) (ctX3_tellOne hSP hG (by omega))) ?_
        rintro v592 h592 ⟨rfl, hG592, hF592, t592, s592⟩
        refine x_iload_n 100 hK rfl rfl l1 ?_
        exact x_iret hK rfl ⟨⟨s, f, rfl, by rw [show (gi h 19 0).toNat = i.toNat by omega]; exact (QSt_end q0).2 (by omega), fun z => by omega, fun _ => ⟨t592, s592⟩⟩, hG592, hF592⟩
      · refine x_bipush 89 hK rfl rfl rfl ?_
        exact x_iret hK rfl ⟨⟨-2, -1, rfl, by rw [show (gi h 19 0).toNat = i.toNat by omega]; exact (QSt_end q0).1 (by omega), fun _ => rfl, fun z => absurd rfl z⟩, hG, FRM.rf⟩
    · refine x_aload_n 20 hK rfl rfl l0 ?_
      refine x_getR 23 hK rfl rfl (sp_0 (h := h) hG) (rf_0_7 (h := h) hG) ?_
      refine x_getR 26 hK rfl rfl (sp_19 (h := h) hG) (rf_19_1 (h := h) hG) ?_
      refine x_iload_n 27 hK rfl rfl l3 ?_
      have g593 := gi_r h 20 i.toNat
      refine x_ialoadE 28 hK rfl rfl (sp_20 (h := h) hG) (by omega) (by omega) (by omega) (e' := (gi h 20 i.toNat)) (rfl) ?_
      refine x_aload_n 29 hK rfl rfl l0 ?_
      refine x_getR 32 hK rfl rfl (sp_0 (h := h) hG) (rf_0_10 (h := h) hG) ?_
      refine x_getE 35 hK rfl (Or.inl rfl) rfl (sp_23 (h := h) hG) (e := (w.1)) (k0) ?_
      refine x_isub 36 hK rfl rfl ?_
      refine x_istore 38 hK rfl rfl _ rfl ?_
      refine x_iload 40 hK rfl rfl lk1_s ?_
      refine x_iconst 41 hK rfl rfl ?_
      refine x_if_icmp_lt 76 44 hK rfl rfl rfl (by omega) (by omega) (fun c30 => ?_) (fun c30 => ?_)
      · refine x_iinc 79 hK rfl rfl (lk1_n l3 (by decide) (Or.inl rfl)) _ rfl ?_
        refine x_goto 8 hK rfl rfl ?_
        have gmi := gm (by omega)
        exact ih _ (by omega) s f (i + 1) _ rfl (by omega) (by rw [tn_s i0.1]; exact QSt_no q0 (fun z => by have z1 := z.1; have z2 := z.2.1; have z3 := z.2.2; omega)) (by omega) (by omega) (lk1_n (lk1_n l0 (by decide) (Or.inl rfl)) (by decide) (Or.inl rfl)) (lk1_n (lk1_n l1 (by decide) (Or.inl rfl)) (by decide) (Or.inl rfl)) (lk1_n (lk1_n l2 (by decide) (Or.inl rfl)) (by decide) (Or.inl rfl)) lk1_s
      · refine x_iload 46 hK rfl rfl lk1_s ?_
        refine x_iload_n 47 hK rfl rfl (lk1_n l1 (by decide) (Or.inl rfl)) ?_
        refine x_if_icmp_ge 76 50 hK rfl rfl rfl (by omega) (by omega) (fun c36 => ?_) (fun c36 => ?_)
        · refine x_iinc 79 hK rfl rfl (lk1_n l3 (by decide) (Or.inl rfl)) _ rfl ?_
          refine x_goto 8 hK rfl rfl ?_
          have gmi := gm (by omega)
          exact ih _ (by omega) s f (i + 1) _ rfl (by omega) (by rw [tn_s i0.1]; exact QSt_no q0 (fun z => by have z1 := z.1; have z2 := z.2.1; have z3 := z.2.2; omega)) (by omega) (by omega) (lk1_n (lk1_n l0 (by decide) (Or.inl rfl)) (by decide) (Or.inl rfl)) (lk1_n (lk1_n l1 (by decide) (Or.inl rfl)) (by decide) (Or.inl rfl)) (lk1_n (lk1_n l2 (by decide) (Or.inl rfl)) (by decide) (Or.inl rfl)) lk1_s
        · refine x_aload_n 51 hK rfl rfl (lk1_n l0 (by decide) (Or.inl rfl)) ?_
          refine x_getR 54 hK rfl rfl (sp_0 (h := h) hG) (rf_0_10 (h := h) hG) ?_
          refine x_iload 56 hK rfl rfl lk1_s ?_
          have li594 := lnW_b lb ((gi h 20 i.toNat) - (w.1))
          refine x_callV 59 hK hmono rfl rfl [.ref 23, .int (I ((gi h 20 i.toNat) - (w.1)))] [] rfl rfl (Nat.le_of_ble_eq_true rfl) (Nat.le_of_ble_eq_true rfl) rfl (sp_23 (h := h) hG) (CLd_le (Nat.le_of_ble_eq_true rfl) (ctX8_laneIn hSP hG (n := ((gi h 20 i.toNat) - (w.1))) (by omega) hb1 (by omega))) ?_
          rintro v9 h9 ⟨e9, rfl⟩
          rw [show ((kO h 23 (gi h 23 4).toNat).takeWhile fun q => decide (q.1 - gi h 23 0 ≤ ((gi h 20 i.toNat) - (w.1)))).foldl cpt (gi h 23 1) = lnW w ((gi h 20 i.toNat) - (w.1)) from by rw [k5, k0, k1]; rfl]
          rw [e9]
          clear e9
          refine x_aload_n 60 hK rfl rfl (lk1_n l0 (by decide) (Or.inl rfl)) ?_
          refine x_getR 63 hK rfl rfl (sp_0 (h := h) hG) (rf_0_7 (h := h) hG) ?_
          refine x_getR 66 hK rfl rfl (sp_19 (h := h) hG) (rf_19_2 (h := h) hG) ?_
          refine x_iload_n 67 hK rfl rfl (lk1_n l3 (by decide) (Or.inl rfl)) ?_
          have g595 := grn (0) (8) hG (a := 21) (r := 15) (k := i.toNat) rfl rfl (by omega)
          refine x_ialoadE 68 hK rfl rfl (sp_21 (h := h) hG) (by omega) (by omega) (by omega) (e' := (gi h 21 i.toNat)) (rfl) ?_
          refine x_if_icmp_ne 76 71 hK rfl rfl rfl (by omega) (by omega) (fun c49 => ?_) (fun c49 => ?_)
          · refine x_iinc 79 hK rfl rfl (lk1_n l3 (by decide) (Or.inl rfl)) _ rfl ?_
            refine x_goto 8 hK rfl rfl ?_
            have gmi := gm (by omega)
            exact ih _ (by omega) s f (i + 1) _ rfl (by omega) (by rw [tn_s i0.1]; exact QSt_no q0 (fun z => by have z1 := z.1; have z2 := z.2.1; have z3 := z.2.2; omega)) (by omega) (by omega) (lk1_n (lk1_n l0 (by decide) (Or.inl rfl)) (by decide) (Or.inl rfl)) (lk1_n (lk1_n l1 (by decide) (Or.inl rfl)) (by decide) (Or.inl rfl)) (lk1_n (lk1_n l2 (by decide) (Or.inl rfl)) (by decide) (Or.inl rfl)) lk1_s
          · refine x_iload 73 hK rfl rfl lk1_s ?_
            refine x_istore_n 74 hK rfl rfl _ rfl ?_
            refine x_iload_n 75 hK rfl rfl (lk1_n (lk1_n l3 (by decide) (Or.inl rfl)) (by decide) (Or.inl rfl)) ?_
            refine x_istore_n 76 hK rfl rfl _ rfl ?_
            refine x_iinc 79 hK rfl rfl (lk1_n (lk1_n (lk1_n l3 (by decide) (Or.inl rfl)) (by decide) (Or.inl rfl)) (by decide) (Or.inl rfl)) _ rfl ?_
            refine x_goto 8 hK rfl rfl ?_
            have gmi := gm (by omega)
            exact ih _ (by omega) ((gi h 20 i.toNat) - (w.1)) i (i + 1) _ rfl (by omega) (by rw [tn_s i0.1]; have z := QSt_yes q0 (by omega) (by omega) (by omega); rw [show ((i.toNat : Nat) : Int) = i by omega] at z; exact z) (by omega) (by omega) (lk1_n (lk1_n (lk1_n (lk1_n l0 (by decide) (Or.inl rfl)) (by decide) (Or.inl rfl)) (by decide) (Or.inl rfl)) (by decide) (Or.inl rfl)) (lk1_n (lk1_n lk1_s (by decide) (Or.inl rfl)) (by decide) (Or.inl rfl)) (lk1_n lk1_s (by decide) (Or.inl rfl)) lk1_s
  refine x_sipush 3 hK rfl rfl rfl ?_
  refine x_istore_n 4 hK rfl rfl [(1, .int (I 1000)), (0, .ref 0)] rfl ?_
  refine x_iconst 5 hK rfl rfl ?_
  refine x_istore_n 6 hK rfl rfl [(2, .int (I (-1))), (1, .int (I 1000)), (0, .ref 0)] rfl ?_
  refine x_iconst 7 hK rfl rfl ?_
  refine x_istore_n 8 hK rfl rfl [(3, .int (I 0)), (2, .int (I (-1))), (1, .int (I 1000)), (0, .ref 0)] rfl ?_
  exact loop _ 1000 (-1) 0 _ rfl (by omega) (Or.inl ⟨rfl, rfl, fun r hr => absurd hr (Nat.not_lt_zero _)⟩) (by omega) (by omega) rfl rfl rfl rfl
set_option maxRecDepth 4000 in
theorem ctX11_strikesF {SP : CT} (hSP : MONO SP) {sh : List (Nat × Nat)} {h : aH} (hG : GD gE gRL sh h) {b : Int} (ok : OKW (vw (RC h 178 0))) (wb : WB b (RC h 178 0)) (hb : b ≤ 900000) : CLd SP 12 mX11_strikes [.ref 171] h 0 0 (fun rv h' => (∃ e f : Int, rv = some (.int (I e)) ∧ PSt (gi h 175) (gi h 176) (vw (RC h 178 0)) (gi h 171 6).toNat e f ∧ (e = -2 → mrow h' = mrow h ∧ gi h' 171 1 = gi h 171 1) ∧ (e ≠ -2 → mrow h' = [f])) ∧ GD gE gRL sh h' ∧ FRM gRL [(0, 54, 0, 0), (0, 54, 1, 1), (0, 54, 31, 32), (0, 62, 0, 56), (1, 55, 0, 39)] h h') := by
  refine x_met _ rfl (Nat.le_of_ble_eq_true rfl) (fun K hK => ?_)
  have hmono := MONO_CLd hSP 11
  have g6 := gri 0 16 hG (a := 171) (r := 54) (k := 6) rfl rfl
  have hi : ∀ k : Int, 1 ≤ k → ∀ r : Nat, hitA (gi h 175) (gi h 176) (vw (RC h 178 0)) k r ↔ gi h 175 r = (stI (gi h 175) (gi h 176) (gi h 171 6).toNat (gi h 171 7) (gi h 177) k.toNat (vw (RC h 178 0))).1 ∧ gi h 176 r = (stI (gi h 175) (gi h 176) (gi h 171 6).toNat (gi h 171 7) (gi h 177) k.toNat (vw (RC h 178 0))).2.1 := fun k hk r => by
    rw [lnW_stI ok k.toNat, (stI_ln ok k.toNat).2.1, show ((k.toNat : Nat) : Int) = k by omega]
    exact Iff.rfl
  have loop : ∀ (mz : Nat) (k : Int) (h4 : aH) (ls : List (Nat × Value)), ((1000 - k).toNat = mz) → (1 ≤ k ∧ k ≤ 1000) → (vw (RC h4 179 0) = stI (gi h 175) (gi h 176) (gi h 171 6).toNat (gi h 171 7) (gi h 177) (k - 1).toNat (vw (RC h 178 0))) → (∀ r : Nat, r < (gi h 171 6).toNat → ∀ q : Int, 1 ≤ q → q < k → ¬ hitA (gi h 175) (gi h 176) (vw (RC h 178 0)) q r) → (WB (b + (k - 1)) (RC h4 179 0)) → (mrow h4 = mrow h) → (gi h4 171 1 = gi h 171 1) → lk ls 0 = some (.ref 171) → lk ls 1 = some (.int (I k)) → GD gE gRL sh h4 → FRM gRL [(0, 54, 0, 0), (0, 54, 1, 1), (0, 54, 31, 32), (0, 62, 0, 56), (1, 55, 0, 39)] h h4 → K 11 ls [] h4 0 0 := by
    intro mz
    induction mz using Nat.strongRecOn with
    | ind mz ih =>
    intro k h4 ls hm k0 sv no wb4 rw4 r14 l0 l1 hG4 hF4
    refine x_iload_n 12 hK rfl rfl l1 ?_
    refine x_sipush 15 hK rfl rfl rfl ?_
    refine x_if_icmp_gt 91 18 hK rfl rfl rfl (by omega) (by omega) (fun c3 => ?_) (fun c3 => ?_)
    · refine x_bipush 93 hK rfl rfl rfl ?_
      exact x_iret hK rfl ⟨⟨-2, -1, rfl, Or.inl ⟨rfl, rfl, fun r hr q h1 h2 => no r hr q h1 (by omega)⟩, fun _ => ⟨rw4, r14⟩, fun z => absurd rfl z⟩, hG4, hF4⟩
    · refine x_aload_n 19 hK rfl rfl l0 ?_
      refine x_aload_n 20 hK rfl rfl l0 ?_
      refine x_getR 23 hK rfl rfl (sp_171 (h := h4) hG4) (rf_171_15 (h := h4) hG4) ?_
      refine x_callV 26 hK hmono rfl rfl [.ref 171, .ref 179] [] rfl rfl (Nat.le_of_ble_eq_true rfl) (Nat.le_of_ble_eq_true rfl) rfl (sp_171 (h := h4) hG4) (CLd_le (Nat.le_of_ble_eq_true rfl) (ctX11_stepGoesTU hSP hG4 wb4 (by omega))) ?_
      rw [sv, show gi h4 175 = gi h 175 from funext fun j => FRM_gi hF4 (r := 58) rfl rfl, show gi h4 176 = gi h 176 from funext fun j => FRM_gi hF4 (r := 59) rfl rfl, show gi h4 171 6 = gi h 171 6 from FRM_gi hF4 (r := 54) rfl rfl, show gi h4 171 7 = gi h 171 7 from FRM_gi hF4 (r := 54) rfl rfl, show gi h4 177 = gi h 177 from funext fun j => FRM_gi hF4 (r := 60) rfl rfl]
      rintro v596 h596 ⟨rfl, hG596, hF596, sv596, wb596⟩
      have sk : vw (RC h596 179 0) = stI (gi h 175) (gi h 176) (gi h 171 6).toNat (gi h 171 7) (gi h 177) k.toNat (vw (RC h 178 0)) := by rw [show k.toNat = (k - 1).toNat + 1 by omega]; exact sv596
      have wk : WB (b + k) (RC h596 179 0) := by rw [show b + k = b + (k - 1) + 1 by omega]; exact wb596
      have s0 : gi h596 179 0 = (stI (gi h 175) (gi h 176) (gi h 171 6).toNat (gi h 171 7) (gi h 177) k.toNat (vw (RC h 178 0))).1 := by rw [← sk]; exact (RC_0 (a := 179) (k := 0) (by omega)).symm
      have s1 : gi h596 179 1 = (stI (gi h 175) (gi h 176) (gi h 171 6).toNat (gi h 171 7) (gi h 177) k.toNat (vw (RC h 178 0))).2.1 := by rw [← sk]; exact (RC_0 (a := 179) (k := 1) (by omega)).symm
      have rk0 := gi_r h596 179 0
      rw [s0] at rk0
      have rk1 := gi_r h596 179 1
      rw [s1] at rk1
      have fr : FRM gRL [(0, 54, 0, 0), (0, 54, 1, 1), (0, 54, 31, 32), (0, 62, 0, 56), (1, 55, 0, 39)] h h596 := hF4.trans (hF596.mono rfl)
      have rwn : mrow h596 = mrow h := (mrow_F hF596 rfl rfl).trans rw4
      have r1n : gi h596 171 1 = gi h 171 1 := (FRM_gi hF596 (r := 54) rfl rfl).trans r14
      refine x_iconst 27 hK rfl rfl ?_
      refine x_istore_n 28 hK rfl rfl _ rfl ?_
      have iho := ih
      have rock : ∀ (mz : Nat) (r : Int) (ls : List (Nat × Value)), ((gi h 171 6 - r).toNat = mz) → (0 ≤ r ∧ r ≤ gi h 171 6) → (∀ j : Nat, (j : Int) < r → ¬ hitA (gi h 175) (gi h 176) (vw (RC h 178 0)) k j) → lk ls 0 = some (.ref 171) → lk ls 1 = some (.int (I k)) → lk ls 2 = some (.int (I r)) → K 28 ls [] h596 0 0 := by
        intro mz
        induction mz using Nat.strongRecOn with
        | ind mz ih =>
        intro r ls hm r0 nr l0 l1 l2
        refine x_iload_n 29 hK rfl rfl l2 ?_
        refine x_aload_n 30 hK rfl rfl l0 ?_
        have g597 := gri (0) (16) hG (a := 171) (r := 54) (k := 6) rfl rfl
        refine x_getE 33 hK rfl (Or.inl rfl) rfl (sp_171 (h := h596) hG596) (e := (gi h 171 6)) (FRM_gi fr (r := 54) rfl rfl) ?_
        refine x_if_icmp_ge 85 36 hK rfl rfl rfl (by omega) (by omega) (fun c4 => ?_) (fun c4 => ?_)
        · refine x_iinc 88 hK rfl rfl l1 _ rfl ?_
          refine x_goto 11 hK rfl rfl ?_
          exact iho _ (by omega) (k + 1) _ _ rfl (by omega) (by rw [show (k + 1 - 1).toNat = k.toNat by omega]; exact sk) ((fun j hj q h1 h2 => by
            by_cases y : q = k
            · rw [y]; exact nr j (by omega)
            · exact no j hj q h1 (by omega))) (by rw [show b + (k + 1 - 1) = b + k by omega]; exact wk) (rwn) (r1n) (lk1_n l0 (by decide) (Or.inl rfl)) lk1_s (hG596) (fr)
        · refine x_aload_n 37 hK rfl rfl l0 ?_
          refine x_getR 40 hK rfl rfl (sp_171 (h := h596) hG596) (rf_171_11 (h := h596) hG596) ?_
          refine x_iload_n 41 hK rfl rfl l2 ?_
          have g598 := grn (0) (999) hG (a := 175) (r := 58) (k := r.toNat) rfl rfl (by omega)
          refine x_ialoadE 42 hK rfl rfl (sp_175 (h := h596) hG596) (by omega) (by omega) (by omega) (e' := (gi h 175 r.toNat)) (FRM_gi fr (r := 58) rfl rfl) ?_
          refine x_aload_n 43 hK rfl rfl l0 ?_
          refine x_getR 46 hK rfl rfl (sp_171 (h := h596) hG596) (rf_171_15 (h := h596) hG596) ?_
          refine x_iconst 47 hK rfl rfl ?_
          refine x_ialoadE 48 hK rfl rfl (sp_179 (h := h596) hG596) (by omega) (by omega) (by omega) (e' := (stI (gi h 175) (gi h 176) (gi h 171 6).toNat (gi h 171 7) (gi h 177) k.toNat (vw (RC h 178 0))).1) (s0) ?_
          refine x_if_icmp_ne 79 51 hK rfl rfl rfl (by omega) (by omega) (fun c16 => ?_) (fun c16 => ?_)
          · refine x_iinc 82 hK rfl rfl l2 _ rfl ?_
            refine x_goto 28 hK rfl rfl ?_
            exact ih _ (by omega) (r + 1) _ rfl (by omega) ((fun j hj z => by
              by_cases q : (j : Int) = r
              · rw [show j = r.toNat by omega] at z
                have z := (hi k k0.1 _).mp z
                first | omega | (have z1 := z.1; have z2 := z.2; omega)
              · exact nr j (by omega) z)) (lk1_n l0 (by decide) (Or.inl rfl)) (lk1_n l1 (by decide) (Or.inl rfl)) lk1_s
          · refine x_aload_n 52 hK rfl rfl l0 ?_
            refine x_getR 55 hK rfl rfl (sp_171 (h := h596) hG596) (rf_171_12 (h := h596) hG596) ?_
            refine x_iload_n 56 hK rfl rfl l2 ?_
            have g599 := gi_r h 176 r.toNat
            refine x_ialoadE 57 hK rfl rfl (sp_176 (h := h596) hG596) (by omega) (by omega) (by omega) (e' := (gi h 176 r.toNat)) (FRM_gi fr (r := 59) rfl rfl) ?_
            refine x_aload_n 58 hK rfl rfl l0 ?_
            refine x_getR 61 hK rfl rfl (sp_171 (h := h596) hG596) (rf_171_15 (h := h596) hG596) ?_
            refine x_iconst 62 hK rfl rfl ?_
            refine x_ialoadE 63 hK rfl rfl (sp_179 (h := h596) hG596) (by omega) (by omega) (by omega) (e' := (stI (gi h 175) (gi h 176) (gi h 171 6).toNat (gi h 171 7) (gi h 177) k.toNat (vw (RC h 178 0))).2.1) (s1) ?_
            refine x_if_icmp_ne 79 66 hK rfl rfl rfl (by omega) (by omega) (fun c28 => ?_) (fun c28 => ?_)
            · refine x_iinc 82 hK rfl rfl l2 _ rfl ?_
              refine x_goto 28 hK rfl rfl ?_
              exact ih _ (by omega) (r + 1) _ rfl (by omega) ((fun j hj z => by
                by_cases q : (j : Int) = r
                · rw [show j = r.toNat by omega] at z
                  have z := (hi k k0.1 _).mp z
                  first | omega | (have z1 := z.1; have z2 := z.2; omega)
                · exact nr j (by omega) z)) (lk1_n l0 (by decide) (Or.inl rfl)) (lk1_n l1 (by decide) (Or.inl rfl)) lk1_s
            · refine x_aload_n 67 hK rfl rfl l0 ?_
              refine x_iconst 68 hK rfl rfl ?_
              refine x_putI 71 hK rfl rfl (sp_171 (h := h596) hG596) ?_
              refine x_aload_n 72 hK rfl rfl l0 ?_
              refine x_iload_n 73 hK rfl rfl l2 ?_
              refine x_i2l 74 hK rfl rfl (by omega) ?_
              have hGp600 : GD gE gRL sh (wI h596 171 1 0) := GD_w1 (hG596) (r := 54) rfl (by omega) rfl (by omega) (by omega)
              have z602 : gi (wI h596 171 1 0) 171 1 = 0 := gi_same (by omega)
              have z602r : mrow (wI h596 171 1 0) = [] := mrow_0 (gi_same (by omega))
              refine x_callV 77 hK hmono rfl rfl [.ref 171, .long (J r)] [] rfl rfl (Nat.le_of_ble_eq_true rfl) (Nat.le_of_ble_eq_true rfl) rfl (sp_171 (h := h596) hG596) (CLd_le (Nat.le_of_ble_eq_true rfl) (ctX11_entersF hSP hGp600 (by omega) (by omega))) ?_
              rintro v601 h601 ⟨rfl, hG601, hF601, t601, s601⟩
              rw [z602] at t601
              rw [z602r] at s601
              replace t601 : gi h601 171 1 = 1 := t601
              change mrow h601 = [r] at s601
              refine x_iload_n 78 hK rfl rfl l1 ?_
              have hh := (hi k k0.1 r.toNat).mpr ⟨by omega, by omega⟩
              exact x_iret hK rfl ⟨⟨k, r, rfl, Or.inr ⟨⟨by omega, by omega⟩, ⟨by omega, by omega⟩, hh, nr, fun j hj q h1 h2 => no j hj q h1 h2⟩, fun z => by omega, fun _ => s601⟩, hG601, (FRM_w (fr) (r := 54) rfl rfl).trans ((hF601).mono rfl)⟩
      exact rock _ 0 _ rfl (by omega) (fun j hj => absurd hj (by omega)) (lk1_n l0 (by decide) (Or.inl rfl)) (lk1_n l1 (by decide) (Or.inl rfl)) lk1_s
  refine x_aload_n 1 hK rfl rfl rfl ?_
  refine x_iconst 2 hK rfl rfl ?_
  refine x_putI 5 hK rfl rfl (sp_171 (h := h) hG) ?_
  refine x_aload_n 6 hK rfl rfl rfl ?_
  have hGp604 : GD gE gRL sh (wI h 171 0 0) := GD_w1 (hG) (r := 54) rfl (by omega) rfl (by omega) (by omega)
  refine x_callV 9 hK hmono rfl rfl [.ref 171] [] rfl rfl (Nat.le_of_ble_eq_true rfl) (Nat.le_of_ble_eq_true rfl) rfl (sp_171 (h := h) hG) (CLd_le (Nat.le_of_ble_eq_true rfl) (ctX11_putsF hSP hGp604)) ?_
  rintro v603 h603 ⟨rfl, hG603, hF603, pt603⟩
  refine x_iconst 10 hK rfl rfl ?_
  refine x_istore_n 11 hK rfl rfl [(1, .int (I 1)), (0, .ref 171)] rfl ?_
  have c178 : RC (wI h 171 0 0) 178 0 = RC h 178 0 := RC_w (by decide)
  have c3 : RC h603 179 0 = RC h 178 0 := pt603.trans c178
  exact loop _ 1 _ _ rfl (by omega) ((by rw [c3]; rfl)) (fun r hr q h1 h2 => absurd h1 (by omega)) ((by rw [c3, show b + (1 - 1) = b by omega]; exact wb)) ((mrow_F hF603 rfl rfl).trans (mrow_k (by decide))) ((FRM_gi hF603 (r := 54) rfl rfl).trans (gi_k (by decide) _)) rfl rfl (hG603) ((FRM_w ((FRM.rf : FRM gRL [(0, 54, 0, 0), (0, 54, 1, 1), (0, 54, 31, 32), (0, 62, 0, 56), (1, 55, 0, 39)] h h)) (r := 54) rfl rfl).trans ((hF603).mono rfl))
