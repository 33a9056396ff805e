/-! ROCKS TOLD (the class) -/
/-- ROCKS of the class from number c on -/
def rkL (h : aH) (c n : Nat) : List (Int × Int) := (List.range n).map fun j => (gi h 20 (c + j), gi h 21 (c + j))
theorem rkL_l (h : aH) (c n : Nat) : (rkL h c n).length = n := by unfold rkL; rw [List.length_map, List.length_range]
theorem rkL_s {h h' : aH} {c n : Nat} {a b : Int} (h1 : gi h' 20 (c + n) = a) (h2 : gi h' 21 (c + n) = b) (h3 : ∀ j, j < c + n → gi h' 20 j = gi h 20 j ∧ gi h' 21 j = gi h 21 j) : rkL h' c (n + 1) = rkL h c n ++ [(a, b)] := by
  unfold rkL
  rw [List.range_succ, List.map_append, List.map_cons, List.map_nil, h1, h2]
  congr 1
  exact List.map_congr_left fun j hj => by have := List.mem_range.mp hj; rw [(h3 (c + j) (by omega)).1, (h3 (c + j) (by omega)).2]
theorem rkL_eq {h h' : aH} {c n : Nat} (h3 : ∀ j, j < c + n → gi h' 20 j = gi h 20 j ∧ gi h' 21 j = gi h 21 j) : rkL h' c n = rkL h c n := by
  unfold rkL
  exact List.map_congr_left fun j hj => by have := List.mem_range.mp hj; rw [(h3 (c + j) (by omega)).1, (h3 (c + j) (by omega)).2]
theorem fltF_ne {n most : Int} {r : Bool × Int} (hm : 0 ≤ most) (h0 : 0 ≤ r.2) (h : r.1 = false) : fltF n most r ≠ 0 := fun z => by
  have := (fltF_0 hm h0 z).1
  rw [h] at this
  cases this
theorem fltF_nq {n most : Int} {r : Bool × Int} (hm : 0 ≤ most) (h0 : 0 ≤ r.2) (h : r.2 ≠ min n most) : fltF n most r ≠ 0 := fun z => h (fltF_0 hm h0 z).2
theorem fltF_of {n most p : Int} (hm : 0 ≤ most) (h : p = min n most) : fltF n most (true, p) = 0 ↔ ¬ most < n := by
  unfold fltF
  by_cases d : most < n
  · rw [if_pos ⟨d, Or.inl ⟨rfl, h⟩⟩]; omega
  · rw [if_neg (fun z => d z.1), if_pos ⟨rfl, h⟩]; omega
set_option maxRecDepth 4000 in
theorem ctX2_readFrom {SP : CT} (hSP : MONO SP) {sh : List (Nat × Nat)} {h : aH} (hG : GD gE gRL sh h) {n : Int} (h12 : gi h 1 2 = 0) (h13 : gi h 1 3 = min n 76) (h14 : gi h 1 4 = if 76 < n then 1 else 0) (hn : 0 ≤ n ∧ n ≤ 80) : CLd SP 4 mX2_readFrom [.ref 19, .ref 1] h 0 0 (fun rv h' => (∃ e : Int, rv = some (.int (I e)) ∧ (-1 ≤ e ∧ e ≤ 76) ∧ (e = -1 ↔ fltF n 76 (rdRs (fx h) (16 - gi h 19 0).toNat 0).1 = 0)) ∧ GD gE gRL sh h' ∧ FRM gRL [(0, 1, 2, 2), (0, 1, 5, 5), (0, 13, 0, 0), (0, 14, 0, 15), (0, 15, 0, 15)] h h' ∧ (fltF n 76 (rdRs (fx h) (16 - gi h 19 0).toNat 0).1 = 0 → gi h' 19 0 = gi h 19 0 + ((rdRs (fx h) (16 - gi h 19 0).toNat 0).2.length : Nat) ∧ rkL h' (gi h 19 0).toNat (rdRs (fx h) (16 - gi h 19 0).toNat 0).2.length = (rdRs (fx h) (16 - gi h 19 0).toNat 0).2) ∧ (fltF n 76 (rdRs (fx h) (16 - gi h 19 0).toNat 0).1 ≠ 0 → gi h' 19 0 = gi h 19 0) ∧ ∀ j : Nat, (j : Int) < gi h 19 0 → gi h' 20 j = gi h 20 j ∧ gi h' 21 j = gi h 21 j) := by
  refine x_met _ rfl (Nat.le_of_ble_eq_true rfl) (fun K hK => ?_)
  have hmono := MONO_CLd hSP 3
  have gc := gri 0 16 hG (a := 19) (r := 13) (k := 0) rfl rfl
  obtain ⟨c, hc⟩ : ∃ c, gi h 19 0 = c := ⟨_, rfl⟩
  rw [hc] at gc hK
  have fe0 : ∀ a, min n 76 ≤ a → fx h a = -1 := fun a ha => fx_end h a (by rw [h13]; exact ha)
  obtain ⟨RR, hRR⟩ : ∃ RR, rdRs (fx h) (16 - c).toNat 0 = RR := ⟨_, rfl⟩
  have rb := rdRs_b fe0 (16 - c).toNat 0 (by omega)
  rw [hRR] at rb hK
  have rb0 := rb.1
  have loop : ∀ (mz : Nat) (m i p : Int) (h4 : aH) (ls : List (Nat × Value)), ((17 - i).toNat = mz) → (0 ≤ i ∧ i ≤ 16) → (m = c + i ∧ m ≤ 16) → (0 ≤ p ∧ p ≤ min n 76) → (gi h4 1 2 = p) → (gi h4 19 0 = c) → (RR.1 = (rdRs (fx h) (16 - c - i).toNat p).1) → (RR.2 = rkL h4 c.toNat i.toNat ++ (rdRs (fx h) (16 - c - i).toNat p).2) → (∀ j : Nat, (j : Int) < c → gi h4 20 j = gi h 20 j ∧ gi h4 21 j = gi h 21 j) → lk ls 0 = some (.ref 19) → lk ls 1 = some (.ref 1) → lk ls 2 = some (.int (I m)) → lk ls 3 = some (.int (I i)) → GD gE gRL sh h4 → FRM gRL [(0, 1, 2, 2), (0, 1, 5, 5), (0, 13, 0, 0), (0, 14, 0, 15), (0, 15, 0, 15)] h h4 → K 7 ls [] h4 0 0 := by
    intro mz
    induction mz using Nat.strongRecOn with
    | ind mz ih =>
    intro m i p h4 ls hm i0 m0 p0 d2 d3 e1 e2 ol l0 l1 l2 l3 hG4 hF4
    have s3 : gi h4 1 3 = min n 76 := (FRM_gi hF4 (r := 1) rfl rfl).trans h13
    have s4 : gi h4 1 4 = (if 76 < n then (1 : Int) else 0) := (FRM_gi hF4 (r := 1) rfl rfl).trans h14
    have sF : fx h4 = fx h := fx_F hF4 rfl rfl
    refine x_iload_n 8 hK rfl rfl l3 ?_
    refine x_bipush 10 hK rfl rfl rfl ?_
    refine x_if_icmp_gt 155 13 hK rfl rfl rfl (by omega) (by omega) (fun c3 => ?_) (fun c3 => ?_)
    · exfalso
      omega
    · refine x_iload_n 14 hK rfl rfl l2 ?_
      refine x_bipush 16 hK rfl rfl rfl ?_
      refine x_if_icmp_lt 24 19 hK rfl rfl rfl (by omega) (by omega) (fun c7 => ?_) (fun c7 => ?_)
      · refine x_aload_n 25 hK rfl rfl l1 ?_
        refine x_iconst 26 hK rfl rfl ?_
        have at292 : gi h4 1 2 = p := d2
        have fe292 : fx h4 = (fx h) := fx_F hF4 rfl rfl
        have to292 : gi h4 1 3 = (min n 76) := s3
        have mo292 : gi h4 1 4 = (if 76 < n then (1 : Int) else 0) := s4
        refine x_callV 29 hK hmono rfl rfl [.ref 1, .int (I 3)] [] rfl rfl (Nat.le_of_ble_eq_true rfl) (Nat.le_of_ble_eq_true rfl) rfl (sp_1 (h := h4) hG4) (CLd_le (Nat.le_of_ble_eq_true rfl) (ctX9_takeNumber hSP hG4 (n := 3) (by omega))) ?_
        rw [fe292, at292, to292, mo292]
        rintro v292 h292 ⟨⟨e292, rfl, nu292, ne292⟩, hG292, hF292, np292, nc292, nd292⟩
        have nm292 : nmF (fx h) 3 p = (e292, gi h292 1 2) := by rw [nu292, np292]; rfl
        have nb292 : p ≤ gi h292 1 2 ∧ gi h292 1 2 ≤ (min n 76) := by rw [np292]; exact ⟨(tkv_lb _ _ _ _).1, tkv_sp fe0 _ _ _ (by first | omega | (have q := fe0 p; omega))⟩
        have nz292 : 0 ≤ e292 → p < gi h292 1 2 := fun z => by have := nmF_n (f := (fx h)) (n := 3) (p := p) (by rw [nm292]; exact z); rw [nm292] at this; exact this
        have ny292 : e292 = -1 → gi h292 1 2 = p := fun z => by
          rw [np292]
          by_cases c : (tkv (fx h) (Int.toNat 3) p 0).2 = p
          · exact c
          · rw [if_neg c] at nu292
            have := tkv_nn (f := (fx h)) (Int.toNat 3) p 0 (by omega)
            omega
        clear nu292 np292
        generalize eq292 : gi h292 1 2 = p292 at *
        refine x_istore 31 hK rfl rfl _ rfl ?_
        refine x_iload 33 hK rfl rfl lk1_s ?_
        refine x_if_ne 50 36 hK rfl rfl rfl (by omega) (fun c13 => ?_) (fun c13 => ?_)
        · refine x_iload 52 hK rfl rfl lk1_s ?_
          refine x_iconst 53 hK rfl rfl ?_
          refine x_if_icmp_eq 65 56 hK rfl rfl rfl (by omega) (by omega) (fun c16 => ?_) (fun c16 => ?_)
          · refine x_aload_n 66 hK rfl rfl (lk1_n l1 (by decide) (Or.inl rfl)) ?_
            refine x_getE 69 hK rfl (Or.inl rfl) rfl (sp_1 (h := h292) hG292) (e := p292) (eq292) ?_
            obtain ⟨q, hq⟩ : ∃ q : Nat, (16 - c - i).toNat = q + 1 := ⟨(16 - c - i).toNat - 1, by omega⟩
            rw [hq] at e1 e2
            unfold rdRs at e1 e2
            have ni : nmI (fx h) 3 1 999 p = (e292, p292) := by unfold nmI; rw [nm292, if_pos (show e292 < 0 by omega)]
            have er : rdRock (fx h) p = ((false, p292), 0, 0) := by
              unfold rdRock
              rw [ni, if_pos (show e292 < 0 by omega)]
            rw [er, if_neg (show ¬ false = true by decide)] at e1 e2
            have f9 : fltF n 76 RR.1 ≠ 0 := by rw [e1]; exact fltF_ne (by omega) (by show 0 ≤ p292; omega) rfl
            exact x_iret hK rfl ⟨⟨p292, rfl, by omega, ⟨fun z => by omega, fun z => absurd z f9⟩⟩, hG292, (hF4).trans ((hF292).mono rfl), fun z => absurd z f9, fun _ => (FRM_gi hF292 (r := 13) rfl rfl).trans (d3), (fun j hj => ⟨(FRM_gi hF292 (r := 14) rfl rfl).trans (ol j hj).1, (FRM_gi hF292 (r := 15) rfl rfl).trans (ol j hj).2⟩)⟩
          · refine x_aload_n 57 hK rfl rfl (lk1_n l1 (by decide) (Or.inl rfl)) ?_
            refine x_bipush 59 hK rfl rfl rfl ?_
            have at293 : gi h292 1 2 = p292 := eq292
            have fe293 : fx h292 = (fx h) := (fx_F hF292 rfl rfl).trans (fx_F hF4 rfl rfl)
            refine x_callV 62 hK hmono rfl rfl [.ref 1, .int (I 44)] [] rfl rfl (Nat.le_of_ble_eq_true rfl) (Nat.le_of_ble_eq_true rfl) rfl (sp_1 (h := h292) hG292) (CLd_le (Nat.le_of_ble_eq_true rfl) (ctX9_take hSP hG292 (s := 44) (by omega) (by omega))) ?_
            rw [fe293, at293]
            rintro v293 h293 ⟨hG293, hF293, ⟨rfl, tk293, eq293⟩ | ⟨rfl, tk293, eq293⟩⟩
            · refine x_if_ne 70 65 hK rfl rfl rfl (by omega) (fun _ => ?_) (fun c => by omega)
              refine x_aload_n 71 hK rfl rfl (lk1_n l1 (by decide) (Or.inl rfl)) ?_
              have at294 : gi h293 1 2 = (p292 + 1) := eq293
              have fe294 : fx h293 = (fx h) := (fx_F hF293 rfl rfl).trans ((fx_F hF292 rfl rfl).trans (fx_F hF4 rfl rfl))
              refine x_callV 74 hK hmono rfl rfl [.ref 1] [] rfl rfl (Nat.le_of_ble_eq_true rfl) (Nat.le_of_ble_eq_true rfl) rfl (sp_1 (h := h293) hG293) (CLd_le (Nat.le_of_ble_eq_true rfl) (ctX9_next hSP hG293)) ?_
              rw [fe294, at294]
              rintro v9 h9 ⟨e9, rfl⟩
              rw [e9]
              clear e9
              have fr294 := fx_r hG (p292 + 1)
              refine x_bipush 76 hK rfl rfl rfl ?_
              refine x_isub 77 hK rfl rfl ?_
              refine x_istore 79 hK rfl rfl _ rfl ?_
              refine x_iload 81 hK rfl rfl lk1_s ?_
              refine x_if_lt 91 84 hK rfl rfl rfl (by omega) (fun c30 => ?_) (fun c30 => ?_)
              · refine x_aload_n 92 hK rfl rfl (lk1_n (lk1_n l1 (by decide) (Or.inl rfl)) (by decide) (Or.inl rfl)) ?_
                refine x_getE 95 hK rfl (Or.inl rfl) rfl (sp_1 (h := h293) hG293) (e := (p292 + 1)) (eq293) ?_
                have m0 : e292 ≠ 0 := fun z => by have := fe0 p292 (by omega); omega
                have ltc : p292 < min n 76 := by
                  by_cases z : min n 76 ≤ p292
                  · have := fe0 p292 z; omega
                  · omega
                obtain ⟨q, hq⟩ : ∃ q : Nat, (16 - c - i).toNat = q + 1 := ⟨(16 - c - i).toNat - 1, by omega⟩
                rw [hq] at e1 e2
                unfold rdRs at e1 e2
                have ni : nmI (fx h) 3 1 999 p = (e292, p292) := by unfold nmI; rw [nm292, if_neg (show ¬ e292 < 0 by omega), if_pos (show 1 ≤ e292 ∧ e292 ≤ 999 by omega)]
                have er : rdRock (fx h) p = ((false, p292 + 1), 0, 0) := by
                  unfold rdRock
                  rw [ni, if_neg (show ¬ e292 < 0 by omega), if_neg (show ¬ fx h p292 ≠ 44 by omega)]
                  rw [rk_l, if_neg (show ¬ (48 ≤ fx h (p292 + 1) ∧ fx h (p292 + 1) ≤ 56) by omega), if_pos (by decide)]
                rw [er, if_neg (show ¬ false = true by decide)] at e1 e2
                have f9 : fltF n 76 RR.1 ≠ 0 := by rw [e1]; exact fltF_ne (by omega) (by show 0 ≤ (p292 + 1); omega) rfl
                exact x_iret hK rfl ⟨⟨(p292 + 1), rfl, by omega, ⟨fun z => by omega, fun z => absurd z f9⟩⟩, hG293, ((hF4).trans ((hF292).mono rfl)).trans ((hF293).mono rfl), fun z => absurd z f9, fun _ => (FRM_gi hF293 (r := 13) rfl rfl).trans ((FRM_gi hF292 (r := 13) rfl rfl).trans (d3)), (fun j hj => ⟨((FRM_gi hF293 (r := 14) rfl rfl).trans (FRM_gi hF292 (r := 14) rfl rfl)).trans (ol j hj).1, ((FRM_gi hF293 (r := 15) rfl rfl).trans (FRM_gi hF292 (r := 15) rfl rfl)).trans (ol j hj).2⟩)⟩
              · refine x_iload 86 hK rfl rfl lk1_s ?_
                refine x_bipush 88 hK rfl rfl rfl ?_
                refine x_if_icmp_le 96 91 hK rfl rfl rfl (by omega) (by omega) (fun c36 => ?_) (fun c36 => ?_)
                · refine x_aload_n 97 hK rfl rfl (lk1_n (lk1_n l1 (by decide) (Or.inl rfl)) (by decide) (Or.inl rfl)) ?_
                  refine x_dup 98 hK rfl rfl rfl ?_
                  refine x_getE 101 hK rfl (Or.inl rfl) rfl (sp_1 (h := h293) hG293) (e := (p292 + 1)) (eq293) ?_
                  refine x_iconst 102 hK rfl rfl ?_
                  refine x_iadd 103 hK rfl rfl ?_
                  refine x_putI 106 hK rfl rfl (sp_1 (h := h293) hG293) ?_
                  refine x_aload_n 107 hK rfl rfl (lk1_n (lk1_n l0 (by decide) (Or.inl rfl)) (by decide) (Or.inl rfl)) ?_
                  refine x_getR 110 hK rfl rfl (sp_19 (h := h293) hG293) (rf_19_1 (h := h293) hG293) ?_
                  refine x_iload_n 111 hK rfl rfl (lk1_n (lk1_n l2 (by decide) (Or.inl rfl)) (by decide) (Or.inl rfl)) ?_
                  refine x_iload 113 hK rfl rfl (lk1_n lk1_s (by decide) (Or.inl rfl)) ?_
                  refine x_iastore 114 hK rfl rfl (sp_20 (h := h293) hG293) (by omega) (by omega) (by omega) ?_
                  refine x_aload_n 115 hK rfl rfl (lk1_n (lk1_n l0 (by decide) (Or.inl rfl)) (by decide) (Or.inl rfl)) ?_
                  refine x_getR 118 hK rfl rfl (sp_19 (h := h293) hG293) (rf_19_2 (h := h293) hG293) ?_
                  refine x_iload_n 119 hK rfl rfl (lk1_n (lk1_n l2 (by decide) (Or.inl rfl)) (by decide) (Or.inl rfl)) ?_
                  refine x_iload 121 hK rfl rfl lk1_s ?_
                  refine x_iastore 122 hK rfl rfl (sp_21 (h := h293) hG293) (by omega) (by omega) (by omega) ?_
                  have m0 : e292 ≠ 0 := fun z => by have := fe0 p292 (by omega); omega
                  obtain ⟨q, hq⟩ : ∃ q : Nat, (16 - c - i).toNat = q + 1 := ⟨(16 - c - i).toNat - 1, by omega⟩
                  rw [hq] at e1 e2
                  unfold rdRs at e1 e2
                  have ni : nmI (fx h) 3 1 999 p = (e292, p292) := by unfold nmI; rw [nm292, if_neg (show ¬ e292 < 0 by omega), if_pos (show 1 ≤ e292 ∧ e292 ≤ 999 by omega)]
                  have er : rdRock (fx h) p = ((true, p292 + 2), e292, fx h (p292 + 1) - 48) := by
                    unfold rdRock
                    rw [ni, if_neg (show ¬ e292 < 0 by omega), if_neg (show ¬ fx h p292 ≠ 44 by omega)]
                    rw [rk_l, if_pos (show 48 ≤ fx h (p292 + 1) ∧ fx h (p292 + 1) ≤ 56 by omega), if_neg (by omega)]
                  rw [er, if_pos (show true = true from rfl)] at e1 e2
                  have lt2 : p292 + 2 ≤ min n 76 := by
                    by_cases z : min n 76 ≤ p292 + 1
                    · have := fe0 (p292 + 1) z; omega
                    · omega
                  have yr : rkL (wI (wI (wI h293 1 2 ((p292 + 1) + 1)) 20 m.toNat e292) 21 m.toNat (((fx h) (p292 + 1)) - 48)) c.toNat (i + 1).toNat = rkL h4 c.toNat i.toNat ++ [(e292, fx h (p292 + 1) - 48)] := by
                    rw [tn_s i0.1]
                    exact rkL_s ((gi_to (show c.toNat + i.toNat = m.toNat by omega)).trans ((gi_a (by decide) _).trans (gi_same (by omega)))) ((gi_to (show c.toNat + i.toNat = m.toNat by omega)).trans (gi_same (by omega))) fun j hj => ⟨(gi_a (by decide) _).trans ((gi_k (by omega) _).trans ((gi_a (by decide) _).trans ((FRM_gi hF293 (r := 14) rfl rfl).trans (FRM_gi hF292 (r := 14) rfl rfl)))), (gi_k (by omega) _).trans ((gi_a (by decide) _).trans ((gi_a (by decide) _).trans ((FRM_gi hF293 (r := 15) rfl rfl).trans (FRM_gi hF292 (r := 15) rfl rfl))))⟩
                  refine x_iinc 125 hK rfl rfl (lk1_n (lk1_n l2 (by decide) (Or.inl rfl)) (by decide) (Or.inl rfl)) _ rfl ?_
                  refine x_aload_n 126 hK rfl rfl (lk1_n (lk1_n (lk1_n l1 (by decide) (Or.inl rfl)) (by decide) (Or.inl rfl)) (by decide) (Or.inl rfl)) ?_
                  have hGp295 : GD gE gRL sh (wI (wI (wI h293 1 2 ((p292 + 1) + 1)) 20 m.toNat e292) 21 m.toNat (((fx h) (p292 + 1)) - 48)) := GD_wu (GD_wn (GD_w0 (hG293) (r := 1) rfl rfl) (r := 14) rfl rfl) (r := 15) rfl (by omega) rfl (by omega) (by omega)
                  have at296 : gi (wI (wI (wI h293 1 2 ((p292 + 1) + 1)) 20 m.toNat e292) 21 m.toNat (((fx h) (p292 + 1)) - 48)) 1 2 = ((p292 + 1) + 1) := (gi_a (by decide) _).trans ((gi_a (by decide) _).trans (gi_same (by omega)))
                  have to296 : gi (wI (wI (wI h293 1 2 ((p292 + 1) + 1)) 20 m.toNat e292) 21 m.toNat (((fx h) (p292 + 1)) - 48)) 1 3 = (min n 76) := (gi_a (by decide) _).trans ((gi_a (by decide) _).trans ((gi_k (by decide) _).trans ((FRM_gi hF293 (r := 1) rfl rfl).trans ((FRM_gi hF292 (r := 1) rfl rfl).trans (s3)))))
                  refine x_callV 129 hK hmono rfl rfl [.ref 1] [] rfl rfl (Nat.le_of_ble_eq_true rfl) (Nat.le_of_ble_eq_true rfl) rfl (sp_1 (h := h293) hG293) (CLd_le (Nat.le_of_ble_eq_true rfl) (ctX9_ended hSP hGp295)) ?_
                  rw [at296, to296]
                  rintro v9 h9 ⟨e9, ⟨rfl, en296⟩ | ⟨rfl, en296⟩⟩ <;> rw [e9] <;> clear e9
                  · refine x_if_eq 135 132 hK rfl rfl rfl (by omega) (fun c => by omega) (fun _ => ?_)
                    refine x_goto 155 hK rfl rfl ?_
                    rw [if_neg (show ¬ fx h (p292 + 2) = 59 by rw [fe0 (p292 + 2) (by omega)]; decide)] at e1 e2
                    have yq : rkL (wI (wI (wI h293 1 2 ((p292 + 1) + 1)) 20 m.toNat e292) 21 m.toNat (((fx h) (p292 + 1)) - 48)) c.toNat (i + 1).toNat = rkL (wI (wI (wI h293 1 2 ((p292 + 1) + 1)) 20 m.toNat e292) 21 m.toNat (((fx h) (p292 + 1)) - 48)) c.toNat (i + 1).toNat := rkL_eq fun j hj => ⟨rfl, rfl⟩
                    have e3 : RR.2 = rkL (wI (wI (wI h293 1 2 ((p292 + 1) + 1)) 20 m.toNat e292) 21 m.toNat (((fx h) (p292 + 1)) - 48)) c.toNat (i + 1).toNat := by rw [e2, yq, yr]
                    have ln : (RR.2.length : Nat) = (i + 1).toNat := by rw [e3, rkL_l]
                    have fo := fltF_of (n := n) (most := 76) (p := p292 + 2) (by omega) (by omega)
                    have fr : fltF n 76 RR.1 = 0 ↔ ¬ 76 < n := by rw [e1]; exact fo
                    refine x_aload_n 156 hK rfl rfl (lk1_n (lk1_n (lk1_n l1 (by decide) (Or.inl rfl)) (by decide) (Or.inl rfl)) (by decide) (Or.inl rfl)) ?_
                    have hGp297 : GD gE gRL sh (wI (wI (wI h293 1 2 ((p292 + 1) + 1)) 20 m.toNat e292) 21 m.toNat (((fx h) (p292 + 1)) - 48)) := GD_wu (GD_wn (GD_w0 (hG293) (r := 1) rfl rfl) (r := 14) rfl rfl) (r := 15) rfl (by omega) rfl (by omega) (by omega)
                    have to298 : gi (wI (wI (wI h293 1 2 ((p292 + 1) + 1)) 20 m.toNat e292) 21 m.toNat (((fx h) (p292 + 1)) - 48)) 1 3 = (min n 76) := (gi_a (by decide) _).trans ((gi_a (by decide) _).trans ((gi_k (by decide) _).trans ((FRM_gi hF293 (r := 1) rfl rfl).trans ((FRM_gi hF292 (r := 1) rfl rfl).trans (s3)))))
                    have mo298 : gi (wI (wI (wI h293 1 2 ((p292 + 1) + 1)) 20 m.toNat e292) 21 m.toNat (((fx h) (p292 + 1)) - 48)) 1 4 = (if 76 < n then (1 : Int) else 0) := (gi_a (by decide) _).trans ((gi_a (by decide) _).trans ((gi_k (by decide) _).trans ((FRM_gi hF293 (r := 1) rfl rfl).trans ((FRM_gi hF292 (r := 1) rfl rfl).trans (s4)))))
                    refine x_callV 159 hK hmono rfl rfl [.ref 1] [] rfl rfl (Nat.le_of_ble_eq_true rfl) (Nat.le_of_ble_eq_true rfl) rfl (sp_1 (h := h293) hG293) (CLd_le (Nat.le_of_ble_eq_true rfl) (ctX9_faultAtEnd hSP hGp297)) ?_
                    rw [to298, mo298]
                    rintro v9 h9 ⟨e9, rfl⟩
                    rw [e9]
                    clear e9
                    refine x_istore_n 160 hK rfl rfl _ rfl ?_
                    refine x_aload_n 161 hK rfl rfl (lk1_n (lk1_n (lk1_n (lk1_n l0 (by decide) (Or.inl rfl)) (by decide) (Or.inl rfl)) (by decide) (Or.inl rfl)) (by decide) (Or.inl rfl)) ?_
                    refine x_iload_n 162 hK rfl rfl lk1_s ?_
                    refine x_iconst 163 hK rfl rfl ?_
                    refine x_if_icmp_ne 170 166 hK rfl rfl rfl (by omega) (by omega) (fun c66 => ?_) (fun c66 => ?_)
                    · refine x_aload_n 171 hK rfl rfl (lk1_n (lk1_n (lk1_n (lk1_n l0 (by decide) (Or.inl rfl)) (by decide) (Or.inl rfl)) (by decide) (Or.inl rfl)) (by decide) (Or.inl rfl)) ?_
                      refine x_getE 174 hK rfl (Or.inl rfl) rfl (sp_19 (h := h293) hG293) (e := c) ((gi_a (by decide) _).trans ((gi_a (by decide) _).trans ((gi_a (by decide) _).trans ((FRM_gi hF293 (r := 13) rfl rfl).trans ((FRM_gi hF292 (r := 13) rfl rfl).trans (d3)))))) ?_
                      refine x_putI 177 hK rfl rfl (sp_19 (h := h293) hG293) ?_
                      refine x_iload_n 178 hK rfl rfl lk1_s ?_
                      have e9 : (-1 ≤ (if (if 76 < n then (1 : Int) else 0) = 1 then (min n 76) else -1) ∧ (if (if 76 < n then (1 : Int) else 0) = 1 then (min n 76) else -1) ≤ 76) ∧ ((if (if 76 < n then (1 : Int) else 0) = 1 then (min n 76) else -1) = -1 ↔ fltF n 76 RR.1 = 0) := by rw [fr]; (repeat' split) <;> omega
                      have yz : rkL (wI (wI (wI (wI h293 1 2 ((p292 + 1) + 1)) 20 m.toNat e292) 21 m.toNat (((fx h) (p292 + 1)) - 48)) 19 0 c) c.toNat RR.2.length = RR.2 := by
                        rw [ln, e3]
                        exact rkL_eq fun j hj => ⟨gi_a (by decide) _, gi_a (by decide) _⟩
                      have f9 : fltF n 76 RR.1 ≠ 0 := fun z => by have := e9.2.mpr z; omega
                      exact x_iret hK rfl ⟨⟨(if (if 76 < n then (1 : Int) else 0) = 1 then (min n 76) else -1), rfl, e9.1, e9.2⟩, GD_w1 (GD_wu (GD_wn (GD_w0 (hG293) (r := 1) rfl rfl) (r := 14) rfl rfl) (r := 15) rfl (by omega) rfl (by omega) (by omega)) (r := 13) rfl (by omega) rfl (by omega) (by omega), FRM_w (FRM_wn 0 15 (FRM_wn 0 15 (FRM_w (((hF4).trans ((hF292).mono rfl)).trans ((hF293).mono rfl)) (r := 1) rfl rfl) (r := 14) rfl rfl rfl (by omega) (by omega)) (r := 15) rfl rfl rfl (by omega) (by omega)) (r := 13) rfl rfl, fun z => absurd z f9, fun _ => gi_same (by omega), (fun j hj => ⟨((gi_a (by decide) _).trans ((gi_a (by decide) _).trans ((gi_k (by omega) _).trans ((gi_a (by decide) _).trans ((FRM_gi hF293 (r := 14) rfl rfl).trans (FRM_gi hF292 (r := 14) rfl rfl)))))).trans (ol j hj).1, ((gi_a (by decide) _).trans ((gi_k (by omega) _).trans ((gi_a (by decide) _).trans ((gi_a (by decide) _).trans ((FRM_gi hF293 (r := 15) rfl rfl).trans (FRM_gi hF292 (r := 15) rfl rfl)))))).trans (ol j hj).2⟩)⟩
                    · refine x_iload_n 167 hK rfl rfl (lk1_n lk1_s (by decide) (Or.inl rfl)) ?_
                      refine x_goto 174 hK rfl rfl ?_
                      refine x_putI 177 hK rfl rfl (sp_19 (h := h293) hG293) ?_
                      refine x_iload_n 178 hK rfl rfl lk1_s ?_
                      have e9 : (-1 ≤ (if (if 76 < n then (1 : Int) else 0) = 1 then (min n 76) else -1) ∧ (if (if 76 < n then (1 : Int) else 0) = 1 then (min n 76) else -1) ≤ 76) ∧ ((if (if 76 < n then (1 : Int) else 0) = 1 then (min n 76) else -1) = -1 ↔ fltF n 76 RR.1 = 0) := by rw [fr]; (repeat' split) <;> omega
                      have yz : rkL (wI (wI (wI (wI h293 1 2 ((p292 + 1) + 1)) 20 m.toNat e292) 21 m.toNat (((fx h) (p292 + 1)) - 48)) 19 0 (m + 1)) c.toNat RR.2.length = RR.2 := by
                        rw [ln, e3]
                        exact rkL_eq fun j hj => ⟨gi_a (by decide) _, gi_a (by decide) _⟩
                      have f9 : fltF n 76 RR.1 = 0 := e9.2.mp (by omega)
                      exact x_iret hK rfl ⟨⟨(if (if 76 < n then (1 : Int) else 0) = 1 then (min n 76) else -1), rfl, e9.1, e9.2⟩, GD_w1 (GD_wu (GD_wn (GD_w0 (hG293) (r := 1) rfl rfl) (r := 14) rfl rfl) (r := 15) rfl (by omega) rfl (by omega) (by omega)) (r := 13) rfl (by omega) rfl (by omega) (by omega), FRM_w (FRM_wn 0 15 (FRM_wn 0 15 (FRM_w (((hF4).trans ((hF292).mono rfl)).trans ((hF293).mono rfl)) (r := 1) rfl rfl) (r := 14) rfl rfl rfl (by omega) (by omega)) (r := 15) rfl rfl rfl (by omega) (by omega)) (r := 13) rfl rfl, fun _ => ⟨(gi_same (by omega)).trans (by omega), yz⟩, fun z => absurd f9 z, (fun j hj => ⟨((gi_a (by decide) _).trans ((gi_a (by decide) _).trans ((gi_k (by omega) _).trans ((gi_a (by decide) _).trans ((FRM_gi hF293 (r := 14) rfl rfl).trans (FRM_gi hF292 (r := 14) rfl rfl)))))).trans (ol j hj).1, ((gi_a (by decide) _).trans ((gi_k (by omega) _).trans ((gi_a (by decide) _).trans ((gi_a (by decide) _).trans ((FRM_gi hF293 (r := 15) rfl rfl).trans (FRM_gi hF292 (r := 15) rfl rfl)))))).trans (ol j hj).2⟩)⟩
                  · refine x_if_eq 135 132 hK rfl rfl rfl (by omega) (fun _ => ?_) (fun c => by omega)
                    refine x_aload_n 136 hK rfl rfl (lk1_n (lk1_n (lk1_n l1 (by decide) (Or.inl rfl)) (by decide) (Or.inl rfl)) (by decide) (Or.inl rfl)) ?_
                    refine x_bipush 138 hK rfl rfl rfl ?_
                    have hGp300 : GD gE gRL sh (wI (wI (wI h293 1 2 ((p292 + 1) + 1)) 20 m.toNat e292) 21 m.toNat (((fx h) (p292 + 1)) - 48)) := GD_wu (GD_wn (GD_w0 (hG293) (r := 1) rfl rfl) (r := 14) rfl rfl) (r := 15) rfl (by omega) rfl (by omega) (by omega)
                    have at299 : gi (wI (wI (wI h293 1 2 ((p292 + 1) + 1)) 20 m.toNat e292) 21 m.toNat (((fx h) (p292 + 1)) - 48)) 1 2 = ((p292 + 1) + 1) := (gi_a (by decide) _).trans ((gi_a (by decide) _).trans (gi_same (by omega)))
                    have fe299 : fx (wI (wI (wI h293 1 2 ((p292 + 1) + 1)) 20 m.toNat e292) 21 m.toNat (((fx h) (p292 + 1)) - 48)) = (fx h) := (fx_wI (by decide) (Or.inl (by decide))).trans ((fx_wI (by decide) (Or.inl (by decide))).trans ((fx_wI (by decide) (Or.inr (by decide))).trans ((fx_F hF293 rfl rfl).trans ((fx_F hF292 rfl rfl).trans (fx_F hF4 rfl rfl)))))
                    refine x_callV 141 hK hmono rfl rfl [.ref 1, .int (I 59)] [] rfl rfl (Nat.le_of_ble_eq_true rfl) (Nat.le_of_ble_eq_true rfl) rfl (sp_1 (h := h293) hG293) (CLd_le (Nat.le_of_ble_eq_true rfl) (ctX9_take hSP hGp300 (s := 59) (by omega) (by omega))) ?_
                    rw [fe299, at299]
                    rintro v299 h299 ⟨hG299, hF299, ⟨rfl, tk299, eq299⟩ | ⟨rfl, tk299, eq299⟩⟩
                    · refine x_if_ne 149 144 hK rfl rfl rfl (by omega) (fun _ => ?_) (fun c => by omega)
                      refine x_iinc 152 hK rfl rfl (lk1_n (lk1_n (lk1_n l3 (by decide) (Or.inl rfl)) (by decide) (Or.inl rfl)) (by decide) (Or.inl rfl)) _ rfl ?_
                      refine x_goto 7 hK rfl rfl ?_
                      have lt3 : p292 + 2 < min n 76 := by
                        by_cases z : min n 76 ≤ p292 + 1 + 1
                        · have := fe0 (p292 + 1 + 1) z; omega
                        · omega
                      rw [if_pos (show fx h (p292 + 2) = 59 by rw [show p292 + 2 = p292 + 1 + 1 by omega]; omega)] at e1 e2
                      have yq : rkL h299 c.toNat (i + 1).toNat = rkL (wI (wI (wI h293 1 2 ((p292 + 1) + 1)) 20 m.toNat e292) 21 m.toNat (((fx h) (p292 + 1)) - 48)) c.toNat (i + 1).toNat := rkL_eq fun j hj => ⟨FRM_gi hF299 (r := 14) rfl rfl, FRM_gi hF299 (r := 15) rfl rfl⟩
                      exact ih _ (by omega) (m + 1) (i + 1) (p292 + 1 + 1 + 1) _ _ rfl (by omega) (by omega) (by omega) (eq299) ((FRM_gi hF299 (r := 13) rfl rfl).trans ((gi_a (by decide) _).trans ((gi_a (by decide) _).trans ((gi_a (by decide) _).trans ((FRM_gi hF293 (r := 13) rfl rfl).trans ((FRM_gi hF292 (r := 13) rfl rfl).trans (d3))))))) ((by rw [e1, show (16 - c - (i + 1)).toNat = q by omega, show p292 + 2 + 1 = p292 + 1 + 1 + 1 by omega])) ((by rw [e2, yq, yr, show (16 - c - (i + 1)).toNat = q by omega, show p292 + 2 + 1 = p292 + 1 + 1 + 1 by omega, List.append_assoc]; rfl)) ((fun j hj => ⟨((FRM_gi hF299 (r := 14) rfl rfl).trans ((gi_a (by decide) _).trans ((gi_k (by omega) _).trans ((gi_a (by decide) _).trans ((FRM_gi hF293 (r := 14) rfl rfl).trans (FRM_gi hF292 (r := 14) rfl rfl)))))).trans (ol j hj).1, ((FRM_gi hF299 (r := 15) rfl rfl).trans ((gi_k (by omega) _).trans ((gi_a (by decide) _).trans ((gi_a (by decide) _).trans ((FRM_gi hF293 (r := 15) rfl rfl).trans (FRM_gi hF292 (r := 15) rfl rfl)))))).trans (ol j hj).2⟩)) (lk1_n (lk1_n (lk1_n (lk1_n l0 (by decide) (Or.inl rfl)) (by decide) (Or.inl rfl)) (by decide) (Or.inl rfl)) (by decide) (Or.inl rfl)) (lk1_n (lk1_n (lk1_n (lk1_n l1 (by decide) (Or.inl rfl)) (by decide) (Or.inl rfl)) (by decide) (Or.inl rfl)) (by decide) (Or.inl rfl)) (lk1_n lk1_s (by decide) (Or.inl rfl)) lk1_s (hG299) ((FRM_wn 0 15 (FRM_wn 0 15 (FRM_w (((hF4).trans ((hF292).mono rfl)).trans ((hF293).mono rfl)) (r := 1) rfl rfl) (r := 14) rfl rfl rfl (by omega) (by omega)) (r := 15) rfl rfl rfl (by omega) (by omega)).trans ((hF299).mono rfl))
                    · refine x_if_ne 149 144 hK rfl rfl rfl (by omega) (fun c => by omega) (fun _ => ?_)
                      refine x_aload_n 145 hK rfl rfl (lk1_n (lk1_n (lk1_n l1 (by decide) (Or.inl rfl)) (by decide) (Or.inl rfl)) (by decide) (Or.inl rfl)) ?_
                      refine x_getE 148 hK rfl (Or.inl rfl) rfl (sp_1 (h := h299) hG299) (e := ((p292 + 1) + 1)) (eq299) ?_
                      rw [if_neg (show ¬ fx h (p292 + 2) = 59 by rw [show p292 + 2 = p292 + 1 + 1 by omega]; omega)] at e1 e2
                      have f9 : fltF n 76 RR.1 ≠ 0 := by rw [e1]; exact fltF_nq (by omega) (by show 0 ≤ (p292 + 2); omega) (by show (p292 + 2) ≠ _; omega)
                      exact x_iret hK rfl ⟨⟨((p292 + 1) + 1), rfl, by omega, ⟨fun z => by omega, fun z => absurd z f9⟩⟩, hG299, (FRM_wn 0 15 (FRM_wn 0 15 (FRM_w (((hF4).trans ((hF292).mono rfl)).trans ((hF293).mono rfl)) (r := 1) rfl rfl) (r := 14) rfl rfl rfl (by omega) (by omega)) (r := 15) rfl rfl rfl (by omega) (by omega)).trans ((hF299).mono rfl), fun z => absurd z f9, fun _ => (FRM_gi hF299 (r := 13) rfl rfl).trans ((gi_a (by decide) _).trans ((gi_a (by decide) _).trans ((gi_a (by decide) _).trans ((FRM_gi hF293 (r := 13) rfl rfl).trans ((FRM_gi hF292 (r := 13) rfl rfl).trans (d3)))))), (fun j hj => ⟨((FRM_gi hF299 (r := 14) rfl rfl).trans ((gi_a (by decide) _).trans ((gi_k (by omega) _).trans ((gi_a (by decide) _).trans ((FRM_gi hF293 (r := 14) rfl rfl).trans (FRM_gi hF292 (r := 14) rfl rfl)))))).trans (ol j hj).1, ((FRM_gi hF299 (r := 15) rfl rfl).trans ((gi_k (by omega) _).trans ((gi_a (by decide) _).trans ((gi_a (by decide) _).trans ((FRM_gi hF293 (r := 15) rfl rfl).trans (FRM_gi hF292 (r := 15) rfl rfl)))))).trans (ol j hj).2⟩)⟩
                · refine x_aload_n 92 hK rfl rfl (lk1_n (lk1_n l1 (by decide) (Or.inl rfl)) (by decide) (Or.inl rfl)) ?_
                  refine x_getE 95 hK rfl (Or.inl rfl) rfl (sp_1 (h := h293) hG293) (e := (p292 + 1)) (eq293) ?_
                  have m0 : e292 ≠ 0 := fun z => by have := fe0 p292 (by omega); omega
                  have ltc : p292 < min n 76 := by
                    by_cases z : min n 76 ≤ p292
                    · have := fe0 p292 z; omega
                    · omega
                  obtain ⟨q, hq⟩ : ∃ q : Nat, (16 - c - i).toNat = q + 1 := ⟨(16 - c - i).toNat - 1, by omega⟩
                  rw [hq] at e1 e2
                  unfold rdRs at e1 e2
                  have ni : nmI (fx h) 3 1 999 p = (e292, p292) := by unfold nmI; rw [nm292, if_neg (show ¬ e292 < 0 by omega), if_pos (show 1 ≤ e292 ∧ e292 ≤ 999 by omega)]
                  have er : rdRock (fx h) p = ((false, p292 + 1), 0, 0) := by
                    unfold rdRock
                    rw [ni, if_neg (show ¬ e292 < 0 by omega), if_neg (show ¬ fx h p292 ≠ 44 by omega)]
                    rw [rk_l, if_neg (show ¬ (48 ≤ fx h (p292 + 1) ∧ fx h (p292 + 1) ≤ 56) by omega), if_pos (by decide)]
                  rw [er, if_neg (show ¬ false = true by decide)] at e1 e2
                  have f9 : fltF n 76 RR.1 ≠ 0 := by rw [e1]; exact fltF_ne (by omega) (by show 0 ≤ (p292 + 1); omega) rfl
                  exact x_iret hK rfl ⟨⟨(p292 + 1), rfl, by omega, ⟨fun z => by omega, fun z => absurd z f9⟩⟩, hG293, ((hF4).trans ((hF292).mono rfl)).trans ((hF293).mono rfl), fun z => absurd z f9, fun _ => (FRM_gi hF293 (r := 13) rfl rfl).trans ((FRM_gi hF292 (r := 13) rfl rfl).trans (d3)), (fun j hj => ⟨((FRM_gi hF293 (r := 14) rfl rfl).trans (FRM_gi hF292 (r := 14) rfl rfl)).trans (ol j hj).1, ((FRM_gi hF293 (r := 15) rfl rfl).trans (FRM_gi hF292 (r := 15) rfl rfl)).trans (ol j hj).2⟩)⟩
            · refine x_if_ne 70 65 hK rfl rfl rfl (by omega) (fun c => by omega) (fun _ => ?_)
              refine x_aload_n 66 hK rfl rfl (lk1_n l1 (by decide) (Or.inl rfl)) ?_
              refine x_getE 69 hK rfl (Or.inl rfl) rfl (sp_1 (h := h293) hG293) (e := p292) (eq293) ?_
              obtain ⟨q, hq⟩ : ∃ q : Nat, (16 - c - i).toNat = q + 1 := ⟨(16 - c - i).toNat - 1, by omega⟩
              rw [hq] at e1 e2
              unfold rdRs at e1 e2
              have f9 : fltF n 76 RR.1 ≠ 0 := by
                by_cases c0 : e292 = 0
                · have ni : nmI (fx h) 3 1 999 p = (-1, p292 - 1) := by unfold nmI; rw [nm292, if_neg (show ¬ e292 < 0 by omega), if_neg (show ¬ (1 ≤ e292 ∧ e292 ≤ 999) by omega)]
                  have er : rdRock (fx h) p = ((false, p292 - 1), 0, 0) := by unfold rdRock; rw [ni, if_pos (show (-1 : Int) < 0 by decide)]
                  rw [er, if_neg (show ¬ false = true by decide)] at e1
                  rw [e1]; exact fltF_ne (by omega) (by show 0 ≤ p292 - 1; omega) rfl
                · have ni : nmI (fx h) 3 1 999 p = (e292, p292) := by unfold nmI; rw [nm292, if_neg (show ¬ e292 < 0 by omega), if_pos (show 1 ≤ e292 ∧ e292 ≤ 999 by omega)]
                  have er : rdRock (fx h) p = ((false, p292), 0, 0) := by unfold rdRock; rw [ni, if_neg (show ¬ e292 < 0 by omega), if_pos (show fx h p292 ≠ 44 by omega)]
                  rw [er, if_neg (show ¬ false = true by decide)] at e1
                  rw [e1]; exact fltF_ne (by omega) (by show 0 ≤ p292; omega) rfl
              exact x_iret hK rfl ⟨⟨p292, rfl, by omega, ⟨fun z => by omega, fun z => absurd z f9⟩⟩, hG293, ((hF4).trans ((hF292).mono rfl)).trans ((hF293).mono rfl), fun z => absurd z f9, fun _ => (FRM_gi hF293 (r := 13) rfl rfl).trans ((FRM_gi hF292 (r := 13) rfl rfl).trans (d3)), (fun j hj => ⟨((FRM_gi hF293 (r := 14) rfl rfl).trans (FRM_gi hF292 (r := 14) rfl rfl)).trans (ol j hj).1, ((FRM_gi hF293 (r := 15) rfl rfl).trans (FRM_gi hF292 (r := 15) rfl rfl)).trans (ol j hj).2⟩)⟩
        · refine x_aload_n 37 hK rfl rfl (lk1_n l1 (by decide) (Or.inl rfl)) ?_
          have g301 := gri (0) (1) hG292 (a := 1) (r := 1) (k := 5) rfl rfl
          refine x_getE 40 hK rfl (Or.inr rfl) rfl (sp_1 (h := h292) hG292) (e := (gi h292 1 5)) (rfl) ?_
          refine x_if_ne 50 43 hK rfl rfl rfl (by omega) (fun c98 => ?_) (fun c98 => ?_)
          · refine x_iload 52 hK rfl rfl lk1_s ?_
            refine x_iconst 53 hK rfl rfl ?_
            refine x_if_icmp_eq 65 56 hK rfl rfl rfl (by omega) (by omega) (fun c => by omega) (fun _ => ?_)
            refine x_aload_n 57 hK rfl rfl (lk1_n l1 (by decide) (Or.inl rfl)) ?_
            refine x_bipush 59 hK rfl rfl rfl ?_
            have at302 : gi h292 1 2 = p292 := eq292
            have fe302 : fx h292 = (fx h) := (fx_F hF292 rfl rfl).trans (fx_F hF4 rfl rfl)
            refine x_callV 62 hK hmono rfl rfl [.ref 1, .int (I 44)] [] rfl rfl (Nat.le_of_ble_eq_true rfl) (Nat.le_of_ble_eq_true rfl) rfl (sp_1 (h := h292) hG292) (CLd_le (Nat.le_of_ble_eq_true rfl) (ctX9_take hSP hG292 (s := 44) (by omega) (by omega))) ?_
            rw [fe302, at302]
            rintro v302 h302 ⟨hG302, hF302, ⟨rfl, tk302, eq302⟩ | ⟨rfl, tk302, eq302⟩⟩
            · refine x_if_ne 70 65 hK rfl rfl rfl (by omega) (fun _ => ?_) (fun c => by omega)
              refine x_aload_n 71 hK rfl rfl (lk1_n l1 (by decide) (Or.inl rfl)) ?_
              have at303 : gi h302 1 2 = (p292 + 1) := eq302
              have fe303 : fx h302 = (fx h) := (fx_F hF302 rfl rfl).trans ((fx_F hF292 rfl rfl).trans (fx_F hF4 rfl rfl))
              refine x_callV 74 hK hmono rfl rfl [.ref 1] [] rfl rfl (Nat.le_of_ble_eq_true rfl) (Nat.le_of_ble_eq_true rfl) rfl (sp_1 (h := h302) hG302) (CLd_le (Nat.le_of_ble_eq_true rfl) (ctX9_next hSP hG302)) ?_
              rw [fe303, at303]
              rintro v9 h9 ⟨e9, rfl⟩
              rw [e9]
              clear e9
              have fr303 := fx_r hG (p292 + 1)
              refine x_bipush 76 hK rfl rfl rfl ?_
              refine x_isub 77 hK rfl rfl ?_
              refine x_istore 79 hK rfl rfl _ rfl ?_
              refine x_iload 81 hK rfl rfl lk1_s ?_
              refine x_if_lt 91 84 hK rfl rfl rfl (by omega) (fun c112 => ?_) (fun c112 => ?_)
              · refine x_aload_n 92 hK rfl rfl (lk1_n (lk1_n l1 (by decide) (Or.inl rfl)) (by decide) (Or.inl rfl)) ?_
                refine x_getE 95 hK rfl (Or.inl rfl) rfl (sp_1 (h := h302) hG302) (e := (p292 + 1)) (eq302) ?_
                have m0 : e292 ≠ 0 := fun z => by have := fe0 p292 (by omega); omega
                have ltc : p292 < min n 76 := by
                  by_cases z : min n 76 ≤ p292
                  · have := fe0 p292 z; omega
                  · omega
                obtain ⟨q, hq⟩ : ∃ q : Nat, (16 - c - i).toNat = q + 1 := ⟨(16 - c - i).toNat - 1, by omega⟩
                rw [hq] at e1 e2
                unfold rdRs at e1 e2
                have ni : nmI (fx h) 3 1 999 p = (e292, p292) := by unfold nmI; rw [nm292, if_neg (show ¬ e292 < 0 by omega), if_pos (show 1 ≤ e292 ∧ e292 ≤ 999 by omega)]
                have er : rdRock (fx h) p = ((false, p292 + 1), 0, 0) := by
                  unfold rdRock
                  rw [ni, if_neg (show ¬ e292 < 0 by omega), if_neg (show ¬ fx h p292 ≠ 44 by omega)]
                  rw [rk_l, if_neg (show ¬ (48 ≤ fx h (p292 + 1) ∧ fx h (p292 + 1) ≤ 56) by omega), if_pos (by decide)]
                rw [er, if_neg (show ¬ false = true by decide)] at e1 e2
                have f9 : fltF n 76 RR.1 ≠ 0 := by rw [e1]; exact fltF_ne (by omega) (by show 0 ≤ (p292 + 1); omega) rfl
                exact x_iret hK rfl ⟨⟨(p292 + 1), rfl, by omega, ⟨fun z => by omega, fun z => absurd z f9⟩⟩, hG302, ((hF4).trans ((hF292).mono rfl)).trans ((hF302).mono rfl), fun z => absurd z f9, fun _ => (FRM_gi hF302 (r := 13) rfl rfl).trans ((FRM_gi hF292 (r := 13) rfl rfl).trans (d3)), (fun j hj => ⟨((FRM_gi hF302 (r := 14) rfl rfl).trans (FRM_gi hF292 (r := 14) rfl rfl)).trans (ol j hj).1, ((FRM_gi hF302 (r := 15) rfl rfl).trans (FRM_gi hF292 (r := 15) rfl rfl)).trans (ol j hj).2⟩)⟩
              · refine x_iload 86 hK rfl rfl lk1_s ?_
                refine x_bipush 88 hK rfl rfl rfl ?_
                refine x_if_icmp_le 96 91 hK rfl rfl rfl (by omega) (by omega) (fun c118 => ?_) (fun c118 => ?_)
                · refine x_aload_n 97 hK rfl rfl (lk1_n (lk1_n l1 (by decide) (Or.inl rfl)) (by decide) (Or.inl rfl)) ?_
                  refine x_dup 98 hK rfl rfl rfl ?_
                  refine x_getE 101 hK rfl (Or.inl rfl) rfl (sp_1 (h := h302) hG302) (e := (p292 + 1)) (eq302) ?_
                  refine x_iconst 102 hK rfl rfl ?_
                  refine x_iadd 103 hK rfl rfl ?_
                  refine x_putI 106 hK rfl rfl (sp_1 (h := h302) hG302) ?_
                  refine x_aload_n 107 hK rfl rfl (lk1_n (lk1_n l0 (by decide) (Or.inl rfl)) (by decide) (Or.inl rfl)) ?_
                  refine x_getR 110 hK rfl rfl (sp_19 (h := h302) hG302) (rf_19_1 (h := h302) hG302) ?_
                  refine x_iload_n 111 hK rfl rfl (lk1_n (lk1_n l2 (by decide) (Or.inl rfl)) (by decide) (Or.inl rfl)) ?_
                  refine x_iload 113 hK rfl rfl (lk1_n lk1_s (by decide) (Or.inl rfl)) ?_
                  refine x_iastore 114 hK rfl rfl (sp_20 (h := h302) hG302) (by omega) (by omega) (by omega) ?_
                  refine x_aload_n 115 hK rfl rfl (lk1_n (lk1_n l0 (by decide) (Or.inl rfl)) (by decide) (Or.inl rfl)) ?_
                  refine x_getR 118 hK rfl rfl (sp_19 (h := h302) hG302) (rf_19_2 (h := h302) hG302) ?_
                  refine x_iload_n 119 hK rfl rfl (lk1_n (lk1_n l2 (by decide) (Or.inl rfl)) (by decide) (Or.inl rfl)) ?_
                  refine x_iload 121 hK rfl rfl lk1_s ?_
                  refine x_iastore 122 hK rfl rfl (sp_21 (h := h302) hG302) (by omega) (by omega) (by omega) ?_
                  have m0 : e292 ≠ 0 := fun z => by have := fe0 p292 (by omega); omega
                  obtain ⟨q, hq⟩ : ∃ q : Nat, (16 - c - i).toNat = q + 1 := ⟨(16 - c - i).toNat - 1, by omega⟩
                  rw [hq] at e1 e2
                  unfold rdRs at e1 e2
                  have ni : nmI (fx h) 3 1 999 p = (e292, p292) := by unfold nmI; rw [nm292, if_neg (show ¬ e292 < 0 by omega), if_pos (show 1 ≤ e292 ∧ e292 ≤ 999 by omega)]
                  have er : rdRock (fx h) p = ((true, p292 + 2), e292, fx h (p292 + 1) - 48) := by
                    unfold rdRock
                    rw [ni, if_neg (show ¬ e292 < 0 by omega), if_neg (show ¬ fx h p292 ≠ 44 by omega)]
                    rw [rk_l, if_pos (show 48 ≤ fx h (p292 + 1) ∧ fx h (p292 + 1) ≤ 56 by omega), if_neg (by omega)]
                  rw [er, if_pos (show true = true from rfl)] at e1 e2
                  have lt2 : p292 + 2 ≤ min n 76 := by
                    by_cases z : min n 76 ≤ p292 + 1
                    · have := fe0 (p292 + 1) z; omega
                    · omega
                  have yr : rkL (wI (wI (wI h302 1 2 ((p292 + 1) + 1)) 20 m.toNat e292) 21 m.toNat (((fx h) (p292 + 1)) - 48)) c.toNat (i + 1).toNat = rkL h4 c.toNat i.toNat ++ [(e292, fx h (p292 + 1) - 48)] := by
                    rw [tn_s i0.1]
                    exact rkL_s ((gi_to (show c.toNat + i.toNat = m.toNat by omega)).trans ((gi_a (by decide) _).trans (gi_same (by omega)))) ((gi_to (show c.toNat + i.toNat = m.toNat by omega)).trans (gi_same (by omega))) fun j hj => ⟨(gi_a (by decide) _).trans ((gi_k (by omega) _).trans ((gi_a (by decide) _).trans ((FRM_gi hF302 (r := 14) rfl rfl).trans (FRM_gi hF292 (r := 14) rfl rfl)))), (gi_k (by omega) _).trans ((gi_a (by decide) _).trans ((gi_a (by decide) _).trans ((FRM_gi hF302 (r := 15) rfl rfl).trans (FRM_gi hF292 (r := 15) rfl rfl))))⟩
                  refine x_iinc 125 hK rfl rfl (lk1_n (lk1_n l2 (by decide) (Or.inl rfl)) (by decide) (Or.inl rfl)) _ rfl ?_
                  refine x_aload_n 126 hK rfl rfl (lk1_n (lk1_n (lk1_n l1 (by decide) (Or.inl rfl)) (by decide) (Or.inl rfl)) (by decide) (Or.inl rfl)) ?_
                  have hGp304 : GD gE gRL sh (wI (wI (wI h302 1 2 ((p292 + 1) + 1)) 20 m.toNat e292) 21 m.toNat (((fx h) (p292 + 1)) - 48)) := GD_wu (GD_wn (GD_w0 (hG302) (r := 1) rfl rfl) (r := 14) rfl rfl) (r := 15) rfl (by omega) rfl (by omega) (by omega)
                  have at305 : gi (wI (wI (wI h302 1 2 ((p292 + 1) + 1)) 20 m.toNat e292) 21 m.toNat (((fx h) (p292 + 1)) - 48)) 1 2 = ((p292 + 1) + 1) := (gi_a (by decide) _).trans ((gi_a (by decide) _).trans (gi_same (by omega)))
                  have to305 : gi (wI (wI (wI h302 1 2 ((p292 + 1) + 1)) 20 m.toNat e292) 21 m.toNat (((fx h) (p292 + 1)) - 48)) 1 3 = (min n 76) := (gi_a (by decide) _).trans ((gi_a (by decide) _).trans ((gi_k (by decide) _).trans ((FRM_gi hF302 (r := 1) rfl rfl).trans ((FRM_gi hF292 (r := 1) rfl rfl).trans (s3)))))
                  refine x_callV 129 hK hmono rfl rfl [.ref 1] [] rfl rfl (Nat.le_of_ble_eq_true rfl) (Nat.le_of_ble_eq_true rfl) rfl (sp_1 (h := h302) hG302) (CLd_le (Nat.le_of_ble_eq_true rfl) (ctX9_ended hSP hGp304)) ?_
                  rw [at305, to305]
                  rintro v9 h9 ⟨e9, ⟨rfl, en305⟩ | ⟨rfl, en305⟩⟩ <;> rw [e9] <;> clear e9
                  · refine x_if_eq 135 132 hK rfl rfl rfl (by omega) (fun c => by omega) (fun _ => ?_)
                    refine x_goto 155 hK rfl rfl ?_
                    rw [if_neg (show ¬ fx h (p292 + 2) = 59 by rw [fe0 (p292 + 2) (by omega)]; decide)] at e1 e2
                    have yq : rkL (wI (wI (wI h302 1 2 ((p292 + 1) + 1)) 20 m.toNat e292) 21 m.toNat (((fx h) (p292 + 1)) - 48)) c.toNat (i + 1).toNat = rkL (wI (wI (wI h302 1 2 ((p292 + 1) + 1)) 20 m.toNat e292) 21 m.toNat (((fx h) (p292 + 1)) - 48)) c.toNat (i + 1).toNat := rkL_eq fun j hj => ⟨rfl, rfl⟩
                    have e3 : RR.2 = rkL (wI (wI (wI h302 1 2 ((p292 + 1) + 1)) 20 m.toNat e292) 21 m.toNat (((fx h) (p292 + 1)) - 48)) c.toNat (i + 1).toNat := by rw [e2, yq, yr]
                    have ln : (RR.2.length : Nat) = (i + 1).toNat := by rw [e3, rkL_l]
                    have fo := fltF_of (n := n) (most := 76) (p := p292 + 2) (by omega) (by omega)
                    have fr : fltF n 76 RR.1 = 0 ↔ ¬ 76 < n := by rw [e1]; exact fo
                    refine x_aload_n 156 hK rfl rfl (lk1_n (lk1_n (lk1_n l1 (by decide) (Or.inl rfl)) (by decide) (Or.inl rfl)) (by decide) (Or.inl rfl)) ?_
                    have hGp306 : GD gE gRL sh (wI (wI (wI h302 1 2 ((p292 + 1) + 1)) 20 m.toNat e292) 21 m.toNat (((fx h) (p292 + 1)) - 48)) := GD_wu (GD_wn (GD_w0 (hG302) (r := 1) rfl rfl) (r := 14) rfl rfl) (r := 15) rfl (by omega) rfl (by omega) (by omega)
                    have to307 : gi (wI (wI (wI h302 1 2 ((p292 + 1) + 1)) 20 m.toNat e292) 21 m.toNat (((fx h) (p292 + 1)) - 48)) 1 3 = (min n 76) := (gi_a (by decide) _).trans ((gi_a (by decide) _).trans ((gi_k (by decide) _).trans ((FRM_gi hF302 (r := 1) rfl rfl).trans ((FRM_gi hF292 (r := 1) rfl rfl).trans (s3)))))
                    have mo307 : gi (wI (wI (wI h302 1 2 ((p292 + 1) + 1)) 20 m.toNat e292) 21 m.toNat (((fx h) (p292 + 1)) - 48)) 1 4 = (if 76 < n then (1 : Int) else 0) := (gi_a (by decide) _).trans ((gi_a (by decide) _).trans ((gi_k (by decide) _).trans ((FRM_gi hF302 (r := 1) rfl rfl).trans ((FRM_gi hF292 (r := 1) rfl rfl).trans (s4)))))
                    refine x_callV 159 hK hmono rfl rfl [.ref 1] [] rfl rfl (Nat.le_of_ble_eq_true rfl) (Nat.le_of_ble_eq_true rfl) rfl (sp_1 (h := h302) hG302) (CLd_le (Nat.le_of_ble_eq_true rfl) (ctX9_faultAtEnd hSP hGp306)) ?_
                    rw [to307, mo307]
                    rintro v9 h9 ⟨e9, rfl⟩
                    rw [e9]
                    clear e9
                    refine x_istore_n 160 hK rfl rfl _ rfl ?_
                    refine x_aload_n 161 hK rfl rfl (lk1_n (lk1_n (lk1_n (lk1_n l0 (by decide) (Or.inl rfl)) (by decide) (Or.inl rfl)) (by decide) (Or.inl rfl)) (by decide) (Or.inl rfl)) ?_
                    refine x_iload_n 162 hK rfl rfl lk1_s ?_
                    refine x_iconst 163 hK rfl rfl ?_
                    refine x_if_icmp_ne 170 166 hK rfl rfl rfl (by omega) (by omega) (fun c148 => ?_) (fun c148 => ?_)
                    · refine x_aload_n 171 hK rfl rfl (lk1_n (lk1_n (lk1_n (lk1_n l0 (by decide) (Or.inl rfl)) (by decide) (Or.inl rfl)) (by decide) (Or.inl rfl)) (by decide) (Or.inl rfl)) ?_
                      refine x_getE 174 hK rfl (Or.inl rfl) rfl (sp_19 (h := h302) hG302) (e := c) ((gi_a (by decide) _).trans ((gi_a (by decide) _).trans ((gi_a (by decide) _).trans ((FRM_gi hF302 (r := 13) rfl rfl).trans ((FRM_gi hF292 (r := 13) rfl rfl).trans (d3)))))) ?_
                      refine x_putI 177 hK rfl rfl (sp_19 (h := h302) hG302) ?_
                      refine x_iload_n 178 hK rfl rfl lk1_s ?_
                      have e9 : (-1 ≤ (if (if 76 < n then (1 : Int) else 0) = 1 then (min n 76) else -1) ∧ (if (if 76 < n then (1 : Int) else 0) = 1 then (min n 76) else -1) ≤ 76) ∧ ((if (if 76 < n then (1 : Int) else 0) = 1 then (min n 76) else -1) = -1 ↔ fltF n 76 RR.1 = 0) := by rw [fr]; (repeat' split) <;> omega
                      have yz : rkL (wI (wI (wI (wI h302 1 2 ((p292 + 1) + 1)) 20 m.toNat e292) 21 m.toNat (((fx h) (p292 + 1)) - 48)) 19 0 c) c.toNat RR.2.length = RR.2 := by
                        rw [ln, e3]
                        exact rkL_eq fun j hj => ⟨gi_a (by decide) _, gi_a (by decide) _⟩
                      have f9 : fltF n 76 RR.1 ≠ 0 := fun z => by have := e9.2.mpr z; omega
                      exact x_iret hK rfl ⟨⟨(if (if 76 < n then (1 : Int) else 0) = 1 then (min n 76) else -1), rfl, e9.1, e9.2⟩, GD_w1 (GD_wu (GD_wn (GD_w0 (hG302) (r := 1) rfl rfl) (r := 14) rfl rfl) (r := 15) rfl (by omega) rfl (by omega) (by omega)) (r := 13) rfl (by omega) rfl (by omega) (by omega), FRM_w (FRM_wn 0 15 (FRM_wn 0 15 (FRM_w (((hF4).trans ((hF292).mono rfl)).trans ((hF302).mono rfl)) (r := 1) rfl rfl) (r := 14) rfl rfl rfl (by omega) (by omega)) (r := 15) rfl rfl rfl (by omega) (by omega)) (r := 13) rfl rfl, fun z => absurd z f9, fun _ => gi_same (by omega), (fun j hj => ⟨((gi_a (by decide) _).trans ((gi_a (by decide) _).trans ((gi_k (by omega) _).trans ((gi_a (by decide) _).trans ((FRM_gi hF302 (r := 14) rfl rfl).trans (FRM_gi hF292 (r := 14) rfl rfl)))))).trans (ol j hj).1, ((gi_a (by decide) _).trans ((gi_k (by omega) _).trans ((gi_a (by decide) _).trans ((gi_a (by decide) _).trans ((FRM_gi hF302 (r := 15) rfl rfl).trans (FRM_gi hF292 (r := 15) rfl rfl)))))).trans (ol j hj).2⟩)⟩
                    · refine x_iload_n 167 hK rfl rfl (lk1_n lk1_s (by decide) (Or.inl rfl)) ?_
                      refine x_goto 174 hK rfl rfl ?_
                      refine x_putI 177 hK rfl rfl (sp_19 (h := h302) hG302) ?_
                      refine x_iload_n 178 hK rfl rfl lk1_s ?_
                      have e9 : (-1 ≤ (if (if 76 < n then (1 : Int) else 0) = 1 then (min n 76) else -1) ∧ (if (if 76 < n then (1 : Int) else 0) = 1 then (min n 76) else -1) ≤ 76) ∧ ((if (if 76 < n then (1 : Int) else 0) = 1 then (min n 76) else -1) = -1 ↔ fltF n 76 RR.1 = 0) := by rw [fr]; (repeat' split) <;> omega
                      have yz : rkL (wI (wI (wI (wI h302 1 2 ((p292 + 1) + 1)) 20 m.toNat e292) 21 m.toNat (((fx h) (p292 + 1)) - 48)) 19 0 (m + 1)) c.toNat RR.2.length = RR.2 := by
                        rw [ln, e3]
                        exact rkL_eq fun j hj => ⟨gi_a (by decide) _, gi_a (by decide) _⟩
                      have f9 : fltF n 76 RR.1 = 0 := e9.2.mp (by omega)
                      exact x_iret hK rfl ⟨⟨(if (if 76 < n then (1 : Int) else 0) = 1 then (min n 76) else -1), rfl, e9.1, e9.2⟩, GD_w1 (GD_wu (GD_wn (GD_w0 (hG302) (r := 1) rfl rfl) (r := 14) rfl rfl) (r := 15) rfl (by omega) rfl (by omega) (by omega)) (r := 13) rfl (by omega) rfl (by omega) (by omega), FRM_w (FRM_wn 0 15 (FRM_wn 0 15 (FRM_w (((hF4).trans ((hF292).mono rfl)).trans ((hF302).mono rfl)) (r := 1) rfl rfl) (r := 14) rfl rfl rfl (by omega) (by omega)) (r := 15) rfl rfl rfl (by omega) (by omega)) (r := 13) rfl rfl, fun _ => ⟨(gi_same (by omega)).trans (by omega), yz⟩, fun z => absurd f9 z, (fun j hj => ⟨((gi_a (by decide) _).trans ((gi_a (by decide) _).trans ((gi_k (by omega) _).trans ((gi_a (by decide) _).trans ((FRM_gi hF302 (r := 14) rfl rfl).trans (FRM_gi hF292 (r := 14) rfl rfl)))))).trans (ol j hj).1, ((gi_a (by decide) _).trans ((gi_k (by omega) _).trans ((gi_a (by decide) _).trans ((gi_a (by decide) _).trans ((FRM_gi hF302 (r := 15) rfl rfl).trans (FRM_gi hF292 (r := 15) rfl rfl)))))).trans (ol j hj).2⟩)⟩
                  · refine x_if_eq 135 132 hK rfl rfl rfl (by omega) (fun _ => ?_) (fun c => by omega)
                    refine x_aload_n 136 hK rfl rfl (lk1_n (lk1_n (lk1_n l1 (by decide) (Or.inl rfl)) (by decide) (Or.inl rfl)) (by decide) (Or.inl rfl)) ?_
                    refine x_bipush 138 hK rfl rfl rfl ?_
                    have hGp309 : GD gE gRL sh (wI (wI (wI h302 1 2 ((p292 + 1) + 1)) 20 m.toNat e292) 21 m.toNat (((fx h) (p292 + 1)) - 48)) := GD_wu (GD_wn (GD_w0 (hG302) (r := 1) rfl rfl) (r := 14) rfl rfl) (r := 15) rfl (by omega) rfl (by omega) (by omega)
                    have at308 : gi (wI (wI (wI h302 1 2 ((p292 + 1) + 1)) 20 m.toNat e292) 21 m.toNat (((fx h) (p292 + 1)) - 48)) 1 2 = ((p292 + 1) + 1) := (gi_a (by decide) _).trans ((gi_a (by decide) _).trans (gi_same (by omega)))
                    have fe308 : fx (wI (wI (wI h302 1 2 ((p292 + 1) + 1)) 20 m.toNat e292) 21 m.toNat (((fx h) (p292 + 1)) - 48)) = (fx h) := (fx_wI (by decide) (Or.inl (by decide))).trans ((fx_wI (by decide) (Or.inl (by decide))).trans ((fx_wI (by decide) (Or.inr (by decide))).trans ((fx_F hF302 rfl rfl).trans ((fx_F hF292 rfl rfl).trans (fx_F hF4 rfl rfl)))))
                    refine x_callV 141 hK hmono rfl rfl [.ref 1, .int (I 59)] [] rfl rfl (Nat.le_of_ble_eq_true rfl) (Nat.le_of_ble_eq_true rfl) rfl (sp_1 (h := h302) hG302) (CLd_le (Nat.le_of_ble_eq_true rfl) (ctX9_take hSP hGp309 (s := 59) (by omega) (by omega))) ?_
                    rw [fe308, at308]
                    rintro v308 h308 ⟨hG308, hF308, ⟨rfl, tk308, eq308⟩ | ⟨rfl, tk308, eq308⟩⟩
                    · refine x_if_ne 149 144 hK rfl rfl rfl (by omega) (fun _ => ?_) (fun c => by omega)
                      refine x_iinc 152 hK rfl rfl (lk1_n (lk1_n (lk1_n l3 (by decide) (Or.inl rfl)) (by decide) (Or.inl rfl)) (by decide) (Or.inl rfl)) _ rfl ?_
                      refine x_goto 7 hK rfl rfl ?_
                      have lt3 : p292 + 2 < min n 76 := by
                        by_cases z : min n 76 ≤ p292 + 1 + 1
                        · have := fe0 (p292 + 1 + 1) z; omega
                        · omega
                      rw [if_pos (show fx h (p292 + 2) = 59 by rw [show p292 + 2 = p292 + 1 + 1 by omega]; omega)] at e1 e2
                      have yq : rkL h308 c.toNat (i + 1).toNat = rkL (wI (wI (wI h302 1 2 ((p292 + 1) + 1)) 20 m.toNat e292) 21 m.toNat (((fx h) (p292 + 1)) - 48)) c.toNat (i + 1).toNat := rkL_eq fun j hj => ⟨FRM_gi hF308 (r := 14) rfl rfl, FRM_gi hF308 (r := 15) rfl rfl⟩
                      exact ih _ (by omega) (m + 1) (i + 1) (p292 + 1 + 1 + 1) _ _ rfl (by omega) (by omega) (by omega) (eq308) ((FRM_gi hF308 (r := 13) rfl rfl).trans ((gi_a (by decide) _).trans ((gi_a (by decide) _).trans ((gi_a (by decide) _).trans ((FRM_gi hF302 (r := 13) rfl rfl).trans ((FRM_gi hF292 (r := 13) rfl rfl).trans (d3))))))) ((by rw [e1, show (16 - c - (i + 1)).toNat = q by omega, show p292 + 2 + 1 = p292 + 1 + 1 + 1 by omega])) ((by rw [e2, yq, yr, show (16 - c - (i + 1)).toNat = q by omega, show p292 + 2 + 1 = p292 + 1 + 1 + 1 by omega, List.append_assoc]; rfl)) ((fun j hj => ⟨((FRM_gi hF308 (r := 14) rfl rfl).trans ((gi_a (by decide) _).trans ((gi_k (by omega) _).trans ((gi_a (by decide) _).trans ((FRM_gi hF302 (r := 14) rfl rfl).trans (FRM_gi hF292 (r := 14) rfl rfl)))))).trans (ol j hj).1, ((FRM_gi hF308 (r := 15) rfl rfl).trans ((gi_k (by omega) _).trans ((gi_a (by decide) _).trans ((gi_a (by decide) _).trans ((FRM_gi hF302 (r := 15) rfl rfl).trans (FRM_gi hF292 (r := 15) rfl rfl)))))).trans (ol j hj).2⟩)) (lk1_n (lk1_n (lk1_n (lk1_n l0 (by decide) (Or.inl rfl)) (by decide) (Or.inl rfl)) (by decide) (Or.inl rfl)) (by decide) (Or.inl rfl)) (lk1_n (lk1_n (lk1_n (lk1_n l1 (by decide) (Or.inl rfl)) (by decide) (Or.inl rfl)) (by decide) (Or.inl rfl)) (by decide) (Or.inl rfl)) (lk1_n lk1_s (by decide) (Or.inl rfl)) lk1_s (hG308) ((FRM_wn 0 15 (FRM_wn 0 15 (FRM_w (((hF4).trans ((hF292).mono rfl)).trans ((hF302).mono rfl)) (r := 1) rfl rfl) (r := 14) rfl rfl rfl (by omega) (by omega)) (r := 15) rfl rfl rfl (by omega) (by omega)).trans ((hF308).mono rfl))
                    · refine x_if_ne 149 144 hK rfl rfl rfl (by omega) (fun c => by omega) (fun _ => ?_)
                      refine x_aload_n 145 hK rfl rfl (lk1_n (lk1_n (lk1_n l1 (by decide) (Or.inl rfl)) (by decide) (Or.inl rfl)) (by decide) (Or.inl rfl)) ?_
                      refine x_getE 148 hK rfl (Or.inl rfl) rfl (sp_1 (h := h308) hG308) (e := ((p292 + 1) + 1)) (eq308) ?_
                      rw [if_neg (show ¬ fx h (p292 + 2) = 59 by rw [show p292 + 2 = p292 + 1 + 1 by omega]; omega)] at e1 e2
                      have f9 : fltF n 76 RR.1 ≠ 0 := by rw [e1]; exact fltF_nq (by omega) (by show 0 ≤ (p292 + 2); omega) (by show (p292 + 2) ≠ _; omega)
                      exact x_iret hK rfl ⟨⟨((p292 + 1) + 1), rfl, by omega, ⟨fun z => by omega, fun z => absurd z f9⟩⟩, hG308, (FRM_wn 0 15 (FRM_wn 0 15 (FRM_w (((hF4).trans ((hF292).mono rfl)).trans ((hF302).mono rfl)) (r := 1) rfl rfl) (r := 14) rfl rfl rfl (by omega) (by omega)) (r := 15) rfl rfl rfl (by omega) (by omega)).trans ((hF308).mono rfl), fun z => absurd z f9, fun _ => (FRM_gi hF308 (r := 13) rfl rfl).trans ((gi_a (by decide) _).trans ((gi_a (by decide) _).trans ((gi_a (by decide) _).trans ((FRM_gi hF302 (r := 13) rfl rfl).trans ((FRM_gi hF292 (r := 13) rfl rfl).trans (d3)))))), (fun j hj => ⟨((FRM_gi hF308 (r := 14) rfl rfl).trans ((gi_a (by decide) _).trans ((gi_k (by omega) _).trans ((gi_a (by decide) _).trans ((FRM_gi hF302 (r := 14) rfl rfl).trans (FRM_gi hF292 (r := 14) rfl rfl)))))).trans (ol j hj).1, ((FRM_gi hF308 (r := 15) rfl rfl).trans ((gi_k (by omega) _).trans ((gi_a (by decide) _).trans ((gi_a (by decide) _).trans ((FRM_gi hF302 (r := 15) rfl rfl).trans (FRM_gi hF292 (r := 15) rfl rfl)))))).trans (ol j hj).2⟩)⟩
                · refine x_aload_n 92 hK rfl rfl (lk1_n (lk1_n l1 (by decide) (Or.inl rfl)) (by decide) (Or.inl rfl)) ?_
                  refine x_getE 95 hK rfl (Or.inl rfl) rfl (sp_1 (h := h302) hG302) (e := (p292 + 1)) (eq302) ?_
                  have m0 : e292 ≠ 0 := fun z => by have := fe0 p292 (by omega); omega
                  have ltc : p292 < min n 76 := by
                    by_cases z : min n 76 ≤ p292
                    · have := fe0 p292 z; omega
                    · omega
                  obtain ⟨q, hq⟩ : ∃ q : Nat, (16 - c - i).toNat = q + 1 := ⟨(16 - c - i).toNat - 1, by omega⟩
                  rw [hq] at e1 e2
                  unfold rdRs at e1 e2
                  have ni : nmI (fx h) 3 1 999 p = (e292, p292) := by unfold nmI; rw [nm292, if_neg (show ¬ e292 < 0 by omega), if_pos (show 1 ≤ e292 ∧ e292 ≤ 999 by omega)]
                  have er : rdRock (fx h) p = ((false, p292 + 1), 0, 0) := by
                    unfold rdRock
                    rw [ni, if_neg (show ¬ e292 < 0 by omega), if_neg (show ¬ fx h p292 ≠ 44 by omega)]
                    rw [rk_l, if_neg (show ¬ (48 ≤ fx h (p292 + 1) ∧ fx h (p292 + 1) ≤ 56) by omega), if_pos (by decide)]
                  rw [er, if_neg (show ¬ false = true by decide)] at e1 e2
                  have f9 : fltF n 76 RR.1 ≠ 0 := by rw [e1]; exact fltF_ne (by omega) (by show 0 ≤ (p292 + 1); omega) rfl
                  exact x_iret hK rfl ⟨⟨(p292 + 1), rfl, by omega, ⟨fun z => by omega, fun z => absurd z f9⟩⟩, hG302, ((hF4).trans ((hF292).mono rfl)).trans ((hF302).mono rfl), fun z => absurd z f9, fun _ => (FRM_gi hF302 (r := 13) rfl rfl).trans ((FRM_gi hF292 (r := 13) rfl rfl).trans (d3)), (fun j hj => ⟨((FRM_gi hF302 (r := 14) rfl rfl).trans (FRM_gi hF292 (r := 14) rfl rfl)).trans (ol j hj).1, ((FRM_gi hF302 (r := 15) rfl rfl).trans (FRM_gi hF292 (r := 15) rfl rfl)).trans (ol j hj).2⟩)⟩
            · refine x_if_ne 70 65 hK rfl rfl rfl (by omega) (fun c => by omega) (fun _ => ?_)
              refine x_aload_n 66 hK rfl rfl (lk1_n l1 (by decide) (Or.inl rfl)) ?_
              refine x_getE 69 hK rfl (Or.inl rfl) rfl (sp_1 (h := h302) hG302) (e := p292) (eq302) ?_
              obtain ⟨q, hq⟩ : ∃ q : Nat, (16 - c - i).toNat = q + 1 := ⟨(16 - c - i).toNat - 1, by omega⟩
              rw [hq] at e1 e2
              unfold rdRs at e1 e2
              have f9 : fltF n 76 RR.1 ≠ 0 := by
                by_cases c0 : e292 = 0
                · have ni : nmI (fx h) 3 1 999 p = (-1, p292 - 1) := by unfold nmI; rw [nm292, if_neg (show ¬ e292 < 0 by omega), if_neg (show ¬ (1 ≤ e292 ∧ e292 ≤ 999) by omega)]
                  have er : rdRock (fx h) p = ((false, p292 - 1), 0, 0) := by unfold rdRock; rw [ni, if_pos (show (-1 : Int) < 0 by decide)]
                  rw [er, if_neg (show ¬ false = true by decide)] at e1
                  rw [e1]; exact fltF_ne (by omega) (by show 0 ≤ p292 - 1; omega) rfl
                · have ni : nmI (fx h) 3 1 999 p = (e292, p292) := by unfold nmI; rw [nm292, if_neg (show ¬ e292 < 0 by omega), if_pos (show 1 ≤ e292 ∧ e292 ≤ 999 by omega)]
                  have er : rdRock (fx h) p = ((false, p292), 0, 0) := by unfold rdRock; rw [ni, if_neg (show ¬ e292 < 0 by omega), if_pos (show fx h p292 ≠ 44 by omega)]
                  rw [er, if_neg (show ¬ false = true by decide)] at e1
                  rw [e1]; exact fltF_ne (by omega) (by show 0 ≤ p292; omega) rfl
              exact x_iret hK rfl ⟨⟨p292, rfl, by omega, ⟨fun z => by omega, fun z => absurd z f9⟩⟩, hG302, ((hF4).trans ((hF292).mono rfl)).trans ((hF302).mono rfl), fun z => absurd z f9, fun _ => (FRM_gi hF302 (r := 13) rfl rfl).trans ((FRM_gi hF292 (r := 13) rfl rfl).trans (d3)), (fun j hj => ⟨((FRM_gi hF302 (r := 14) rfl rfl).trans (FRM_gi hF292 (r := 14) rfl rfl)).trans (ol j hj).1, ((FRM_gi hF302 (r := 15) rfl rfl).trans (FRM_gi hF292 (r := 15) rfl rfl)).trans (ol j hj).2⟩)⟩
          · refine x_aload_n 44 hK rfl rfl (lk1_n l1 (by decide) (Or.inl rfl)) ?_
            refine x_getE 47 hK rfl (Or.inl rfl) rfl (sp_1 (h := h292) hG292) (e := p292) (eq292) ?_
            refine x_iconst 48 hK rfl rfl ?_
            refine x_isub 49 hK rfl rfl ?_
            obtain ⟨q, hq⟩ : ∃ q : Nat, (16 - c - i).toNat = q + 1 := ⟨(16 - c - i).toNat - 1, by omega⟩
            rw [hq] at e1 e2
            unfold rdRs at e1 e2
            have ni : nmI (fx h) 3 1 999 p = (-1, p292 - 1) := by unfold nmI; rw [nm292, if_neg (show ¬ e292 < 0 by omega), if_neg (show ¬ (1 ≤ e292 ∧ e292 ≤ 999) by omega)]
            have er : rdRock (fx h) p = ((false, p292 - 1), 0, 0) := by
              unfold rdRock
              rw [ni, if_pos (show (-1 : Int) < 0 by decide)]
            rw [er, if_neg (show ¬ false = true by decide)] at e1 e2
            have f9 : fltF n 76 RR.1 ≠ 0 := by rw [e1]; exact fltF_ne (by omega) (by show 0 ≤ (p292 - 1); omega) rfl
            exact x_iret hK rfl ⟨⟨(p292 - 1), rfl, by omega, ⟨fun z => by omega, fun z => absurd z f9⟩⟩, hG292, (hF4).trans ((hF292).mono rfl), fun z => absurd z f9, fun _ => (FRM_gi hF292 (r := 13) rfl rfl).trans (d3), (fun j hj => ⟨(FRM_gi hF292 (r := 14) rfl rfl).trans (ol j hj).1, (FRM_gi hF292 (r := 15) rfl rfl).trans (ol j hj).2⟩)⟩
      · refine x_aload_n 20 hK rfl rfl l1 ?_
        refine x_getE 23 hK rfl (Or.inl rfl) rfl (sp_1 (h := h4) hG4) (e := p) (d2) ?_
        have z0 : (16 - c - i).toNat = 0 := by omega
        rw [z0] at e1 e2
        have f9 : fltF n 76 RR.1 ≠ 0 := by rw [e1]; exact fltF_ne (by omega) (by show 0 ≤ p; omega) rfl
        exact x_iret hK rfl ⟨⟨p, rfl, by omega, ⟨fun z => by omega, fun z => absurd z f9⟩⟩, hG4, hF4, fun z => absurd z f9, fun _ => d3, (fun j hj => ⟨(rfl).trans (ol j hj).1, (rfl).trans (ol j hj).2⟩)⟩
  refine x_aload_n 1 hK rfl rfl rfl ?_
  refine x_getE 4 hK rfl (Or.inl rfl) rfl (sp_19 (h := h) hG) (e := c) (hc) ?_
  refine x_istore_n 5 hK rfl rfl [(2, .int (I c)), (0, .ref 19), (1, .ref 1)] rfl ?_
  refine x_iconst 6 hK rfl rfl ?_
  refine x_istore_n 7 hK rfl rfl [(3, .int (I 0)), (2, .int (I c)), (0, .ref 19), (1, .ref 1)] rfl ?_
  exact loop _ c 0 0 _ _ rfl (by omega) (by omega) (by omega) (h12) (hc) ((by rw [← hRR, show 16 - c - 0 = 16 - c by omega])) ((by rw [← hRR, show 16 - c - 0 = 16 - c by omega]; rfl)) ((fun j hj => ⟨rfl, rfl⟩)) rfl rfl rfl rfl (hG) ((FRM.rf : FRM gRL [(0, 1, 2, 2), (0, 1, 5, 5), (0, 13, 0, 0), (0, 14, 0, 15), (0, 15, 0, 15)] h h))
set_option maxRecDepth 4000 in
theorem ctX10_rocks {SP : CT} (hSP : MONO SP) {sh : List (Nat × Nat)} {h : aH} (hG : GD gE gRL sh h) : CLd SP 6 mX10_rocks [.ref 0] h 0 0 (fun rv h' => (∃ e : Int, rv = some (.int (I e)) ∧ r32 e) ∧ GD gE gRL sh h' ∧ FRM gRL [(0, 1, 1, 5), (0, 13, 0, 0), (0, 14, 0, 15), (0, 15, 0, 15)] h h' ∧ gi h' 1 1 = 0 ∧ ((fltF (gi h 1 1) 76 (rkR (txF (gi h 2) (min (gi h 1 1) 76)) (gi h 1 1) (gi h 19 0)).1) = 0 → gi h' 19 0 = gi h 19 0 + ((rkR (txF (gi h 2) (min (gi h 1 1) 76)) (gi h 1 1) (gi h 19 0)).2.length : Nat) ∧ rkL h' (gi h 19 0).toNat (rkR (txF (gi h 2) (min (gi h 1 1) 76)) (gi h 1 1) (gi h 19 0)).2.length = (rkR (txF (gi h 2) (min (gi h 1 1) 76)) (gi h 1 1) (gi h 19 0)).2) ∧ ((fltF (gi h 1 1) 76 (rkR (txF (gi h 2) (min (gi h 1 1) 76)) (gi h 1 1) (gi h 19 0)).1) ≠ 0 → gi h' 19 0 = gi h 19 0) ∧ ∀ j : Nat, (j : Int) < gi h 19 0 → gi h' 20 j = gi h 20 j ∧ gi h' 21 j = gi h 21 j) := by
  refine x_met _ rfl (Nat.le_of_ble_eq_true rfl) (fun K hK => ?_)
  have hmono := MONO_CLd hSP 5
  have gs := gri 0 80 hG (a := 1) (r := 1) (k := 1) rfl rfl
  have gc := gri 0 16 hG (a := 19) (r := 13) (k := 0) rfl rfl
  obtain ⟨T, hT⟩ : ∃ T, (txF (gi h 2) (min (gi h 1 1) 76)) = T := ⟨_, rfl⟩
  obtain ⟨RR, hRR⟩ : ∃ RR, rkR T (gi h 1 1) (gi h 19 0) = RR := ⟨_, rfl⟩
  rw [hT, hRR] at hK
  refine x_aload_n 1 hK rfl rfl rfl ?_
  refine x_getR 4 hK rfl rfl (sp_0 (h := h) hG) (rf_0_0 (h := h) hG) ?_
  have g310 := gri (0) (80) hG (a := 1) (r := 1) (k := 1) rfl rfl
  refine x_getE 7 hK rfl (Or.inl rfl) rfl (sp_1 (h := h) hG) (e := (gi h 1 1)) (rfl) ?_
  refine x_if_ne 12 10 hK rfl rfl rfl (by omega) (fun c4 => ?_) (fun c4 => ?_)
  · refine x_aload_n 13 hK rfl rfl rfl ?_
    refine x_getR 16 hK rfl rfl (sp_0 (h := h) hG) (rf_0_0 (h := h) hG) ?_
    refine x_bipush 18 hK rfl rfl rfl ?_
    have z312 : gi h 1 1 = (gi h 1 1) := rfl
    refine x_callV 21 hK hmono rfl rfl [.ref 1, .int (I 76)] [] rfl rfl (Nat.le_of_ble_eq_true rfl) (Nat.le_of_ble_eq_true rfl) rfl (sp_1 (h := h) hG) (CLd_le (Nat.le_of_ble_eq_true rfl) (ctX9_open hSP hG (by omega))) ?_
    rintro v311 h311 ⟨rfl, hG311, hF311, o311, p311, q311, r311⟩
    rw [z312] at p311 q311
    refine x_aload_n 22 hK rfl rfl rfl ?_
    refine x_getR 25 hK rfl rfl (sp_0 (h := h311) hG311) (rf_0_7 (h := h311) hG311) ?_
    have g313 := gri (0) (16) hG (a := 19) (r := 13) (k := 0) rfl rfl
    refine x_getE 28 hK rfl (Or.inl rfl) rfl (sp_19 (h := h311) hG311) (e := (gi h 19 0)) (FRM_gi hF311 (r := 13) rfl rfl) ?_
    refine x_istore_n 29 hK rfl rfl [(1, .int (I (gi h 19 0))), (0, .ref 0)] rfl ?_
    refine x_aload_n 30 hK rfl rfl rfl ?_
    refine x_getR 33 hK rfl rfl (sp_0 (h := h311) hG311) (rf_0_7 (h := h311) hG311) ?_
    refine x_aload_n 34 hK rfl rfl rfl ?_
    refine x_getR 37 hK rfl rfl (sp_0 (h := h311) hG311) (rf_0_0 (h := h311) hG311) ?_
    have z2 : gi h311 1 2 = 0 := o311
    have z3 : gi h311 1 3 = min (gi h 1 1) 76 := p311
    have z4 : gi h311 1 4 = (if 76 < gi h 1 1 then (1 : Int) else 0) := q311
    have zc : gi h311 19 0 = gi h 19 0 := FRM_gi hF311 (r := 13) rfl rfl
    have zt : fx h311 = T := by rw [fx_tx, z3, ← hT, show gi h311 2 = gi h 2 from funext fun k => FRM_gi hF311 (r := 2) rfl rfl]
    have rr : rdRs T (16 - gi h 19 0).toNat 0 = RR := by rw [← hRR]; unfold rkR; rw [if_neg (by omega)]
    refine x_callV 40 hK hmono rfl rfl [.ref 19, .ref 1] [] rfl rfl (Nat.le_of_ble_eq_true rfl) (Nat.le_of_ble_eq_true rfl) rfl (sp_19 (h := h311) hG311) (CLd_le (Nat.le_of_ble_eq_true rfl) (ctX2_readFrom hSP hG311 (n := gi h 1 1) z2 z3 z4 (by omega))) ?_
    rw [zt, zc, rr]
    rintro v314 h314 ⟨⟨e314, rfl, eb314, ei314⟩, hG314, hF314, y1, y2, y3⟩
    refine x_istore_n 41 hK rfl rfl [(2, .int (I e314)), (1, .int (I (gi h 19 0))), (0, .ref 0)] rfl ?_
    refine x_aload_n 42 hK rfl rfl rfl ?_
    refine x_getR 45 hK rfl rfl (sp_0 (h := h314) hG314) (rf_0_0 (h := h314) hG314) ?_
    refine x_iconst 46 hK rfl rfl ?_
    refine x_putI 49 hK rfl rfl (sp_1 (h := h314) hG314) ?_
    refine x_iload_n 50 hK rfl rfl rfl ?_
    refine x_iconst 51 hK rfl rfl ?_
    refine x_if_icmp_eq 58 54 hK rfl rfl rfl (by omega) (by omega) (fun c25 => ?_) (fun c25 => ?_)
    · refine x_aload_n 59 hK rfl rfl rfl ?_
      refine x_getR 62 hK rfl rfl (sp_0 (h := h314) hG314) (rf_0_7 (h := h314) hG314) ?_
      have g315 := gri (0) (16) hG314 (a := 19) (r := 13) (k := 0) rfl rfl
      refine x_getE 65 hK rfl (Or.inl rfl) rfl (sp_19 (h := h314) hG314) (e := (gi h314 19 0)) (gi_a (by decide) _) ?_
      refine x_iload_n 66 hK rfl rfl rfl ?_
      refine x_isub 67 hK rfl rfl ?_
      have gq := gri 0 16 hG314 (a := 19) (r := 13) (k := 0) rfl rfl
      exact x_iret hK rfl ⟨⟨_, rfl, by omega⟩, GD_w1 (hG314) (r := 1) rfl (by omega) rfl (by omega) (by omega), FRM_w (((hF311).mono rfl).trans ((hF314).mono rfl)) (r := 1) rfl rfl, gi_same (by omega), fun z => ⟨(gi_a (by decide) _).trans ((y1 z).1), (rkL_eq fun j hj => ⟨gi_a (by decide) _, gi_a (by decide) _⟩).trans (y1 z).2⟩, fun z => (gi_a (by decide) _).trans (y2 z), fun j hj => ⟨(gi_a (by decide) _).trans (((y3 j hj).1.trans (FRM_gi hF311 (r := 14) rfl rfl))), (gi_a (by decide) _).trans (((y3 j hj).2.trans (FRM_gi hF311 (r := 15) rfl rfl)))⟩⟩
    · refine x_iconst 55 hK rfl rfl ?_
      refine x_iload_n 56 hK rfl rfl rfl ?_
      refine x_isub 57 hK rfl rfl ?_
      have gq := gri 0 16 hG314 (a := 19) (r := 13) (k := 0) rfl rfl
      exact x_iret hK rfl ⟨⟨_, rfl, by omega⟩, GD_w1 (hG314) (r := 1) rfl (by omega) rfl (by omega) (by omega), FRM_w (((hF311).mono rfl).trans ((hF314).mono rfl)) (r := 1) rfl rfl, gi_same (by omega), fun z => ⟨(gi_a (by decide) _).trans ((y1 z).1), (rkL_eq fun j hj => ⟨gi_a (by decide) _, gi_a (by decide) _⟩).trans (y1 z).2⟩, fun z => (gi_a (by decide) _).trans (y2 z), fun j hj => ⟨(gi_a (by decide) _).trans (((y3 j hj).1.trans (FRM_gi hF311 (r := 14) rfl rfl))), (gi_a (by decide) _).trans (((y3 j hj).2.trans (FRM_gi hF311 (r := 15) rfl rfl)))⟩⟩
  · refine x_iconst 11 hK rfl rfl ?_
    have r0 : RR = ((true, 0), []) := by rw [← hRR]; unfold rkR; rw [if_pos (by omega)]
    exact x_iret hK rfl ⟨⟨_, rfl, by omega⟩, hG, FRM.rf, by omega, fun _ => by rw [r0]; exact ⟨(Int.add_zero _).symm, rfl⟩, fun _ => rfl, fun j hj => ⟨rfl, rfl⟩⟩
