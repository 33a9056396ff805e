/-! LANES TO COME, MESSES -/
theorem tw_tw {p q : Int × Int → Bool} (hpq : ∀ x, p x = true → q x = true) : ∀ L : List (Int × Int), L.takeWhile q = L.takeWhile p ++ (L.dropWhile p).takeWhile q ∧ L.dropWhile q = (L.dropWhile p).dropWhile q
  | [] => ⟨rfl, rfl⟩
  | x :: t => by
    cases c : p x with
    | true =>
      obtain ⟨i1, i2⟩ := tw_tw hpq t
      rw [List.takeWhile_cons_of_pos (hpq x c), List.takeWhile_cons_of_pos c, List.dropWhile_cons_of_pos c, List.dropWhile_cons_of_pos (hpq x c), i1, i2]
      exact ⟨rfl, rfl⟩
    | false =>
      rw [List.takeWhile_cons_of_neg (p := p) (by rw [c]; exact Bool.noConfusion), List.dropWhile_cons_of_neg (p := p) (by rw [c]; exact Bool.noConfusion)]
      exact ⟨rfl, rfl⟩
theorem tw_no {p : Int × Int → Bool} : ∀ {L : List (Int × Int)}, (∀ x ∈ L, p x = false) → L.takeWhile p = [] ∧ L.dropWhile p = L
  | [], _ => ⟨rfl, rfl⟩
  | x :: t, h => by
    have c := h x List.mem_cons_self
    rw [List.takeWhile_cons_of_neg (p := p) (by rw [c]; exact Bool.noConfusion), List.dropWhile_cons_of_neg (p := p) (by rw [c]; exact Bool.noConfusion)]
    exact ⟨rfl, rfl⟩
/-- her LANE in n STEPS, by orders under way -/
def lnW (w : WS) (n : Int) : Int := ((srt w.2.2.2.2.1).takeWhile fun q => decide (q.1 - w.1 ≤ n)).foldl cpt w.2.1
theorem stI_ln {ml ln : Nat → Int} {nr : Nat} {ms : Int} {ea : Nat → Int} {w : WS} (ok : OKW w) : ∀ k : Nat, OKW (stI ml ln nr ms ea k w) ∧ (stI ml ln nr ms ea k w).1 = w.1 + k ∧ (stI ml ln nr ms ea k w).2.1 = ((srt w.2.2.2.2.1).takeWhile fun q => decide (q.1 ≤ w.1 + k)).foldl cpt w.2.1 ∧ srt (stI ml ln nr ms ea k w).2.2.2.2.1 = (srt w.2.2.2.2.1).dropWhile fun q => decide (q.1 ≤ w.1 + k)
  | 0 => by
    have z := tw_no (p := fun q : Int × Int => decide (q.1 ≤ w.1 + ((0 : Nat) : Int))) (L := srt w.2.2.2.2.1) fun x hx => by
      obtain ⟨q, hq, e⟩ := srt_mem hx
      have := (ok.1 q hq).1.1
      rw [e]
      exact decide_eq_false (by show ¬ q.1 ≤ w.1 + ((0 : Nat) : Int); omega)
    refine ⟨ok, (Int.add_zero _).symm, ?_, ?_⟩
    · rw [z.1]; rfl
    · rw [z.2]; rfl
  | k + 1 => by
    obtain ⟨i0, i1, i2, i3⟩ := stI_ln (ml := ml) (ln := ln) (nr := nr) (ms := ms) (ea := ea) ok k
    obtain ⟨d1, d2⟩ := st_due i0
    have tt := tw_tw (p := fun q : Int × Int => decide (q.1 ≤ w.1 + (k : Int))) (q := fun q : Int × Int => decide (q.1 ≤ w.1 + ((k + 1 : Nat) : Int))) (fun x hx => decide_eq_true (by have := of_decide_eq_true hx; omega)) (srt w.2.2.2.2.1)
    have eP : (fun q : Int × Int => decide (q.1 ≤ w.1 + ((k + 1 : Nat) : Int))) = fun q : Int × Int => decide (q.1 ≤ (stI ml ln nr ms ea k w).1 + 1) := funext fun q => decide_eq_decide.mpr (by omega)
    refine ⟨OKW_st i0, ?_, ?_, ?_⟩
    · show (stI ml ln nr ms ea k w).1 + 1 = _
      omega
    · show stL (stI ml ln nr ms ea k w) = _
      rw [← d1, tt.1, List.foldl_append, ← i2, eP, ← i3]
      rfl
    · show srt ((stI ml ln nr ms ea k w).2.2.2.2.1.filter fun q => !decide (q.1 = (stI ml ln nr ms ea k w).1 + 1)) = _
      rw [← d2, tt.2, eP, ← i3]
      rfl
theorem lnW_stI {ml ln : Nat → Int} {nr : Nat} {ms : Int} {ea : Nat → Int} {w : WS} (ok : OKW w) (k : Nat) : (stI ml ln nr ms ea k w).2.1 = lnW w k := by
  rw [(stI_ln ok k).2.2.1]
  unfold lnW
  rw [show (fun q : Int × Int => decide (q.1 ≤ w.1 + (k : Int))) = fun q : Int × Int => decide (q.1 - w.1 ≤ (k : Int)) from funext fun q => decide_eq_decide.mpr (by omega)]
theorem lnW_b {w : WS} (hl : 0 ≤ w.2.1 ∧ w.2.1 ≤ 8) (n : Int) : 0 ≤ lnW w n ∧ lnW w n ≤ 8 := cpF_b hl _
/-- ROCKS that are hit in n STEPS, of the first i -/
def lhW (ml ln : Nat → Int) (w : WS) (n : Int) : Nat → Int
  | 0 => 0
  | i + 1 => lhW ml ln w n i + if 1 ≤ ml i - w.1 ∧ ml i - w.1 ≤ n ∧ ln i = lnW w (ml i - w.1) then 1 else 0
theorem lhW_b (ml ln : Nat → Int) (w : WS) (n : Int) : ∀ i : Nat, 0 ≤ lhW ml ln w n i ∧ lhW ml ln w n i ≤ i
  | 0 => ⟨Int.le_refl _, Int.le_refl _⟩
  | i + 1 => by
    have := lhW_b ml ln w n i
    show 0 ≤ lhW ml ln w n i + (if 1 ≤ ml i - w.1 ∧ ml i - w.1 ≤ n ∧ ln i = lnW w (ml i - w.1) then 1 else 0) ∧ lhW ml ln w n i + (if 1 ≤ ml i - w.1 ∧ ml i - w.1 ≤ n ∧ ln i = lnW w (ml i - w.1) then 1 else 0) ≤ ((i + 1 : Nat) : Int)
    split <;> omega
set_option maxRecDepth 4000 in
theorem ctX10_laneF {SP : CT} (hSP : MONO SP) {sh : List (Nat × Nat)} {h : aH} (hG : GD gE gRL sh h) {b : Int} {w : WS} {ms : Int} (hS : STR ms (kS h 23) w) (hw : WW b w) (hb : b ≤ 950000) (hml : ∀ j : Nat, (j : Int) < gi h 19 0 → 0 ≤ gi h 20 j ∧ gi h 20 j ≤ 999) {n : Int} (rn : r32 n) : CLd SP 4 mX10_lane [.ref 0, .int (I n)] h 0 0 (fun rv h' => ((¬ (0 ≤ n ∧ n ≤ 60) ∧ rv = some (.int (I (-1))) ∧ h' = h) ∨ ((0 ≤ n ∧ n ≤ 60) ∧ rv = some (.int (I (lnW w n))) ∧ gi h' 3 1 = 1 ∧ crow h' = [lhW (gi h 20) (gi h 21) w n (gi h 19 0).toNat])) ∧ GD gE gRL sh h' ∧ FRM gRL [(0, 3, 1, 1), (1, 4, 0, 29)] h h') := by
  refine x_met _ rfl (Nat.le_of_ble_eq_true rfl) (fun K hK => ?_)
  have hmono := MONO_CLd hSP 3
  obtain ⟨k0, k1, k2, k3, k4, k5, k6⟩ := STR_to hG hS
  have hb1 := STR_hb hG hS hw (by omega)
  have lb := hw.2.1
  have w0 := hw.1
  have g19 := gri 0 16 hG (a := 19) (r := 13) (k := 0) rfl rfl
  have loop : ∀ (mz : Nat) (c i : Int) (ls : List (Nat × Value)), (((gi h 19 0) - i).toNat = mz) → (0 ≤ n ∧ n ≤ 60) → (0 ≤ i ∧ i ≤ (gi h 19 0)) → (c = lhW (gi h 20) (gi h 21) w n i.toNat) → lk ls 0 = some (.ref 0) → lk ls 1 = some (.int (I n)) → lk ls 2 = some (.int (I c)) → lk ls 3 = some (.int (I i)) → K 16 ls [] h 0 0 := by
    intro mz
    induction mz using Nat.strongRecOn with
    | ind mz ih =>
    intro c i ls hm n0 i0 ce l0 l1 l2 l3
    have cb := lhW_b (gi h 20) (gi h 21) w n i.toNat
    have gm := fun z : i < (gi h 19 0) => hml i.toNat (by omega)
    have gl2 := fun z : i < (gi h 19 0) => grn 0 8 hG (a := 21) (r := 15) (k := i.toNat) rfl rfl (by omega)
    refine x_iload_n 17 hK rfl rfl l3 ?_
    refine x_aload_n 18 hK rfl rfl l0 ?_
    refine x_getR 21 hK rfl rfl (sp_0 (h := h) hG) (rf_0_7 (h := h) hG) ?_
    have g552 := gri (0) (16) hG (a := 19) (r := 13) (k := 0) rfl rfl
    refine x_getE 24 hK rfl (Or.inl rfl) rfl (sp_19 (h := h) hG) (e := (gi h 19 0)) (rfl) ?_
    refine x_if_icmp_ge 88 27 hK rfl rfl rfl (by omega) (by omega) (fun c5 => ?_) (fun c5 => ?_)
    · refine x_aload_n 89 hK rfl rfl l0 ?_
      refine x_getR 92 hK rfl rfl (sp_0 (h := h) hG) (rf_0_1 (h := h) hG) ?_
      refine x_iload_n 93 hK rfl rfl l2 ?_
      refine x_i2l 94 hK rfl rfl (by omega) ?_
      refine x_callV 97 hK hmono rfl rfl [.ref 3, .long (J c)] [] rfl rfl (Nat.le_of_ble_eq_true rfl) (Nat.le_of_ble_eq_true rfl) rfl (sp_3 (h := h) hG) (CLd_le (Nat.le_of_ble_eq_true rfl) (ctX3_tellOne hSP hG (by omega))) ?_
      rintro v553 h553 ⟨rfl, hG553, hF553, t553, s553⟩
      refine x_aload_n 98 hK rfl rfl l0 ?_
      refine x_getR 101 hK rfl rfl (sp_0 (h := h553) hG553) (rf_0_10 (h := h553) hG553) ?_
      refine x_iload_n 102 hK rfl rfl l1 ?_
      have hS554 : STR ms (kS h553 23) w := by rw [kS23_F hF553 (by decide)]; exact hS
      obtain ⟨q0, q1, q2, q3, q4, q5, q6⟩ := STR_to hG553 hS554
      refine x_callV 105 hK hmono rfl rfl [.ref 23, .int (I n)] [] rfl rfl (Nat.le_of_ble_eq_true rfl) (Nat.le_of_ble_eq_true rfl) rfl (sp_23 (h := h553) hG553) (CLd_le (Nat.le_of_ble_eq_true rfl) (ctX8_laneIn hSP hG553 (n := n) (by omega) (STR_hb hG553 hS554 hw (by omega)) (by omega))) ?_
      rintro v9 h9 ⟨e9, rfl⟩
      rw [show ((kO h553 23 (gi h553 23 4).toNat).takeWhile fun q => decide (q.1 - gi h553 23 0 ≤ n)).foldl cpt (gi h553 23 1) = lnW w n from by rw [q5, q0, q1]; rfl]
      rw [e9]
      clear e9
      exact x_iret hK rfl ⟨Or.inr ⟨n0, rfl, t553, by rw [s553, ce, show i.toNat = (gi h 19 0).toNat by omega]⟩, hG553, hF553⟩
    · refine x_aload_n 28 hK rfl rfl l0 ?_
      refine x_getR 31 hK rfl rfl (sp_0 (h := h) hG) (rf_0_7 (h := h) hG) ?_
      refine x_getR 34 hK rfl rfl (sp_19 (h := h) hG) (rf_19_1 (h := h) hG) ?_
      refine x_iload_n 35 hK rfl rfl l3 ?_
      have g555 := gi_r h 20 i.toNat
      refine x_ialoadE 36 hK rfl rfl (sp_20 (h := h) hG) (by omega) (by omega) (by omega) (e' := (gi h 20 i.toNat)) (rfl) ?_
      refine x_aload_n 37 hK rfl rfl l0 ?_
      refine x_getR 40 hK rfl rfl (sp_0 (h := h) hG) (rf_0_10 (h := h) hG) ?_
      refine x_getE 43 hK rfl (Or.inl rfl) rfl (sp_23 (h := h) hG) (e := (w.1)) (k0) ?_
      refine x_isub 44 hK rfl rfl ?_
      refine x_istore 46 hK rfl rfl _ rfl ?_
      refine x_iload 48 hK rfl rfl lk1_s ?_
      refine x_iconst 49 hK rfl rfl ?_
      refine x_if_icmp_lt 82 52 hK rfl rfl rfl (by omega) (by omega) (fun c28 => ?_) (fun c28 => ?_)
      · refine x_iinc 85 hK rfl rfl (lk1_n l3 (by decide) (Or.inl rfl)) _ rfl ?_
        refine x_goto 16 hK rfl rfl ?_
        exact ih _ (by omega) c (i + 1) _ rfl (n0) (by omega) (by rw [tn_s i0.1, ce]; show _ = lhW (gi h 20) (gi h 21) w n i.toNat + (if 1 ≤ gi h 20 i.toNat - w.1 ∧ gi h 20 i.toNat - w.1 ≤ n ∧ gi h 21 i.toNat = lnW w (gi h 20 i.toNat - w.1) then 1 else 0); first | (rw [if_pos (by omega)]; done) | (rw [if_neg (by omega)]; done) | (rw [if_neg (by omega)]; omega)) (lk1_n (lk1_n l0 (by decide) (Or.inl rfl)) (by decide) (Or.inl rfl)) (lk1_n (lk1_n l1 (by decide) (Or.inl rfl)) (by decide) (Or.inl rfl)) (lk1_n (lk1_n l2 (by decide) (Or.inl rfl)) (by decide) (Or.inl rfl)) lk1_s
      · refine x_iload 54 hK rfl rfl lk1_s ?_
        refine x_iload_n 55 hK rfl rfl (lk1_n l1 (by decide) (Or.inl rfl)) ?_
        refine x_if_icmp_gt 82 58 hK rfl rfl rfl (by omega) (by omega) (fun c34 => ?_) (fun c34 => ?_)
        · refine x_iinc 85 hK rfl rfl (lk1_n l3 (by decide) (Or.inl rfl)) _ rfl ?_
          refine x_goto 16 hK rfl rfl ?_
          exact ih _ (by omega) c (i + 1) _ rfl (n0) (by omega) (by rw [tn_s i0.1, ce]; show _ = lhW (gi h 20) (gi h 21) w n i.toNat + (if 1 ≤ gi h 20 i.toNat - w.1 ∧ gi h 20 i.toNat - w.1 ≤ n ∧ gi h 21 i.toNat = lnW w (gi h 20 i.toNat - w.1) then 1 else 0); first | (rw [if_pos (by omega)]; done) | (rw [if_neg (by omega)]; done) | (rw [if_neg (by omega)]; omega)) (lk1_n (lk1_n l0 (by decide) (Or.inl rfl)) (by decide) (Or.inl rfl)) (lk1_n (lk1_n l1 (by decide) (Or.inl rfl)) (by decide) (Or.inl rfl)) (lk1_n (lk1_n l2 (by decide) (Or.inl rfl)) (by decide) (Or.inl rfl)) lk1_s
        · refine x_aload_n 59 hK rfl rfl (lk1_n l0 (by decide) (Or.inl rfl)) ?_
          refine x_getR 62 hK rfl rfl (sp_0 (h := h) hG) (rf_0_10 (h := h) hG) ?_
          refine x_iload 64 hK rfl rfl lk1_s ?_
          have li556 := lnW_b lb ((gi h 20 i.toNat) - (w.1))
          refine x_callV 67 hK hmono rfl rfl [.ref 23, .int (I ((gi h 20 i.toNat) - (w.1)))] [] rfl rfl (Nat.le_of_ble_eq_true rfl) (Nat.le_of_ble_eq_true rfl) rfl (sp_23 (h := h) hG) (CLd_le (Nat.le_of_ble_eq_true rfl) (ctX8_laneIn hSP hG (n := ((gi h 20 i.toNat) - (w.1))) (by omega) hb1 (by omega))) ?_
          rintro v9 h9 ⟨e9, rfl⟩
          rw [show ((kO h 23 (gi h 23 4).toNat).takeWhile fun q => decide (q.1 - gi h 23 0 ≤ ((gi h 20 i.toNat) - (w.1)))).foldl cpt (gi h 23 1) = lnW w ((gi h 20 i.toNat) - (w.1)) from by rw [k5, k0, k1]; rfl]
          rw [e9]
          clear e9
          refine x_aload_n 68 hK rfl rfl (lk1_n l0 (by decide) (Or.inl rfl)) ?_
          refine x_getR 71 hK rfl rfl (sp_0 (h := h) hG) (rf_0_7 (h := h) hG) ?_
          refine x_getR 74 hK rfl rfl (sp_19 (h := h) hG) (rf_19_2 (h := h) hG) ?_
          refine x_iload_n 75 hK rfl rfl (lk1_n l3 (by decide) (Or.inl rfl)) ?_
          have g557 := grn (0) (8) hG (a := 21) (r := 15) (k := i.toNat) rfl rfl (by omega)
          refine x_ialoadE 76 hK rfl rfl (sp_21 (h := h) hG) (by omega) (by omega) (by omega) (e' := (gi h 21 i.toNat)) (rfl) ?_
          refine x_if_icmp_ne 82 79 hK rfl rfl rfl (by omega) (by omega) (fun c47 => ?_) (fun c47 => ?_)
          · refine x_iinc 85 hK rfl rfl (lk1_n l3 (by decide) (Or.inl rfl)) _ rfl ?_
            refine x_goto 16 hK rfl rfl ?_
            exact ih _ (by omega) c (i + 1) _ rfl (n0) (by omega) (by rw [tn_s i0.1, ce]; show _ = lhW (gi h 20) (gi h 21) w n i.toNat + (if 1 ≤ gi h 20 i.toNat - w.1 ∧ gi h 20 i.toNat - w.1 ≤ n ∧ gi h 21 i.toNat = lnW w (gi h 20 i.toNat - w.1) then 1 else 0); first | (rw [if_pos (by omega)]; done) | (rw [if_neg (by omega)]; done) | (rw [if_neg (by omega)]; omega)) (lk1_n (lk1_n l0 (by decide) (Or.inl rfl)) (by decide) (Or.inl rfl)) (lk1_n (lk1_n l1 (by decide) (Or.inl rfl)) (by decide) (Or.inl rfl)) (lk1_n (lk1_n l2 (by decide) (Or.inl rfl)) (by decide) (Or.inl rfl)) lk1_s
          · refine x_iinc 82 hK rfl rfl (lk1_n l2 (by decide) (Or.inl rfl)) _ rfl ?_
            refine x_iinc 85 hK rfl rfl (lk1_n (lk1_n l3 (by decide) (Or.inl rfl)) (by decide) (Or.inl rfl)) _ rfl ?_
            refine x_goto 16 hK rfl rfl ?_
            exact ih _ (by omega) (c + 1) (i + 1) _ rfl (n0) (by omega) (by rw [tn_s i0.1, ce]; show _ = lhW (gi h 20) (gi h 21) w n i.toNat + (if 1 ≤ gi h 20 i.toNat - w.1 ∧ gi h 20 i.toNat - w.1 ≤ n ∧ gi h 21 i.toNat = lnW w (gi h 20 i.toNat - w.1) then 1 else 0); first | (rw [if_pos (by omega)]; done) | (rw [if_neg (by omega)]; done) | (rw [if_neg (by omega)]; omega)) (lk1_n (lk1_n (lk1_n l0 (by decide) (Or.inl rfl)) (by decide) (Or.inl rfl)) (by decide) (Or.inl rfl)) (lk1_n (lk1_n (lk1_n l1 (by decide) (Or.inl rfl)) (by decide) (Or.inl rfl)) (by decide) (Or.inl rfl)) (lk1_n lk1_s (by decide) (Or.inl rfl)) lk1_s
  refine x_iload_n 1 hK rfl rfl rfl ?_
  refine x_if_lt 10 4 hK rfl rfl rfl (by omega) (fun c2 => ?_) (fun c2 => ?_)
  · refine x_iconst 11 hK rfl rfl ?_
    exact x_iret hK rfl ⟨Or.inl ⟨by omega, rfl, rfl⟩, hG, FRM.rf⟩
  · refine x_iload_n 5 hK rfl rfl rfl ?_
    refine x_bipush 7 hK rfl rfl rfl ?_
    refine x_if_icmp_le 12 10 hK rfl rfl rfl (by omega) (by omega) (fun c7 => ?_) (fun c7 => ?_)
    · refine x_iconst 13 hK rfl rfl ?_
      refine x_istore_n 14 hK rfl rfl [(2, .int (I 0)), (0, .ref 0), (1, .int (I n))] rfl ?_
      refine x_iconst 15 hK rfl rfl ?_
      refine x_istore_n 16 hK rfl rfl [(3, .int (I 0)), (2, .int (I 0)), (0, .ref 0), (1, .int (I n))] rfl ?_
      exact loop _ 0 0 _ rfl (⟨by omega, by omega⟩) (by omega) (rfl) rfl rfl rfl rfl
    · refine x_iconst 11 hK rfl rfl ?_
      exact x_iret hK rfl ⟨Or.inl ⟨by omega, rfl, rfl⟩, hG, FRM.rf⟩
set_option maxRecDepth 4000 in
theorem ctX11_laneF {SP : CT} (hSP : MONO SP) {sh : List (Nat × Nat)} {h : aH} (hG : GD gE gRL sh h) {n b : Int} (rn : r32 n) (wb : WB b (RC h 178 0)) (hb : b ≤ 900000) : CLd SP 9 mX11_lane [.ref 171, .int (I n)] h 0 0 (fun rv h' => ((¬ (0 ≤ n ∧ n ≤ 60) ∧ rv = some (.int (I (-1))) ∧ mrow h' = mrow h ∧ gi h' 171 1 = gi h 171 1) ∨ ((0 ≤ n ∧ n ≤ 60) ∧ rv = some (.int (I (stI (gi h 175) (gi h 176) (gi h 171 6).toNat (gi h 171 7) (gi h 177) n.toNat (vw (RC h 178 0))).2.1)) ∧ mrow h' = [sHs (gi h 175) (gi h 176) (gi h 171 6).toNat (gi h 171 7) (gi h 177) n.toNat (vw (RC h 178 0))])) ∧ GD gE gRL sh h' ∧ FRM gRL [(0, 54, 0, 0), (0, 54, 1, 1), (0, 54, 31, 32), (0, 62, 0, 56), (1, 55, 0, 39)] h h') := by
  refine x_met _ rfl (Nat.le_of_ble_eq_true rfl) (fun K hK => ?_)
  have hmono := MONO_CLd hSP 8
  have g6 := gri 0 16 hG (a := 171) (r := 54) (k := 6) rfl rfl
  have g7 := gri 0 8 hG (a := 171) (r := 54) (k := 7) rfl rfl
  have sb := sHs_b (ml := gi h 175) (ln := gi h 176) (ms := gi h 171 7) (ea := gi h 177) (show (gi h 171 6).toNat ≤ 16 by omega) (vw (RC h 178 0))
  have ub := sUs_b (ml := gi h 175) (ln := gi h 176) (nr := (gi h 171 6).toNat) (ea := gi h 177) g7.2 (vw (RC h 178 0))
  have loop : ∀ (mz : Nat) (k : Int) (h4 : aH) (ls : List (Nat × Value)), ((n - k).toNat = mz) → (0 ≤ n ∧ n ≤ 60) → (0 ≤ k ∧ k ≤ n) → (vw (RC h4 179 0) = stI (gi h 175) (gi h 176) (gi h 171 6).toNat (gi h 171 7) (gi h 177) k.toNat (vw (RC h 178 0))) → (gi h4 171 31 = sHs (gi h 175) (gi h 176) (gi h 171 6).toNat (gi h 171 7) (gi h 177) k.toNat (vw (RC h 178 0))) → (gi h4 171 32 = sUs (gi h 175) (gi h 176) (gi h 171 6).toNat (gi h 171 7) (gi h 177) k.toNat (vw (RC h 178 0))) → (WB (b + k) (RC h4 179 0)) → lk ls 0 = some (.ref 171) → lk ls 1 = some (.int (I n)) → lk ls 2 = some (.int (I k)) → GD gE gRL sh h4 → FRM gRL [(0, 54, 0, 0), (0, 54, 1, 1), (0, 54, 31, 32), (0, 62, 0, 56), (1, 55, 0, 39)] h h4 → K 29 ls [] h4 0 0 := by
    intro mz
    induction mz using Nat.strongRecOn with
    | ind mz ih =>
    intro k h4 ls hm n0 k0 sv s31 s32 wb4 l0 l1 l2 hG4 hF4
    have sbk := sb k.toNat
    have ubk := ub k.toNat
    have gl := gri 0 8 hG4 (a := 179) (r := 62) (k := 1) rfl rfl
    refine x_iload_n 30 hK rfl rfl l2 ?_
    refine x_iload_n 31 hK rfl rfl l1 ?_
    refine x_if_icmp_ge 48 34 hK rfl rfl rfl (by omega) (by omega) (fun c3 => ?_) (fun c3 => ?_)
    · refine x_aload_n 49 hK rfl rfl l0 ?_
      refine x_iconst 50 hK rfl rfl ?_
      refine x_putI 53 hK rfl rfl (sp_171 (h := h4) hG4) ?_
      refine x_aload_n 54 hK rfl rfl l0 ?_
      refine x_aload_n 55 hK rfl rfl l0 ?_
      refine x_getE 58 hK rfl (Or.inl rfl) rfl (sp_171 (h := h4) hG4) (e := (sHs (gi h 175) (gi h 176) (gi h 171 6).toNat (gi h 171 7) (gi h 177) k.toNat (vw (RC h 178 0)))) ((gi_k (by decide) _).trans (s31)) ?_
      refine x_i2l 59 hK rfl rfl (by omega) ?_
      have hGp558 : GD gE gRL sh (wI h4 171 1 0) := GD_w1 (hG4) (r := 54) rfl (by omega) rfl (by omega) (by omega)
      have z560 : gi (wI h4 171 1 0) 171 1 = 0 := gi_same (by omega)
      have z560r : mrow (wI h4 171 1 0) = [] := mrow_0 (gi_same (by omega))
      refine x_callV 62 hK hmono rfl rfl [.ref 171, .long (J (sHs (gi h 175) (gi h 176) (gi h 171 6).toNat (gi h 171 7) (gi h 177) k.toNat (vw (RC h 178 0))))] [] rfl rfl (Nat.le_of_ble_eq_true rfl) (Nat.le_of_ble_eq_true rfl) rfl (sp_171 (h := h4) hG4) (CLd_le (Nat.le_of_ble_eq_true rfl) (ctX11_entersF hSP hGp558 (by omega) (by omega))) ?_
      rintro v559 h559 ⟨rfl, hG559, hF559, t559, s559⟩
      rw [z560] at t559
      rw [z560r] at s559
      replace t559 : gi h559 171 1 = 1 := t559
      change mrow h559 = [(sHs (gi h 175) (gi h 176) (gi h 171 6).toNat (gi h 171 7) (gi h 177) k.toNat (vw (RC h 178 0)))] at s559
      refine x_aload_n 63 hK rfl rfl l0 ?_
      refine x_getR 66 hK rfl rfl (sp_171 (h := h559) hG559) (rf_171_15 (h := h559) hG559) ?_
      refine x_iconst 67 hK rfl rfl ?_
      have g561 := gri (0) (8) hG4 (a := 179) (r := 62) (k := 1) rfl rfl
      refine x_ialoadE 68 hK rfl rfl (sp_179 (h := h559) hG559) (by omega) (by omega) (by omega) (e' := (gi h4 179 1)) ((FRM_gi hF559 (r := 62) rfl rfl).trans (gi_a (by decide) _)) ?_
      obtain rfl : k = n := by omega
      have x2 : gi h4 179 1 = (stI (gi h 175) (gi h 176) (gi h 171 6).toNat (gi h 171 7) (gi h 177) k.toNat (vw (RC h 178 0))).2.1 := by rw [← sv]; show _ = RC h4 179 0 1; rw [RC_0 (by omega)]
      exact x_iret hK rfl ⟨Or.inr ⟨n0, by rw [x2], s559⟩, hG559, (FRM_w (hF4) (r := 54) rfl rfl).trans ((hF559).mono rfl)⟩
    · refine x_aload_n 35 hK rfl rfl l0 ?_
      refine x_aload_n 36 hK rfl rfl l0 ?_
      refine x_getR 39 hK rfl rfl (sp_171 (h := h4) hG4) (rf_171_15 (h := h4) hG4) ?_
      refine x_callV 42 hK hmono rfl rfl [.ref 171, .ref 179] [] rfl rfl (Nat.le_of_ble_eq_true rfl) (Nat.le_of_ble_eq_true rfl) rfl (sp_171 (h := h4) hG4) (CLd_le (Nat.le_of_ble_eq_true rfl) (ctX11_stepGoesTF hSP hG4 wb4 (by omega) (by omega) (by omega))) ?_
      rw [sv, show gi h4 175 = gi h 175 from funext fun j => FRM_gi hF4 (r := 58) rfl rfl, show gi h4 176 = gi h 176 from funext fun j => FRM_gi hF4 (r := 59) rfl rfl, show gi h4 171 6 = gi h 171 6 from FRM_gi hF4 (r := 54) rfl rfl, show gi h4 171 7 = gi h 171 7 from FRM_gi hF4 (r := 54) rfl rfl, show gi h4 177 = gi h 177 from funext fun j => FRM_gi hF4 (r := 60) rfl rfl]
      rintro v562 h562 ⟨rfl, hG562, hF562, sv562, x31562, x32562, wb562⟩
      refine x_iinc 45 hK rfl rfl l2 _ rfl ?_
      refine x_goto 29 hK rfl rfl ?_
      exact ih _ (by omega) (k + 1) _ _ rfl (n0) (by omega) ((by rw [tn_s k0.1]; exact sv562)) ((by rw [tn_s k0.1, x31562, s31]; rfl)) ((by rw [tn_s k0.1, x32562, s32]; rfl)) ((by rw [show b + (k + 1) = b + k + 1 by omega]; exact wb562)) (lk1_n l0 (by decide) (Or.inl rfl)) (lk1_n l1 (by decide) (Or.inl rfl)) lk1_s (hG562) ((hF4).trans ((hF562).mono rfl))
  refine x_aload_n 1 hK rfl rfl rfl ?_
  refine x_iconst 2 hK rfl rfl ?_
  refine x_putI 5 hK rfl rfl (sp_171 (h := h) hG) ?_
  refine x_iload_n 6 hK rfl rfl rfl ?_
  refine x_i2l 7 hK rfl rfl (by omega) ?_
  refine x_lconstE 8 0 hK rfl rfl rfl ?_
  refine x_ldc2_w 11 hK rfl rfl ?_
  have hGp563 : GD gE gRL sh (wI h 171 0 0) := GD_w1 (hG) (r := 54) rfl (by omega) rfl (by omega) (by omega)
  refine x_callS 14 hK hmono rfl (Or.inl rfl) rfl [.long (J n), .long (J 0), .long (J 60)] [] rfl rfl (Nat.le_of_ble_eq_true rfl) (Nat.le_of_ble_eq_true rfl) (CLd_le (Nat.le_of_ble_eq_true rfl) (ctX11_in (by omega) (by omega) (by omega))) ?_
  rintro v9 h9 ⟨e9, ⟨rfl, i1564, i2564⟩ | ⟨rfl, i1564⟩⟩ <;> rw [e9] <;> clear e9
  · refine x_if_ne 19 17 hK rfl rfl rfl (by omega) (fun _ => ?_) (fun c => by omega)
    refine x_aload_n 20 hK rfl rfl rfl ?_
    have hGp566 : GD gE gRL sh (wI h 171 0 0) := GD_w1 (hG) (r := 54) rfl (by omega) rfl (by omega) (by omega)
    refine x_callV 23 hK hmono rfl rfl [.ref 171] [] rfl rfl (Nat.le_of_ble_eq_true rfl) (Nat.le_of_ble_eq_true rfl) rfl (sp_171 (h := h) hG) (CLd_le (Nat.le_of_ble_eq_true rfl) (ctX11_putsF hSP hGp566)) ?_
    rintro v565 h565 ⟨rfl, hG565, hF565, pt565⟩
    refine x_aload_n 24 hK rfl rfl rfl ?_
    refine x_callV 27 hK hmono rfl rfl [.ref 171] [] rfl rfl (Nat.le_of_ble_eq_true rfl) (Nat.le_of_ble_eq_true rfl) rfl (sp_171 (h := h565) hG565) (CLd_le (Nat.le_of_ble_eq_true rfl) (ctX11_startsCountingF hSP hG565)) ?_
    rintro v3 h3 ⟨rfl, hG3, hF3, z31, z32⟩
    refine x_iconst 28 hK rfl rfl ?_
    refine x_istore_n 29 hK rfl rfl [(2, .int (I 0)), (0, .ref 171), (1, .int (I n))] rfl ?_
    have c178 : RC (wI h 171 0 0) 178 0 = RC h 178 0 := RC_w (by decide)
    have c3 : RC h3 179 0 = RC h 178 0 := (RC_F hF3 (r := 62) rfl rfl 0).trans (pt565.trans c178)
    exact loop _ 0 _ _ rfl (⟨by omega, by omega⟩) (by omega) ((by rw [c3]; rfl)) (z31) (z32) ((by rw [c3, show b + 0 = b by omega]; exact wb)) rfl rfl rfl (hG3) (((FRM_w ((FRM.rf : FRM gRL [(0, 54, 0, 0), (0, 54, 1, 1), (0, 54, 31, 32), (0, 62, 0, 56), (1, 55, 0, 39)] h h)) (r := 54) rfl rfl).trans ((hF565).mono rfl)).trans ((hF3).mono rfl))
  · refine x_if_ne 19 17 hK rfl rfl rfl (by omega) (fun c => by omega) (fun _ => ?_)
    refine x_iconst 18 hK rfl rfl ?_
    exact x_iret hK rfl ⟨Or.inl ⟨by omega, rfl, mrow_k (by decide), gi_k (by decide) _⟩, GD_w1 (hG) (r := 54) rfl (by omega) rfl (by omega) (by omega), FRM_w ((FRM.rf : FRM gRL [(0, 54, 0, 0), (0, 54, 1, 1), (0, 54, 31, 32), (0, 62, 0, 56), (1, 55, 0, 39)] h h)) (r := 54) rfl rfl⟩
set_option maxRecDepth 4000 in
theorem ctX11_mess {SP : CT} (hSP : MONO SP) {sh : List (Nat × Nat)} {h : aH} (hG : GD gE gRL sh h) {x y : Int} (rx : r32 x) (ry : r32 y) : CLd SP 4 mX11_mess [.ref 171, .int (I x), .int (I y)] h 0 0 (fun rv h' => ((((0 ≤ x ∧ x < gi h 171 7) ∧ 0 ≤ y ∧ y ≤ 2) ∧ rv = some (.int (I (if y = 0 then gi h 178 (41 + x).toNat else if y = 1 then gi h 177 x.toNat else gi h 178 (49 + x).toNat))) ∧ gi h' 171 0 = 0) ∨ (¬ ((0 ≤ x ∧ x < gi h 171 7) ∧ 0 ≤ y ∧ y ≤ 2) ∧ rv = some (.int (I 0)) ∧ gi h' 171 0 = 1)) ∧ GD gE gRL sh h' ∧ FRM gRL [(0, 54, 0, 0)] h h') := by
  refine x_met _ rfl (Nat.le_of_ble_eq_true rfl) (fun K hK => ?_)
  have hmono := MONO_CLd hSP 3
  have g7 := gri 0 8 hG (a := 171) (r := 54) (k := 7) rfl rfl
  refine x_aload_n 1 hK rfl rfl rfl ?_
  refine x_iconst 2 hK rfl rfl ?_
  refine x_putI 5 hK rfl rfl (sp_171 (h := h) hG) ?_
  refine x_aload_n 6 hK rfl rfl rfl ?_
  refine x_iload_n 7 hK rfl rfl rfl ?_
  have hGp568 : GD gE gRL sh (wI h 171 0 0) := GD_w1 (hG) (r := 54) rfl (by omega) rfl (by omega) (by omega)
  have g569 := gri (0) (8) hG (a := 171) (r := 54) (k := 7) rfl rfl
  have x567 : gi (wI h 171 0 0) 171 7 = (gi h 171 7) := gi_k (by decide) _
  refine x_callV 10 hK hmono rfl rfl [.ref 171, .int (I x)] [] rfl rfl (Nat.le_of_ble_eq_true rfl) (Nat.le_of_ble_eq_true rfl) rfl (sp_171 (h := h) hG) (CLd_le (Nat.le_of_ble_eq_true rfl) (ctX11_isMessF hSP hGp568 (m := x) (by omega))) ?_
  rw [x567]
  rintro v9 h9 ⟨e9, ⟨rfl, i1567, i2567⟩ | ⟨rfl, i1567⟩⟩ <;> rw [e9] <;> clear e9
  · refine x_if_eq 25 13 hK rfl rfl rfl (by omega) (fun c => by omega) (fun _ => ?_)
    refine x_iload_n 14 hK rfl rfl rfl ?_
    refine x_i2l 15 hK rfl rfl (by omega) ?_
    refine x_lconstE 16 0 hK rfl rfl rfl ?_
    refine x_ldc2_w 19 hK rfl rfl ?_
    have hGp570 : GD gE gRL sh (wI h 171 0 0) := GD_w1 (hG) (r := 54) rfl (by omega) rfl (by omega) (by omega)
    refine x_callS 22 hK hmono rfl (Or.inl rfl) rfl [.long (J y), .long (J 0), .long (J 2)] [] rfl rfl (Nat.le_of_ble_eq_true rfl) (Nat.le_of_ble_eq_true rfl) (CLd_le (Nat.le_of_ble_eq_true rfl) (ctX11_in (by omega) (by omega) (by omega))) ?_
    rintro v9 h9 ⟨e9, ⟨rfl, i1571, i2571⟩ | ⟨rfl, i1571⟩⟩ <;> rw [e9] <;> clear e9
    · refine x_if_ne 30 25 hK rfl rfl rfl (by omega) (fun _ => ?_) (fun c => by omega)
      refine x_iload_n 31 hK rfl rfl rfl ?_
      refine x_if_ne 46 34 hK rfl rfl rfl (by omega) (fun c15 => ?_) (fun c15 => ?_)
      · refine x_iload_n 47 hK rfl rfl rfl ?_
        refine x_iconst 48 hK rfl rfl ?_
        refine x_if_icmp_ne 60 51 hK rfl rfl rfl (by omega) (by omega) (fun c18 => ?_) (fun c18 => ?_)
        · refine x_aload_n 61 hK rfl rfl rfl ?_
          refine x_getR 64 hK rfl rfl (sp_171 (h := h) hG) (rf_171_14 (h := h) hG) ?_
          refine x_bipush 66 hK rfl rfl rfl ?_
          refine x_iload_n 67 hK rfl rfl rfl ?_
          refine x_iadd 68 hK rfl rfl ?_
          have g572 := gi_r h 178 (49 + x).toNat
          refine x_ialoadE 69 hK rfl rfl (sp_178 (h := h) hG) (by omega) (by omega) (by omega) (e' := (gi h 178 (49 + x).toNat)) (gi_a (by decide) _) ?_
          exact x_iret hK rfl ⟨Or.inl ⟨by omega, by first | (rw [if_pos (by omega)]; done) | (rw [if_neg (by omega), if_pos (by omega)]; done) | (rw [if_neg (by omega), if_neg (by omega)]; done), gi_same (by omega)⟩, GD_w1 (hG) (r := 54) rfl (by omega) rfl (by omega) (by omega), FRM_w ((FRM.rf : FRM gRL [(0, 54, 0, 0)] h h)) (r := 54) rfl rfl⟩
        · refine x_aload_n 52 hK rfl rfl rfl ?_
          refine x_getR 55 hK rfl rfl (sp_171 (h := h) hG) (rf_171_13 (h := h) hG) ?_
          refine x_iload_n 56 hK rfl rfl rfl ?_
          have g573 := grn (0) (9) hG (a := 177) (r := 60) (k := x.toNat) rfl rfl (by omega)
          refine x_ialoadE 57 hK rfl rfl (sp_177 (h := h) hG) (by omega) (by omega) (by omega) (e' := (gi h 177 x.toNat)) (gi_a (by decide) _) ?_
          refine x_goto 69 hK rfl rfl ?_
          exact x_iret hK rfl ⟨Or.inl ⟨by omega, by first | (rw [if_pos (by omega)]; done) | (rw [if_neg (by omega), if_pos (by omega)]; done) | (rw [if_neg (by omega), if_neg (by omega)]; done), gi_same (by omega)⟩, GD_w1 (hG) (r := 54) rfl (by omega) rfl (by omega) (by omega), FRM_w ((FRM.rf : FRM gRL [(0, 54, 0, 0)] h h)) (r := 54) rfl rfl⟩
      · refine x_aload_n 35 hK rfl rfl rfl ?_
        refine x_getR 38 hK rfl rfl (sp_171 (h := h) hG) (rf_171_14 (h := h) hG) ?_
        refine x_bipush 40 hK rfl rfl rfl ?_
        refine x_iload_n 41 hK rfl rfl rfl ?_
        refine x_iadd 42 hK rfl rfl ?_
        have g574 := gi_r h 178 (41 + x).toNat
        refine x_ialoadE 43 hK rfl rfl (sp_178 (h := h) hG) (by omega) (by omega) (by omega) (e' := (gi h 178 (41 + x).toNat)) (gi_a (by decide) _) ?_
        refine x_goto 69 hK rfl rfl ?_
        exact x_iret hK rfl ⟨Or.inl ⟨by omega, by first | (rw [if_pos (by omega)]; done) | (rw [if_neg (by omega), if_pos (by omega)]; done) | (rw [if_neg (by omega), if_neg (by omega)]; done), gi_same (by omega)⟩, GD_w1 (hG) (r := 54) rfl (by omega) rfl (by omega) (by omega), FRM_w ((FRM.rf : FRM gRL [(0, 54, 0, 0)] h h)) (r := 54) rfl rfl⟩
    · refine x_if_ne 30 25 hK rfl rfl rfl (by omega) (fun c => by omega) (fun _ => ?_)
      refine x_aload_n 26 hK rfl rfl rfl ?_
      have hGp575 : GD gE gRL sh (wI h 171 0 0) := GD_w1 (hG) (r := 54) rfl (by omega) rfl (by omega) (by omega)
      refine x_callV 29 hK hmono rfl rfl [.ref 171] [] rfl rfl (Nat.le_of_ble_eq_true rfl) (Nat.le_of_ble_eq_true rfl) rfl (sp_171 (h := h) hG) (CLd_le (Nat.le_of_ble_eq_true rfl) (ctX11_refuse hSP hGp575)) ?_
      rintro v576 h576 ⟨rfl, hG576, hF576, t576⟩
      exact x_iret hK rfl ⟨Or.inr ⟨by omega, rfl, t576⟩, hG576, (FRM_w ((FRM.rf : FRM gRL [(0, 54, 0, 0)] h h)) (r := 54) rfl rfl).trans ((hF576).mono rfl)⟩
  · refine x_if_eq 25 13 hK rfl rfl rfl (by omega) (fun _ => ?_) (fun c => by omega)
    refine x_aload_n 26 hK rfl rfl rfl ?_
    have hGp577 : GD gE gRL sh (wI h 171 0 0) := GD_w1 (hG) (r := 54) rfl (by omega) rfl (by omega) (by omega)
    refine x_callV 29 hK hmono rfl rfl [.ref 171] [] rfl rfl (Nat.le_of_ble_eq_true rfl) (Nat.le_of_ble_eq_true rfl) rfl (sp_171 (h := h) hG) (CLd_le (Nat.le_of_ble_eq_true rfl) (ctX11_refuse hSP hGp577)) ?_
    rintro v578 h578 ⟨rfl, hG578, hF578, t578⟩
    exact x_iret hK rfl ⟨Or.inr ⟨by omega, rfl, t578⟩, hG578, (FRM_w ((FRM.rf : FRM gRL [(0, 54, 0, 0)] h h)) (r := 54) rfl rfl).trans ((hF578).mono rfl)⟩
