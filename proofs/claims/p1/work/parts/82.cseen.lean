/-! WHAT WAS SEEN -/
theorem snF_ext {st la st' la' : Nat → Int} {k : Int} : ∀ {n : Nat}, (∀ i, i < n → st' i = st i ∧ la' i = la i) → snF st' la' k n = snF st la k n
  | 0, _ => rfl
  | n + 1, h => by
    show (if st' n = k then la' n else snF st' la' k n) = if st n = k then la n else snF st la k n
    rw [(h n (by omega)).1, (h n (by omega)).2, snF_ext fun i hi => h i (by omega)]
/-- what seen() answers, by what was seen in that step (or -1), and how much was seen -/
def seA (a c k l : Int) : Int := if (0 ≤ k ∧ k ≤ 24) ∧ 0 ≤ l ∧ l ≤ 8 then (if a = -1 then (if c < 12 then c + 1 else -1) else if a = l then c else -2) else -1
/-- one more is seen -/
def seB (a c k l : Int) : Prop := ((0 ≤ k ∧ k ≤ 24) ∧ 0 ≤ l ∧ l ≤ 8) ∧ a = -1 ∧ c < 12
set_option maxRecDepth 4000 in
theorem ctX10_seen {SP : CT} (hSP : MONO SP) {sh : List (Nat × Nat)} {h : aH} (hG : GD gE gRL sh h) {k l : Int} (rk : r32 k) (rl : r32 l) : CLd SP 2 mX10_seen [.ref 0, .int (I k), .int (I l)] h 0 0 (fun rv h' => rv = some (.int (I (seA (gi h 134 k.toNat) (gi h 133 0) k l))) ∧ GD gE gRL sh h' ∧ FRM gRL [(0, 47, 0, 0), (0, 48, 0, 24)] h h' ∧ (seB (gi h 134 k.toNat) (gi h 133 0) k l → gi h' 133 0 = (gi h 133 0) + 1 ∧ gi h' 134 k.toNat = l ∧ ∀ j, j ≠ k.toNat → gi h' 134 j = gi h 134 j) ∧ (¬ seB (gi h 134 k.toNat) (gi h 133 0) k l → h' = h)) := by
  refine x_met _ rfl (Nat.le_of_ble_eq_true rfl) (fun K hK => ?_)
  have hmono := MONO_CLd hSP 1
  have gc := gri 0 12 hG (a := 133) (r := 47) (k := 0) rfl rfl
  refine x_iload_n 1 hK rfl rfl rfl ?_
  refine x_if_lt 20 4 hK rfl rfl rfl (by omega) (fun c2 => ?_) (fun c2 => ?_)
  · refine x_iconst 21 hK rfl rfl ?_
    have e9 : seA (gi h 134 k.toNat) (gi h 133 0) k l = -1 := by
      unfold seA
      first | rw [if_neg (by omega)] | rw [if_pos (by omega), if_pos (by omega), if_neg (by omega)]
    exact x_iret hK rfl ⟨by rw [e9], hG, (FRM.rf : FRM gRL [(0, 47, 0, 0), (0, 48, 0, 24)] h h), fun z => absurd z (fun z => by unfold seB at z; omega), fun _ => rfl⟩
  · refine x_iload_n 5 hK rfl rfl rfl ?_
    refine x_bipush 7 hK rfl rfl rfl ?_
    refine x_if_icmp_gt 20 10 hK rfl rfl rfl (by omega) (by omega) (fun c7 => ?_) (fun c7 => ?_)
    · refine x_iconst 21 hK rfl rfl ?_
      have e9 : seA (gi h 134 k.toNat) (gi h 133 0) k l = -1 := by
        unfold seA
        first | rw [if_neg (by omega)] | rw [if_pos (by omega), if_pos (by omega), if_neg (by omega)]
      exact x_iret hK rfl ⟨by rw [e9], hG, (FRM.rf : FRM gRL [(0, 47, 0, 0), (0, 48, 0, 24)] h h), fun z => absurd z (fun z => by unfold seB at z; omega), fun _ => rfl⟩
    · refine x_iload_n 11 hK rfl rfl rfl ?_
      refine x_if_lt 20 14 hK rfl rfl rfl (by omega) (fun c11 => ?_) (fun c11 => ?_)
      · refine x_iconst 21 hK rfl rfl ?_
        have e9 : seA (gi h 134 k.toNat) (gi h 133 0) k l = -1 := by
          unfold seA
          first | rw [if_neg (by omega)] | rw [if_pos (by omega), if_pos (by omega), if_neg (by omega)]
        exact x_iret hK rfl ⟨by rw [e9], hG, (FRM.rf : FRM gRL [(0, 47, 0, 0), (0, 48, 0, 24)] h h), fun z => absurd z (fun z => by unfold seB at z; omega), fun _ => rfl⟩
      · refine x_iload_n 15 hK rfl rfl rfl ?_
        refine x_bipush 17 hK rfl rfl rfl ?_
        refine x_if_icmp_le 22 20 hK rfl rfl rfl (by omega) (by omega) (fun c16 => ?_) (fun c16 => ?_)
        · refine x_aload_n 23 hK rfl rfl rfl ?_
          refine x_getR 26 hK rfl rfl (sp_0 (h := h) hG) (rf_0_14 (h := h) hG) ?_
          refine x_getR 29 hK rfl rfl (sp_133 (h := h) hG) (rf_133_1 (h := h) hG) ?_
          refine x_iload_n 30 hK rfl rfl rfl ?_
          have g110 := grn (-1) (8) hG (a := 134) (r := 48) (k := k.toNat) rfl rfl (by omega)
          refine x_ialoadE 31 hK rfl rfl (sp_134 (h := h) hG) (by omega) (by omega) (by omega) (e' := (gi h 134 k.toNat)) (rfl) ?_
          refine x_iconst 32 hK rfl rfl ?_
          refine x_if_icmp_eq 61 35 hK rfl rfl rfl (by omega) (by omega) (fun c23 => ?_) (fun c23 => ?_)
          · refine x_aload_n 62 hK rfl rfl rfl ?_
            refine x_getR 65 hK rfl rfl (sp_0 (h := h) hG) (rf_0_14 (h := h) hG) ?_
            have g111 := gri (0) (12) hG (a := 133) (r := 47) (k := 0) rfl rfl
            refine x_getE 68 hK rfl (Or.inl rfl) rfl (sp_133 (h := h) hG) (e := (gi h 133 0)) (rfl) ?_
            refine x_bipush 70 hK rfl rfl rfl ?_
            refine x_if_icmp_lt 75 73 hK rfl rfl rfl (by omega) (by omega) (fun c28 => ?_) (fun c28 => ?_)
            · refine x_aload_n 76 hK rfl rfl rfl ?_
              refine x_getR 79 hK rfl rfl (sp_0 (h := h) hG) (rf_0_14 (h := h) hG) ?_
              refine x_getR 82 hK rfl rfl (sp_133 (h := h) hG) (rf_133_1 (h := h) hG) ?_
              refine x_iload_n 83 hK rfl rfl rfl ?_
              refine x_iload_n 84 hK rfl rfl rfl ?_
              refine x_iastore 85 hK rfl rfl (sp_134 (h := h) hG) (by omega) (by omega) (by omega) ?_
              refine x_aload_n 86 hK rfl rfl rfl ?_
              refine x_getR 89 hK rfl rfl (sp_0 (h := h) hG) (rf_0_14 (h := h) hG) ?_
              refine x_dup 90 hK rfl rfl rfl ?_
              refine x_getE 93 hK rfl (Or.inl rfl) rfl (sp_133 (h := h) hG) (e := (gi h 133 0)) (gi_a (by decide) _) ?_
              refine x_iconst 94 hK rfl rfl ?_
              refine x_iadd 95 hK rfl rfl ?_
              refine x_putI 98 hK rfl rfl (sp_133 (h := h) hG) ?_
              refine x_aload_n 99 hK rfl rfl rfl ?_
              refine x_getR 102 hK rfl rfl (sp_0 (h := h) hG) (rf_0_14 (h := h) hG) ?_
              refine x_getE 105 hK rfl (Or.inl rfl) rfl (sp_133 (h := h) hG) (e := ((gi h 133 0) + 1)) (gi_same (by omega)) ?_
              have q : ((0 ≤ k ∧ k ≤ 24) ∧ 0 ≤ l ∧ l ≤ 8) := by omega
              have b9 : seB (gi h 134 k.toNat) (gi h 133 0) k l := ⟨q, by omega, by omega⟩
              have e9 : seA (gi h 134 k.toNat) (gi h 133 0) k l = (gi h 133 0) + 1 := by unfold seA; rw [if_pos q, if_pos b9.2.1, if_pos b9.2.2]
              exact x_iret hK rfl ⟨by rw [e9], GD_w1 (GD_wu (hG) (r := 48) rfl (by omega) rfl (by omega) (by omega)) (r := 47) rfl (by omega) rfl (by omega) (by omega), FRM_w (FRM_wn 0 24 ((FRM.rf : FRM gRL [(0, 47, 0, 0), (0, 48, 0, 24)] h h)) (r := 48) rfl rfl rfl (by omega) (by omega)) (r := 47) rfl rfl, fun _ => ⟨gi_same (by omega), (gi_a (by decide) _).trans (gi_same (by omega)), fun j hj => (gi_a (by decide) _).trans (gi_k hj _)⟩, fun z => absurd b9 z⟩
            · refine x_iconst 74 hK rfl rfl ?_
              have e9 : seA (gi h 134 k.toNat) (gi h 133 0) k l = -1 := by
                unfold seA
                first | rw [if_neg (by omega)] | rw [if_pos (by omega), if_pos (by omega), if_neg (by omega)]
              exact x_iret hK rfl ⟨by rw [e9], hG, (FRM.rf : FRM gRL [(0, 47, 0, 0), (0, 48, 0, 24)] h h), fun z => absurd z (fun z => by unfold seB at z; omega), fun _ => rfl⟩
          · refine x_aload_n 36 hK rfl rfl rfl ?_
            refine x_getR 39 hK rfl rfl (sp_0 (h := h) hG) (rf_0_14 (h := h) hG) ?_
            refine x_getR 42 hK rfl rfl (sp_133 (h := h) hG) (rf_133_1 (h := h) hG) ?_
            refine x_iload_n 43 hK rfl rfl rfl ?_
            refine x_ialoadE 44 hK rfl rfl (sp_134 (h := h) hG) (by omega) (by omega) (by omega) (e' := (gi h 134 k.toNat)) (rfl) ?_
            refine x_iload_n 45 hK rfl rfl rfl ?_
            refine x_if_icmp_ne 58 48 hK rfl rfl rfl (by omega) (by omega) (fun c54 => ?_) (fun c54 => ?_)
            · refine x_bipush 60 hK rfl rfl rfl ?_
              have e9 : seA (gi h 134 k.toNat) (gi h 133 0) k l = -2 := by unfold seA; rw [if_pos (by omega), if_neg (by omega), if_neg (by omega)]
              exact x_iret hK rfl ⟨by rw [e9], hG, (FRM.rf : FRM gRL [(0, 47, 0, 0), (0, 48, 0, 24)] h h), fun z => absurd z (fun z => by unfold seB at z; omega), fun _ => rfl⟩
            · refine x_aload_n 49 hK rfl rfl rfl ?_
              refine x_getR 52 hK rfl rfl (sp_0 (h := h) hG) (rf_0_14 (h := h) hG) ?_
              have g112 := gri (0) (12) hG (a := 133) (r := 47) (k := 0) rfl rfl
              refine x_getE 55 hK rfl (Or.inl rfl) rfl (sp_133 (h := h) hG) (e := (gi h 133 0)) (rfl) ?_
              refine x_goto 60 hK rfl rfl ?_
              have e9 : seA (gi h 134 k.toNat) (gi h 133 0) k l = (gi h 133 0) := by unfold seA; rw [if_pos (by omega), if_neg (by omega), if_pos (by omega)]
              exact x_iret hK rfl ⟨by rw [e9], hG, (FRM.rf : FRM gRL [(0, 47, 0, 0), (0, 48, 0, 24)] h h), fun z => absurd z (fun z => by unfold seB at z; omega), fun _ => rfl⟩
        · refine x_iconst 21 hK rfl rfl ?_
          have e9 : seA (gi h 134 k.toNat) (gi h 133 0) k l = -1 := by
            unfold seA
            first | rw [if_neg (by omega)] | rw [if_pos (by omega), if_pos (by omega), if_neg (by omega)]
          exact x_iret hK rfl ⟨by rw [e9], hG, (FRM.rf : FRM gRL [(0, 47, 0, 0), (0, 48, 0, 24)] h h), fun z => absurd z (fun z => by unfold seB at z; omega), fun _ => rfl⟩
set_option maxRecDepth 4000 in
theorem ctX11_seenF {SP : CT} (hSP : MONO SP) {sh : List (Nat × Nat)} {h : aH} (hG : GD gE gRL sh h) {k l : Int} (rk : r32 k) (rl : r32 l) : CLd SP 4 mX11_seen [.ref 171, .int (I k), .int (I l)] h 0 0 (fun rv h' => rv = some (.int (I (seA (snF (gi h 193) (gi h 194) k (gi h 171 42).toNat) (gi h 171 42) k l))) ∧ GD gE gRL sh h' ∧ FRM gRL [(0, 54, 0, 0), (0, 54, 42, 42), (0, 76, 0, 11), (0, 77, 0, 11)] h h' ∧ (seB (snF (gi h 193) (gi h 194) k (gi h 171 42).toNat) (gi h 171 42) k l → gi h' 171 42 = (gi h 171 42) + 1 ∧ gi h' 193 (gi h 171 42).toNat = k ∧ gi h' 194 (gi h 171 42).toNat = l ∧ (∀ j, j ≠ (gi h 171 42).toNat → gi h' 193 j = gi h 193 j) ∧ ∀ j, j ≠ (gi h 171 42).toNat → gi h' 194 j = gi h 194 j) ∧ (¬ seB (snF (gi h 193) (gi h 194) k (gi h 171 42).toNat) (gi h 171 42) k l → gi h' 171 42 = (gi h 171 42) ∧ gi h' 193 = gi h 193 ∧ gi h' 194 = gi h 194)) := by
  refine x_met _ rfl (Nat.le_of_ble_eq_true rfl) (fun K hK => ?_)
  have hmono := MONO_CLd hSP 3
  have gc := gri 0 12 hG (a := 171) (r := 54) (k := 42) rfl rfl
  have sb := snF_b (st := gi h 193) (la := gi h 194) (k := k) (gi h 171 42).toNat (fun i hi => grn 0 8 hG (a := 194) (r := 77) (k := i) rfl rfl (by omega))
  refine x_aload_n 1 hK rfl rfl rfl ?_
  refine x_iconst 2 hK rfl rfl ?_
  refine x_putI 5 hK rfl rfl (sp_171 (h := h) hG) ?_
  refine x_iload_n 6 hK rfl rfl rfl ?_
  refine x_i2l 7 hK rfl rfl (by omega) ?_
  refine x_lconstE 8 0 hK rfl rfl rfl ?_
  refine x_ldc2_w 11 hK rfl rfl ?_
  have hGp113 : GD gE gRL sh (wI h 171 0 0) := GD_w1 (hG) (r := 54) rfl (by omega) rfl (by omega) (by omega)
  refine x_callS 14 hK hmono rfl (Or.inl rfl) rfl [.long (J k), .long (J 0), .long (J 24)] [] rfl rfl (Nat.le_of_ble_eq_true rfl) (Nat.le_of_ble_eq_true rfl) (CLd_le (Nat.le_of_ble_eq_true rfl) (ctX11_in (by omega) (by omega) (by omega))) ?_
  rintro v9 h9 ⟨e9, ⟨rfl, i1114, i2114⟩ | ⟨rfl, i1114⟩⟩ <;> rw [e9] <;> clear e9
  · refine x_if_eq 29 17 hK rfl rfl rfl (by omega) (fun c => by omega) (fun _ => ?_)
    refine x_iload_n 18 hK rfl rfl rfl ?_
    refine x_i2l 19 hK rfl rfl (by omega) ?_
    refine x_lconstE 20 0 hK rfl rfl rfl ?_
    refine x_ldc2_w 23 hK rfl rfl ?_
    have hGp115 : GD gE gRL sh (wI h 171 0 0) := GD_w1 (hG) (r := 54) rfl (by omega) rfl (by omega) (by omega)
    refine x_callS 26 hK hmono rfl (Or.inl rfl) rfl [.long (J l), .long (J 0), .long (J 8)] [] rfl rfl (Nat.le_of_ble_eq_true rfl) (Nat.le_of_ble_eq_true rfl) (CLd_le (Nat.le_of_ble_eq_true rfl) (ctX11_in (by omega) (by omega) (by omega))) ?_
    rintro v9 h9 ⟨e9, ⟨rfl, i1116, i2116⟩ | ⟨rfl, i1116⟩⟩ <;> rw [e9] <;> clear e9
    · refine x_if_ne 31 29 hK rfl rfl rfl (by omega) (fun _ => ?_) (fun c => by omega)
      refine x_aload_n 32 hK rfl rfl rfl ?_
      refine x_iload_n 33 hK rfl rfl rfl ?_
      have hGp117 : GD gE gRL sh (wI h 171 0 0) := GD_w1 (hG) (r := 54) rfl (by omega) rfl (by omega) (by omega)
      refine x_callV 36 hK hmono rfl rfl [.ref 171, .int (I k)] [] rfl rfl (Nat.le_of_ble_eq_true rfl) (Nat.le_of_ble_eq_true rfl) rfl (sp_171 (h := h) hG) (CLd_le (Nat.le_of_ble_eq_true rfl) (ctX11_seenIn hSP hGp117 (by omega))) ?_
      rintro v9 h9 ⟨e9, rfl⟩
      rw [e9]
      clear e9
      change K _ _ (.int (I (snF (gi h 193) (gi h 194) k (gi h 171 42).toNat)) :: _) _ _ _
      refine x_istore_n 37 hK rfl rfl [(3, .int (I (snF (gi h 193) (gi h 194) k (gi h 171 42).toNat))), (0, .ref 171), (1, .int (I k)), (2, .int (I l))] rfl ?_
      refine x_iload_n 38 hK rfl rfl rfl ?_
      refine x_if_lt 56 41 hK rfl rfl rfl (by omega) (fun c21 => ?_) (fun c21 => ?_)
      · refine x_aload_n 57 hK rfl rfl rfl ?_
        have g118 := gri (0) (12) hG (a := 171) (r := 54) (k := 42) rfl rfl
        refine x_getE 60 hK rfl (Or.inl rfl) rfl (sp_171 (h := h) hG) (e := (gi h 171 42)) (gi_k (by decide) _) ?_
        refine x_bipush 62 hK rfl rfl rfl ?_
        refine x_if_icmp_ne 67 65 hK rfl rfl rfl (by omega) (by omega) (fun c25 => ?_) (fun c25 => ?_)
        · refine x_aload_n 68 hK rfl rfl rfl ?_
          refine x_getR 71 hK rfl rfl (sp_171 (h := h) hG) (rf_171_43 (h := h) hG) ?_
          refine x_aload_n 72 hK rfl rfl rfl ?_
          refine x_getE 75 hK rfl (Or.inl rfl) rfl (sp_171 (h := h) hG) (e := (gi h 171 42)) (gi_k (by decide) _) ?_
          refine x_iload_n 76 hK rfl rfl rfl ?_
          refine x_iastore 77 hK rfl rfl (sp_193 (h := h) hG) (by omega) (by omega) (by omega) ?_
          refine x_aload_n 78 hK rfl rfl rfl ?_
          refine x_getR 81 hK rfl rfl (sp_171 (h := h) hG) (rf_171_44 (h := h) hG) ?_
          refine x_aload_n 82 hK rfl rfl rfl ?_
          refine x_getE 85 hK rfl (Or.inl rfl) rfl (sp_171 (h := h) hG) (e := (gi h 171 42)) ((gi_a (by decide) _).trans (gi_k (by decide) _)) ?_
          refine x_iload_n 86 hK rfl rfl rfl ?_
          refine x_iastore 87 hK rfl rfl (sp_194 (h := h) hG) (by omega) (by omega) (by omega) ?_
          refine x_aload_n 88 hK rfl rfl rfl ?_
          refine x_dup 89 hK rfl rfl rfl ?_
          refine x_getE 92 hK rfl (Or.inl rfl) rfl (sp_171 (h := h) hG) (e := (gi h 171 42)) ((gi_a (by decide) _).trans ((gi_a (by decide) _).trans (gi_k (by decide) _))) ?_
          refine x_iconst 93 hK rfl rfl ?_
          refine x_iadd 94 hK rfl rfl ?_
          refine x_putI 97 hK rfl rfl (sp_171 (h := h) hG) ?_
          refine x_aload_n 98 hK rfl rfl rfl ?_
          refine x_getE 101 hK rfl (Or.inl rfl) rfl (sp_171 (h := h) hG) (e := ((gi h 171 42) + 1)) (gi_same (by omega)) ?_
          have q : ((0 ≤ k ∧ k ≤ 24) ∧ 0 ≤ l ∧ l ≤ 8) := by omega
          have b9 : seB (snF (gi h 193) (gi h 194) k (gi h 171 42).toNat) (gi h 171 42) k l := ⟨q, by omega, by omega⟩
          have e9 : seA (snF (gi h 193) (gi h 194) k (gi h 171 42).toNat) (gi h 171 42) k l = (gi h 171 42) + 1 := by unfold seA; rw [if_pos q, if_pos b9.2.1, if_pos b9.2.2]
          exact x_iret hK rfl ⟨by rw [e9], GD_w1 (GD_wu (GD_wu (GD_w1 (hG) (r := 54) rfl (by omega) rfl (by omega) (by omega)) (r := 76) rfl (by omega) rfl (by omega) (by omega)) (r := 77) rfl (by omega) rfl (by omega) (by omega)) (r := 54) rfl (by omega) rfl (by omega) (by omega), FRM_w (FRM_wn 0 11 (FRM_wn 0 11 (FRM_w ((FRM.rf : FRM gRL [(0, 54, 0, 0), (0, 54, 42, 42), (0, 76, 0, 11), (0, 77, 0, 11)] h h)) (r := 54) rfl rfl) (r := 76) rfl rfl rfl (by omega) (by omega)) (r := 77) rfl rfl rfl (by omega) (by omega)) (r := 54) rfl rfl, fun _ => ⟨gi_same (by omega), (gi_a (by decide) _).trans ((gi_a (by decide) _).trans (gi_same (by omega))), (gi_a (by decide) _).trans (gi_same (by omega)), fun j hj => (gi_a (by decide) _).trans ((gi_a (by decide) _).trans ((gi_k hj _).trans (gi_a (by decide) _))), fun j hj => (gi_a (by decide) _).trans ((gi_k hj _).trans ((gi_a (by decide) _).trans (gi_a (by decide) _)))⟩, fun z => absurd b9 z⟩
        · refine x_iconst 66 hK rfl rfl ?_
          have e9 : seA (snF (gi h 193) (gi h 194) k (gi h 171 42).toNat) (gi h 171 42) k l = -1 := by
            unfold seA
            first | rw [if_neg (by omega)] | rw [if_pos (by omega), if_pos (by omega), if_neg (by omega)]
          exact x_iret hK rfl ⟨by rw [e9], GD_w1 (hG) (r := 54) rfl (by omega) rfl (by omega) (by omega), FRM_w ((FRM.rf : FRM gRL [(0, 54, 0, 0), (0, 54, 42, 42), (0, 76, 0, 11), (0, 77, 0, 11)] h h)) (r := 54) rfl rfl, fun z => absurd z (fun z => by unfold seB at z; omega), fun _ => ⟨gi_k (by decide) _, funext fun j => gi_a (by decide) _, funext fun j => gi_a (by decide) _⟩⟩
      · refine x_iload_n 42 hK rfl rfl rfl ?_
        refine x_iload_n 43 hK rfl rfl rfl ?_
        refine x_if_icmp_ne 53 46 hK rfl rfl rfl (by omega) (by omega) (fun c51 => ?_) (fun c51 => ?_)
        · refine x_bipush 55 hK rfl rfl rfl ?_
          have e9 : seA (snF (gi h 193) (gi h 194) k (gi h 171 42).toNat) (gi h 171 42) k l = -2 := by unfold seA; rw [if_pos (by omega), if_neg (by omega), if_neg (by omega)]
          exact x_iret hK rfl ⟨by rw [e9], GD_w1 (hG) (r := 54) rfl (by omega) rfl (by omega) (by omega), FRM_w ((FRM.rf : FRM gRL [(0, 54, 0, 0), (0, 54, 42, 42), (0, 76, 0, 11), (0, 77, 0, 11)] h h)) (r := 54) rfl rfl, fun z => absurd z (fun z => by unfold seB at z; omega), fun _ => ⟨gi_k (by decide) _, funext fun j => gi_a (by decide) _, funext fun j => gi_a (by decide) _⟩⟩
        · refine x_aload_n 47 hK rfl rfl rfl ?_
          have g119 := gri (0) (12) hG (a := 171) (r := 54) (k := 42) rfl rfl
          refine x_getE 50 hK rfl (Or.inl rfl) rfl (sp_171 (h := h) hG) (e := (gi h 171 42)) (gi_k (by decide) _) ?_
          refine x_goto 55 hK rfl rfl ?_
          have e9 : seA (snF (gi h 193) (gi h 194) k (gi h 171 42).toNat) (gi h 171 42) k l = (gi h 171 42) := by unfold seA; rw [if_pos (by omega), if_neg (by omega), if_pos (by omega)]
          exact x_iret hK rfl ⟨by rw [e9], GD_w1 (hG) (r := 54) rfl (by omega) rfl (by omega) (by omega), FRM_w ((FRM.rf : FRM gRL [(0, 54, 0, 0), (0, 54, 42, 42), (0, 76, 0, 11), (0, 77, 0, 11)] h h)) (r := 54) rfl rfl, fun z => absurd z (fun z => by unfold seB at z; omega), fun _ => ⟨gi_k (by decide) _, funext fun j => gi_a (by decide) _, funext fun j => gi_a (by decide) _⟩⟩
    · refine x_if_ne 31 29 hK rfl rfl rfl (by omega) (fun c => by omega) (fun _ => ?_)
      refine x_iconst 30 hK rfl rfl ?_
      have e9 : seA (snF (gi h 193) (gi h 194) k (gi h 171 42).toNat) (gi h 171 42) k l = -1 := by
        unfold seA
        first | rw [if_neg (by omega)] | rw [if_pos (by omega), if_pos (by omega), if_neg (by omega)]
      exact x_iret hK rfl ⟨by rw [e9], GD_w1 (hG) (r := 54) rfl (by omega) rfl (by omega) (by omega), FRM_w ((FRM.rf : FRM gRL [(0, 54, 0, 0), (0, 54, 42, 42), (0, 76, 0, 11), (0, 77, 0, 11)] h h)) (r := 54) rfl rfl, fun z => absurd z (fun z => by unfold seB at z; omega), fun _ => ⟨gi_k (by decide) _, funext fun j => gi_a (by decide) _, funext fun j => gi_a (by decide) _⟩⟩
  · refine x_if_eq 29 17 hK rfl rfl rfl (by omega) (fun _ => ?_) (fun c => by omega)
    refine x_iconst 30 hK rfl rfl ?_
    have e9 : seA (snF (gi h 193) (gi h 194) k (gi h 171 42).toNat) (gi h 171 42) k l = -1 := by
      unfold seA
      first | rw [if_neg (by omega)] | rw [if_pos (by omega), if_pos (by omega), if_neg (by omega)]
    exact x_iret hK rfl ⟨by rw [e9], GD_w1 (hG) (r := 54) rfl (by omega) rfl (by omega) (by omega), FRM_w ((FRM.rf : FRM gRL [(0, 54, 0, 0), (0, 54, 42, 42), (0, 76, 0, 11), (0, 77, 0, 11)] h h)) (r := 54) rfl rfl, fun z => absurd z (fun z => by unfold seB at z; omega), fun _ => ⟨gi_k (by decide) _, funext fun j => gi_a (by decide) _, funext fun j => gi_a (by decide) _⟩⟩
set_option maxRecDepth 4000 in
theorem ctX10_forget {SP : CT} (hSP : MONO SP) {sh : List (Nat × Nat)} {h : aH} (hG : GD gE gRL sh h) (hX : XI h) : CLd SP 3 mX10_forget [.ref 0] h 0 0 (fun rv h' => rv = some (.int (I (gi h 133 0))) ∧ GD gE gRL sh h' ∧ FRM gRL [(0, 47, 0, 0), (0, 48, 0, 24)] h h' ∧ gi h' 133 0 = 0 ∧ ∀ k, k < 25 → gi h' 134 k = -1) := by
  refine x_met _ rfl (Nat.le_of_ble_eq_true rfl) (fun K hK => ?_)
  have hmono := MONO_CLd hSP 2
  refine x_aload_n 1 hK rfl rfl rfl ?_
  refine x_getR 4 hK rfl rfl (sp_0 (h := h) hG) (rf_0_14 (h := h) hG) ?_
  have g120 := gri (0) (12) hG (a := 133) (r := 47) (k := 0) rfl rfl
  refine x_getE 7 hK rfl (Or.inl rfl) rfl (sp_133 (h := h) hG) (e := (gi h 133 0)) (rfl) ?_
  refine x_istore_n 8 hK rfl rfl [(1, .int (I (gi h 133 0))), (0, .ref 0)] rfl ?_
  refine x_aload_n 9 hK rfl rfl rfl ?_
  refine x_getR 12 hK rfl rfl (sp_0 (h := h) hG) (rf_0_14 (h := h) hG) ?_
  refine x_callV 15 hK hmono rfl rfl [.ref 133] [] rfl rfl (Nat.le_of_ble_eq_true rfl) (Nat.le_of_ble_eq_true rfl) rfl (sp_133 (h := h) hG) (CLd_le (Nat.le_of_ble_eq_true rfl) (kX7_forgetAll_0 hSP [.ref 133] _ hX ⟨gv_r (by decide) rfl, trivial⟩ hG gov_n)) ?_
  rintro v121 h121 ⟨hG121, hF121, o121, m121, q121, y121, -⟩
  obtain rfl := List.mem_singleton.mp m121
  obtain rfl := QS_v q121
  have z0121 : gi h121 133 0 = 0 := ov_at (r := 47) 0 (by decide) (by decide) y121 (by decide)
  have z1121 : ∀ k, k < 25 → gi h121 134 k = -1 := fun k hk => ov_at (r := 48) (-1) (by decide) (by decide) y121 (by revert k; decide)
  refine x_iload_n 16 hK rfl rfl rfl ?_
  exact x_iret hK rfl ⟨rfl, hG121, hF121, z0121, z1121⟩
set_option maxRecDepth 4000 in
theorem ctX11_forget {SP : CT} (hSP : MONO SP) {sh : List (Nat × Nat)} {h : aH} (hG : GD gE gRL sh h) : CLd SP 1 mX11_forget [.ref 171] h 0 0 (fun rv h' => rv = some (.int (I (gi h 171 42))) ∧ GD gE gRL sh h' ∧ FRM gRL [(0, 54, 0, 0), (0, 54, 42, 42)] h h' ∧ gi h' 171 42 = 0) := by
  refine x_met _ rfl (Nat.le_of_ble_eq_true rfl) (fun K hK => ?_)
  have hmono := MONO_CLd hSP 0
  refine x_aload_n 1 hK rfl rfl rfl ?_
  refine x_iconst 2 hK rfl rfl ?_
  refine x_putI 5 hK rfl rfl (sp_171 (h := h) hG) ?_
  refine x_aload_n 6 hK rfl rfl rfl ?_
  have g122 := gri (0) (12) hG (a := 171) (r := 54) (k := 42) rfl rfl
  refine x_getE 9 hK rfl (Or.inl rfl) rfl (sp_171 (h := h) hG) (e := (gi h 171 42)) (gi_k (by decide) _) ?_
  refine x_istore_n 10 hK rfl rfl [(1, .int (I (gi h 171 42))), (0, .ref 171)] rfl ?_
  refine x_aload_n 11 hK rfl rfl rfl ?_
  refine x_iconst 12 hK rfl rfl ?_
  refine x_putI 15 hK rfl rfl (sp_171 (h := h) hG) ?_
  refine x_iload_n 16 hK rfl rfl rfl ?_
  exact x_iret hK rfl ⟨rfl, GD_w1 (GD_w1 (hG) (r := 54) rfl (by omega) rfl (by omega) (by omega)) (r := 54) rfl (by omega) rfl (by omega) (by omega), FRM_w (FRM_w ((FRM.rf : FRM gRL [(0, 54, 0, 0), (0, 54, 42, 42)] h h)) (r := 54) rfl rfl) (r := 54) rfl rfl, gi_same (by omega)⟩
