section
/-! SHEET -/
noncomputable def bI2b (a : Int) : Int := ((I a).toInt8.toInt32).toInt
theorem x_i2bF {CL : CT} {ac : AC} {ret : Option FieldType} {Q : QT} {K : KT} {pc : Nat} {ls : List (Nat × Value)} {st : List Value} {h : aH} {bc bs : Nat} {r1 r2 : Nat} {r3 : Int} {a : Int} (p : Nat) (hK : CLO CL ac ret Q K) (hf : fr ac pc = some (.i2b, r1, r2, r3)) (hp : pc + 1 = p) (hk : K p ls (.int (I (bI2b a)) :: st) h bc bs) : K pc ls (.int (I a) :: st) h bc bs := by
  subst hp
  rw [show I (bI2b a) = (I a).toInt8.toInt32 from t_I _] at hk
  exact x_row hK hf hk
noncomputable def bI2s (a : Int) : Int := ((I a).toInt16.toInt32).toInt
theorem x_i2sF {CL : CT} {ac : AC} {ret : Option FieldType} {Q : QT} {K : KT} {pc : Nat} {ls : List (Nat × Value)} {st : List Value} {h : aH} {bc bs : Nat} {r1 r2 : Nat} {r3 : Int} {a : Int} (p : Nat) (hK : CLO CL ac ret Q K) (hf : fr ac pc = some (.i2s, r1, r2, r3)) (hp : pc + 1 = p) (hk : K p ls (.int (I (bI2s a)) :: st) h bc bs) : K pc ls (.int (I a) :: st) h bc bs := by
  subst hp
  rw [show I (bI2s a) = (I a).toInt16.toInt32 from t_I _] at hk
  exact x_row hK hf hk
theorem bI2b_r (a : Int) : -128 ≤ bI2b a ∧ bI2b a ≤ 127 := i2b_int (I a)
theorem bI2s_r (a : Int) : -32768 ≤ bI2s a ∧ bI2s a ≤ 32767 := i2s_int (I a)
/-- an entry, cut to its kind -/
noncomputable def entF (k x : Int) : Int := if k = 0 then bI2b x else if k = 1 then bI2s x else w32 x
theorem entF_r (k x : Int) : r32 (entF k x) := by
  have a := bI2b_r x
  have b := bI2s_r x
  have c := w32_r x
  unfold entF
  (repeat' split) <;> omega
noncomputable def shE (k n f s i : Int) : Int := if k ≠ 3 ∧ i < n then max 0 (min 9 (entF k (f + i * s))) else 0
theorem shE_r (k n f s i : Int) : 0 ≤ shE k n f s i ∧ shE k n f s i ≤ 9 := by
  unfold shE
  split <;> omega
noncomputable def shS (k n f s : Int) : Nat → Int
  | 0 => 0
  | i + 1 => shS k n f s i + shE k n f s i
theorem shS_r (k n f s : Int) : ∀ i : Nat, 0 ≤ shS k n f s i ∧ shS k n f s i ≤ 9 * i
  | 0 => ⟨Int.le_refl _, Int.le_refl _⟩
  | i + 1 => by
    have a := shS_r k n f s i
    have b := shE_r k n f s i
    show 0 ≤ shS k n f s i + shE k n f s i ∧ shS k n f s i + shE k n f s i ≤ 9 * ((i + 1 : Nat) : Int)
    omega
theorem shS_s {k n f s i : Int} (h : 0 ≤ i) : shS k n f s (i + 1).toNat = shS k n f s i.toNat + shE k n f s i := by
  rw [tn_s h]
  show shS k n f s i.toNat + shE k n f s (i.toNat : Int) = _
  rw [show ((i.toNat : Nat) : Int) = i by omega]
noncomputable def shA (k n f s m : Int) : Int := if (0 ≤ k ∧ k ≤ 3) ∧ n ≤ 8 then (if k ≠ 3 ∧ n < 0 then -2 else if k = 3 then -3 else shS k n f s m.toNat) else -1
set_option maxRecDepth 4000 in
theorem ctX10_putG {SP : CT} (hSP : MONO SP) {h : aH} {v a b : Int} (rv : r32 v) (ra : r32 a) (rb : r32 b) : CLd SP 1 mX10_put [.int (I v), .int (I a), .int (I b)] h 0 0 (fun rv h' => h' = h ∧ rv = some (.int (I (max a (min b v))))) := by
  refine x_met _ rfl (Nat.le_of_ble_eq_true rfl) (fun K hK => ?_)
  have hmono := MONO_CLd hSP 0
  refine x_iload_n 1 hK rfl rfl rfl ?_
  refine x_iload_n 2 hK rfl rfl rfl ?_
  refine x_iload_n 3 hK rfl rfl rfl ?_
  refine x_min 6 hK rfl rfl (Nat.le_of_ble_eq_true rfl) (by omega) (by omega) ?_
  refine x_max 9 hK rfl rfl (Nat.le_of_ble_eq_true rfl) (by omega) (by omega) ?_
  exact x_iret hK rfl ⟨rfl, rfl⟩
set_option maxRecDepth 4000 in
theorem ctX10_entry {SP : CT} (hSP : MONO SP) {h : aH} {k v : Int} (rk : r32 k) : CLd SP 1 mX10_entry [.int (I k), .int (I v)] h 0 0 (fun rv h' => h' = h ∧ rv = some (.int (I (entF k v)))) := by
  refine x_met _ rfl (Nat.le_of_ble_eq_true rfl) (fun K hK => ?_)
  have hmono := MONO_CLd hSP 0
  refine x_iload_n 1 hK rfl rfl rfl ?_
  refine x_if_ne 7 4 hK rfl rfl rfl (by omega) (fun c2 => ?_) (fun c2 => ?_)
  · refine x_iload_n 8 hK rfl rfl rfl ?_
    refine x_iconst 9 hK rfl rfl ?_
    refine x_if_icmp_ne 17 12 hK rfl rfl rfl (by omega) (by omega) (fun c5 => ?_) (fun c5 => ?_)
    · refine x_iload_n 18 hK rfl rfl rfl ?_
      exact x_iret hK rfl ⟨rfl, by rw [show entF k v = w32 v from by unfold entF; first | rw [if_pos (by omega)] | rw [if_neg (by omega), if_pos (by omega)] | rw [if_neg (by omega), if_neg (by omega)]]; rw [I_w]⟩
    · refine x_iload_n 13 hK rfl rfl rfl ?_
      refine x_i2sF 14 hK rfl rfl ?_
      refine x_goto 18 hK rfl rfl ?_
      exact x_iret hK rfl ⟨rfl, by rw [show entF k v = (bI2s v) from by unfold entF; first | rw [if_pos (by omega)] | rw [if_neg (by omega), if_pos (by omega)] | rw [if_neg (by omega), if_neg (by omega)]]⟩
  · refine x_iload_n 5 hK rfl rfl rfl ?_
    refine x_i2bF 6 hK rfl rfl ?_
    exact x_iret hK rfl ⟨rfl, by rw [show entF k v = (bI2b v) from by unfold entF; first | rw [if_pos (by omega)] | rw [if_neg (by omega), if_pos (by omega)] | rw [if_neg (by omega), if_neg (by omega)]]⟩
set_option maxRecDepth 4000 in
theorem ctX10_sheetF {SP : CT} (hSP : MONO SP) {sh : List (Nat × Nat)} {h : aH} (hG : GD gE gRL sh h) {x y z u : Int} (rx : r32 x) (ry : r32 y) (rz : r32 z) (ru : r32 u) : CLd SP 4 mX10_sheet [.ref 0, .int (I x), .int (I y), .int (I z), .int (I u)] h 0 0 (fun rv h' => rv = some (.int (I (shA x y z u (gi h 0 9)))) ∧ GD gE gRL sh h' ∧ FRM gRL [(0, 16, 0, 7)] h h' ∧ ∀ j : Nat, gi h' 22 j = if ((0 ≤ x ∧ x ≤ 3) ∧ y ≤ 8 ∧ ¬ (x ≠ 3 ∧ y < 0)) ∧ (j : Int) < (gi h 0 9) then shE x y z u j else gi h 22 j) := by
  refine x_met _ rfl (Nat.le_of_ble_eq_true rfl) (fun K hK => ?_)
  have hmono := MONO_CLd hSP 3
  have gm := gri 0 8 hG (a := 0) (r := 0) (k := 9) rfl rfl
  have loop : ∀ (mz : Nat) (e w i : Int) (h4 : aH) (ls : List (Nat × Value)), (((gi h 0 9) - i).toNat = mz) → (e = (if x = 3 then 0 else y)) → (0 ≤ i ∧ i ≤ (gi h 0 9)) → ((0 ≤ x ∧ x ≤ 3) ∧ y ≤ 8 ∧ ¬ (x ≠ 3 ∧ y < 0)) → (w = shS x y z u i.toNat) → (∀ j : Nat, gi h4 22 j = if (j : Int) < i then shE x y z u j else gi h 22 j) → lk ls 0 = some (.ref 0) → lk ls 1 = some (.int (I x)) → lk ls 2 = some (.int (I y)) → lk ls 3 = some (.int (I z)) → lk ls 4 = some (.int (I u)) → lk ls 5 = some (.int (I e)) → lk ls 6 = some (.int (I w)) → lk ls 7 = some (.int (I i)) → GD gE gRL sh h4 → FRM gRL [(0, 16, 0, 7)] h h4 → K 47 ls [] h4 0 0 := by
    intro mz
    induction mz using Nat.strongRecOn with
    | ind mz ih =>
    intro e w i h4 ls hm e0 i0 x0 w0 ev l0 l1 l2 l3 l4 l5 l6 l7 hG4 hF4
    have m4 : gi h4 0 9 = gi h 0 9 := FRM_gi hF4 (r := 0) rfl rfl
    have ws := shS_r x y z u i.toNat
    have se := shE_r x y z u i
    have eb : -2147483648 ≤ e ∧ e ≤ 8 := by rw [e0]; split <;> omega
    have sE : shE x y z u i = if i < e then max 0 (min 9 (entF x (z + i * u))) else 0 := by
      unfold shE
      rw [e0]
      by_cases c : x = 3
      · rw [if_pos c, if_neg (by omega), if_neg (by omega)]
      · rw [if_neg c]
        exact if_c (by omega)
    refine x_iload 49 hK rfl rfl l7 ?_
    refine x_aload_n 50 hK rfl rfl l0 ?_
    have g226 := gri (0) (8) hG (a := 0) (r := 0) (k := 9) rfl rfl
    refine x_getE 53 hK rfl (Or.inl rfl) rfl (sp_0 (h := h4) hG4) (e := (gi h 0 9)) (m4) ?_
    refine x_if_icmp_ge 109 56 hK rfl rfl rfl (by omega) (by omega) (fun c4 => ?_) (fun c4 => ?_)
    · refine x_iload_n 110 hK rfl rfl l1 ?_
      refine x_iconst 111 hK rfl rfl ?_
      refine x_if_icmp_ne 119 114 hK rfl rfl rfl (by omega) (by omega) (fun c7 => ?_) (fun c7 => ?_)
      · refine x_iload 121 hK rfl rfl l6 ?_
        have ee : ∀ j : Nat, gi h4 22 j = if ((0 ≤ x ∧ x ≤ 3) ∧ y ≤ 8 ∧ ¬ (x ≠ 3 ∧ y < 0)) ∧ (j : Int) < (gi h 0 9) then shE x y z u j else gi h 22 j := fun j => by
          rw [ev j, show i = (gi h 0 9) by omega]
          by_cases q : (j : Int) < (gi h 0 9)
          · rw [if_pos q, if_pos ⟨x0, q⟩]
          · rw [if_neg q, if_neg (fun z => q z.2)]
        exact x_iret hK rfl ⟨by unfold shA; rw [if_pos (by omega), if_neg (by omega), if_neg (by omega), w0, show i.toNat = (gi h 0 9).toNat by omega], hG4, hF4, ee⟩
      · refine x_bipush 116 hK rfl rfl rfl ?_
        refine x_goto 121 hK rfl rfl ?_
        have ee : ∀ j : Nat, gi h4 22 j = if ((0 ≤ x ∧ x ≤ 3) ∧ y ≤ 8 ∧ ¬ (x ≠ 3 ∧ y < 0)) ∧ (j : Int) < (gi h 0 9) then shE x y z u j else gi h 22 j := fun j => by
          rw [ev j, show i = (gi h 0 9) by omega]
          by_cases q : (j : Int) < (gi h 0 9)
          · rw [if_pos q, if_pos ⟨x0, q⟩]
          · rw [if_neg q, if_neg (fun z => q z.2)]
        exact x_iret hK rfl ⟨by unfold shA; rw [if_pos (by omega), if_neg (by omega), if_pos (by omega)], hG4, hF4, ee⟩
    · refine x_aload_n 57 hK rfl rfl l0 ?_
      refine x_getR 60 hK rfl rfl (sp_0 (h := h4) hG4) (rf_0_8 (h := h4) hG4) ?_
      refine x_iload 62 hK rfl rfl l7 ?_
      refine x_iload 64 hK rfl rfl l7 ?_
      refine x_iload 66 hK rfl rfl l5 ?_
      refine x_if_icmp_ge 89 69 hK rfl rfl rfl (by omega) (by omega) (fun c18 => ?_) (fun c18 => ?_)
      · refine x_iconst 90 hK rfl rfl ?_
        refine x_iastore 91 hK rfl rfl (sp_22 (h := h4) hG4) (by omega) (by omega) (by omega) ?_
        refine x_iload 93 hK rfl rfl l6 ?_
        refine x_aload_n 94 hK rfl rfl l0 ?_
        refine x_getR 97 hK rfl rfl (sp_0 (h := h4) hG4) (rf_0_8 (h := h4) hG4) ?_
        refine x_iload 99 hK rfl rfl l7 ?_
        refine x_ialoadE 100 hK rfl rfl (sp_22 (h := h4) hG4) (by omega) (by omega) (by omega) (e' := 0) (gi_same (by omega)) ?_
        refine x_iadd 101 hK rfl rfl ?_
        refine x_istore 103 hK rfl rfl _ rfl ?_
        refine x_iinc 106 hK rfl rfl (lk1_n l7 (by decide) (Or.inl rfl)) _ rfl ?_
        refine x_goto 47 hK rfl rfl ?_
        exact ih _ (by omega) e (w + 0) (i + 1) _ _ rfl (e0) (by omega) (x0) (by rw [shS_s i0.1, sE, w0]; first | rw [if_pos (by omega)] | rw [if_neg (by omega)]) (fun j => by
          by_cases q : j = i.toNat
          · rw [if_pos (by omega), q]
            exact (gi_same (by omega)).trans (by rw [show ((i.toNat : Nat) : Int) = i by omega, sE]; first | rw [if_pos (by omega)] | rw [if_neg (by omega)])
          · refine (gi_k (by omega) _).trans ((ev j).trans ?_)
            by_cases y : (j : Int) < i
            · rw [if_pos y, if_pos (by omega)]
            · rw [if_neg y, if_neg (by omega)]) (lk1_n (lk1_n l0 (by decide) (Or.inl rfl)) (by decide) (Or.inl rfl)) (lk1_n (lk1_n l1 (by decide) (Or.inl rfl)) (by decide) (Or.inl rfl)) (lk1_n (lk1_n l2 (by decide) (Or.inl rfl)) (by decide) (Or.inl rfl)) (lk1_n (lk1_n l3 (by decide) (Or.inl rfl)) (by decide) (Or.inl rfl)) (lk1_n (lk1_n l4 (by decide) (Or.inl rfl)) (by decide) (Or.inl rfl)) (lk1_n (lk1_n l5 (by decide) (Or.inl rfl)) (by decide) (Or.inl rfl)) (lk1_n lk1_s (by decide) (Or.inl rfl)) lk1_s (GD_wu (hG4) (r := 16) rfl (by omega) rfl (by omega) (by omega)) (FRM_wn 0 7 (hF4) (r := 16) rfl rfl rfl (by omega) (by omega))
      · refine x_iload_n 70 hK rfl rfl l1 ?_
        refine x_iload_n 71 hK rfl rfl l3 ?_
        refine x_iload 73 hK rfl rfl l7 ?_
        refine x_iload 75 hK rfl rfl l4 ?_
        refine x_imul 76 hK rfl rfl ?_
        refine x_iadd 77 hK rfl rfl ?_
        refine x_callS 80 hK hmono rfl (Or.inl rfl) rfl [.int (I x), .int (I (z + (i * u)))] [.int (I i), .ref 22] rfl rfl (Nat.le_of_ble_eq_true rfl) (Nat.le_of_ble_eq_true rfl) (CLd_le (Nat.le_of_ble_eq_true rfl) (ctX10_entry hSP (k := x) (v := (z + (i * u))) (by omega))) ?_
        rintro v9 h9 ⟨e9, rfl⟩
        rw [e9]
        clear e9
        have g227 := entF_r x (z + (i * u))
        refine x_iconst 81 hK rfl rfl ?_
        refine x_bipush 83 hK rfl rfl rfl ?_
        refine x_callS 86 hK hmono rfl (Or.inl rfl) rfl [.int (I (entF x (z + (i * u)))), .int (I 0), .int (I 9)] [.int (I i), .ref 22] rfl rfl (Nat.le_of_ble_eq_true rfl) (Nat.le_of_ble_eq_true rfl) (CLd_le (Nat.le_of_ble_eq_true rfl) (ctX10_putG hSP (v := (entF x (z + (i * u)))) (a := 0) (b := 9) (by omega) (by omega) (by omega))) ?_
        rintro v9 h9 ⟨e9, rfl⟩
        rw [e9]
        clear e9
        refine x_goto 90 hK rfl rfl ?_
        refine x_iastore 91 hK rfl rfl (sp_22 (h := h4) hG4) (by omega) (by omega) (by omega) ?_
        refine x_iload 93 hK rfl rfl l6 ?_
        refine x_aload_n 94 hK rfl rfl l0 ?_
        refine x_getR 97 hK rfl rfl (sp_0 (h := h4) hG4) (rf_0_8 (h := h4) hG4) ?_
        refine x_iload 99 hK rfl rfl l7 ?_
        refine x_ialoadE 100 hK rfl rfl (sp_22 (h := h4) hG4) (by omega) (by omega) (by omega) (e' := (max 0 (min 9 (entF x (z + (i * u)))))) (gi_same (by omega)) ?_
        refine x_iadd 101 hK rfl rfl ?_
        refine x_istore 103 hK rfl rfl _ rfl ?_
        refine x_iinc 106 hK rfl rfl (lk1_n l7 (by decide) (Or.inl rfl)) _ rfl ?_
        refine x_goto 47 hK rfl rfl ?_
        exact ih _ (by omega) e (w + (max 0 (min 9 (entF x (z + (i * u)))))) (i + 1) _ _ rfl (e0) (by omega) (x0) (by rw [shS_s i0.1, sE, w0]; first | rw [if_pos (by omega)] | rw [if_neg (by omega)]) (fun j => by
          by_cases q : j = i.toNat
          · rw [if_pos (by omega), q]
            exact (gi_same (by omega)).trans (by rw [show ((i.toNat : Nat) : Int) = i by omega, sE]; first | rw [if_pos (by omega)] | rw [if_neg (by omega)])
          · refine (gi_k (by omega) _).trans ((ev j).trans ?_)
            by_cases y : (j : Int) < i
            · rw [if_pos y, if_pos (by omega)]
            · rw [if_neg y, if_neg (by omega)]) (lk1_n (lk1_n l0 (by decide) (Or.inl rfl)) (by decide) (Or.inl rfl)) (lk1_n (lk1_n l1 (by decide) (Or.inl rfl)) (by decide) (Or.inl rfl)) (lk1_n (lk1_n l2 (by decide) (Or.inl rfl)) (by decide) (Or.inl rfl)) (lk1_n (lk1_n l3 (by decide) (Or.inl rfl)) (by decide) (Or.inl rfl)) (lk1_n (lk1_n l4 (by decide) (Or.inl rfl)) (by decide) (Or.inl rfl)) (lk1_n (lk1_n l5 (by decide) (Or.inl rfl)) (by decide) (Or.inl rfl)) (lk1_n lk1_s (by decide) (Or.inl rfl)) lk1_s (GD_wu (hG4) (r := 16) rfl (by omega) rfl (by omega) (by omega)) (FRM_wn 0 7 (hF4) (r := 16) rfl rfl rfl (by omega) (by omega))
  refine x_iload_n 1 hK rfl rfl rfl ?_
  refine x_if_lt 15 4 hK rfl rfl rfl (by omega) (fun c2 => ?_) (fun c2 => ?_)
  · refine x_iconst 16 hK rfl rfl ?_
    exact x_iret hK rfl ⟨by unfold shA; rw [if_neg (by omega)], hG, FRM.rf, fun j => (if_neg (fun z => by have z1 := z.1; omega)).symm⟩
  · refine x_iload_n 5 hK rfl rfl rfl ?_
    refine x_iconst 6 hK rfl rfl ?_
    refine x_if_icmp_gt 15 9 hK rfl rfl rfl (by omega) (by omega) (fun c7 => ?_) (fun c7 => ?_)
    · refine x_iconst 16 hK rfl rfl ?_
      exact x_iret hK rfl ⟨by unfold shA; rw [if_neg (by omega)], hG, FRM.rf, fun j => (if_neg (fun z => by have z1 := z.1; omega)).symm⟩
    · refine x_iload_n 10 hK rfl rfl rfl ?_
      refine x_bipush 12 hK rfl rfl rfl ?_
      refine x_if_icmp_le 17 15 hK rfl rfl rfl (by omega) (by omega) (fun c12 => ?_) (fun c12 => ?_)
      · refine x_iload_n 18 hK rfl rfl rfl ?_
        refine x_iconst 19 hK rfl rfl ?_
        refine x_if_icmp_ge 29 22 hK rfl rfl rfl (by omega) (by omega) (fun c15 => ?_) (fun c15 => ?_)
        · refine x_iload_n 30 hK rfl rfl rfl ?_
          refine x_iconst 31 hK rfl rfl ?_
          refine x_if_icmp_ne 38 34 hK rfl rfl rfl (by omega) (by omega) (fun c => by omega) (fun _ => ?_)
          refine x_iconst 35 hK rfl rfl ?_
          refine x_goto 39 hK rfl rfl ?_
          refine x_istore 41 hK rfl rfl [(5, .int (I 0)), (0, .ref 0), (1, .int (I x)), (2, .int (I y)), (3, .int (I z)), (4, .int (I u))] rfl ?_
          refine x_iconst 42 hK rfl rfl ?_
          refine x_istore 44 hK rfl rfl [(6, .int (I 0)), (5, .int (I 0)), (0, .ref 0), (1, .int (I x)), (2, .int (I y)), (3, .int (I z)), (4, .int (I u))] rfl ?_
          refine x_iconst 45 hK rfl rfl ?_
          refine x_istore 47 hK rfl rfl [(7, .int (I 0)), (6, .int (I 0)), (5, .int (I 0)), (0, .ref 0), (1, .int (I x)), (2, .int (I y)), (3, .int (I z)), (4, .int (I u))] rfl ?_
          exact loop _ 0 0 0 _ _ rfl (by first | rw [if_pos (by omega)] | rw [if_neg (by omega)]) (by omega) (by omega) (rfl) (fun j => (if_neg (by omega)).symm) rfl rfl rfl rfl rfl rfl rfl rfl (hG) ((FRM.rf : FRM gRL [(0, 16, 0, 7)] h h))
        · refine x_iload_n 23 hK rfl rfl rfl ?_
          refine x_if_ge 29 26 hK rfl rfl rfl (by omega) (fun c28 => ?_) (fun c28 => ?_)
          · refine x_iload_n 30 hK rfl rfl rfl ?_
            refine x_iconst 31 hK rfl rfl ?_
            refine x_if_icmp_ne 38 34 hK rfl rfl rfl (by omega) (by omega) (fun _ => ?_) (fun c => by omega)
            refine x_iload_n 39 hK rfl rfl rfl ?_
            refine x_istore 41 hK rfl rfl [(5, .int (I y)), (0, .ref 0), (1, .int (I x)), (2, .int (I y)), (3, .int (I z)), (4, .int (I u))] rfl ?_
            refine x_iconst 42 hK rfl rfl ?_
            refine x_istore 44 hK rfl rfl [(6, .int (I 0)), (5, .int (I y)), (0, .ref 0), (1, .int (I x)), (2, .int (I y)), (3, .int (I z)), (4, .int (I u))] rfl ?_
            refine x_iconst 45 hK rfl rfl ?_
            refine x_istore 47 hK rfl rfl [(7, .int (I 0)), (6, .int (I 0)), (5, .int (I y)), (0, .ref 0), (1, .int (I x)), (2, .int (I y)), (3, .int (I z)), (4, .int (I u))] rfl ?_
            exact loop _ y 0 0 _ _ rfl (by first | rw [if_pos (by omega)] | rw [if_neg (by omega)]) (by omega) (by omega) (rfl) (fun j => (if_neg (by omega)).symm) rfl rfl rfl rfl rfl rfl rfl rfl (hG) ((FRM.rf : FRM gRL [(0, 16, 0, 7)] h h))
          · refine x_bipush 28 hK rfl rfl rfl ?_
            exact x_iret hK rfl ⟨by unfold shA; rw [if_pos (by omega), if_pos (by omega)], hG, FRM.rf, fun j => (if_neg (fun z => by have z1 := z.1; omega)).symm⟩
      · refine x_iconst 16 hK rfl rfl ?_
        exact x_iret hK rfl ⟨by unfold shA; rw [if_neg (by omega)], hG, FRM.rf, fun j => (if_neg (fun z => by have z1 := z.1; omega)).symm⟩
set_option maxRecDepth 4000 in
theorem ctX11_sheetF {SP : CT} (hSP : MONO SP) {sh : List (Nat × Nat)} {h : aH} (hG : GD gE gRL sh h) {x y z u : Int} (rx : r32 x) (ry : r32 y) (rz : r32 z) (ru : r32 u) : CLd SP 4 mX11_sheet [.ref 171, .int (I x), .int (I y), .int (I z), .int (I u)] h 0 0 (fun rv h' => rv = some (.int (I (shA x y z u (gi h 171 7)))) ∧ GD gE gRL sh h' ∧ FRM gRL [(0, 54, 0, 0), (0, 60, 0, 7)] h h' ∧ ∀ j : Nat, gi h' 177 j = if ((0 ≤ x ∧ x ≤ 3) ∧ y ≤ 8 ∧ ¬ (x ≠ 3 ∧ y < 0)) ∧ (j : Int) < (gi h 171 7) then shE x y z u j else gi h 177 j) := by
  refine x_met _ rfl (Nat.le_of_ble_eq_true rfl) (fun K hK => ?_)
  have hmono := MONO_CLd hSP 3
  have gm := gri 0 8 hG (a := 171) (r := 54) (k := 7) rfl rfl
  have loop : ∀ (mz : Nat) (w v i : Int) (h4 : aH) (ls : List (Nat × Value)), (((gi h 171 7) - i).toNat = mz) → (0 ≤ i ∧ i ≤ (gi h 171 7)) → ((0 ≤ x ∧ x ≤ 3) ∧ y ≤ 8 ∧ ¬ (x ≠ 3 ∧ y < 0)) → (w = shS x y z u i.toNat) → (v = z + i * u) → (∀ j : Nat, gi h4 177 j = if (j : Int) < i then shE x y z u j else gi h 177 j) → lk ls 0 = some (.ref 171) → lk ls 1 = some (.int (I x)) → lk ls 2 = some (.int (I y)) → lk ls 3 = some (.int (I z)) → lk ls 4 = some (.int (I u)) → lk ls 5 = some (.int (I w)) → lk ls 6 = some (.int (I v)) → lk ls 7 = some (.int (I i)) → GD gE gRL sh h4 → FRM gRL [(0, 54, 0, 0), (0, 60, 0, 7)] h h4 → K 46 ls [] h4 0 0 := by
    intro mz
    induction mz using Nat.strongRecOn with
    | ind mz ih =>
    intro w v i h4 ls hm i0 x0 w0 v0 ev l0 l1 l2 l3 l4 l5 l6 l7 hG4 hF4
    have m4 : gi h4 171 7 = gi h 171 7 := FRM_gi hF4 (r := 54) rfl rfl
    have ws := shS_r x y z u i.toNat
    have se := shE_r x y z u i
    have b1 := bI2b_r v
    have b2 := bI2s_r v
    have b3 := w32_r v
    refine x_iload 48 hK rfl rfl l7 ?_
    refine x_aload_n 49 hK rfl rfl l0 ?_
    have g228 := gri (0) (8) hG (a := 171) (r := 54) (k := 7) rfl rfl
    refine x_getE 52 hK rfl (Or.inl rfl) rfl (sp_171 (h := h4) hG4) (e := (gi h 171 7)) (m4) ?_
    refine x_if_icmp_ge 138 55 hK rfl rfl rfl (by omega) (by omega) (fun c4 => ?_) (fun c4 => ?_)
    · refine x_iload_n 139 hK rfl rfl l1 ?_
      refine x_iconst 140 hK rfl rfl ?_
      refine x_if_icmp_ne 148 143 hK rfl rfl rfl (by omega) (by omega) (fun c7 => ?_) (fun c7 => ?_)
      · refine x_iload 150 hK rfl rfl l5 ?_
        have ee : ∀ j : Nat, gi h4 177 j = if ((0 ≤ x ∧ x ≤ 3) ∧ y ≤ 8 ∧ ¬ (x ≠ 3 ∧ y < 0)) ∧ (j : Int) < (gi h 171 7) then shE x y z u j else gi h 177 j := fun j => by
          rw [ev j, show i = (gi h 171 7) by omega]
          by_cases q : (j : Int) < (gi h 171 7)
          · rw [if_pos q, if_pos ⟨x0, q⟩]
          · rw [if_neg q, if_neg (fun z => q z.2)]
        exact x_iret hK rfl ⟨by unfold shA; rw [if_pos (by omega), if_neg (by omega), if_neg (by omega), w0, show i.toNat = (gi h 171 7).toNat by omega], hG4, hF4, ee⟩
      · refine x_bipush 145 hK rfl rfl rfl ?_
        refine x_goto 150 hK rfl rfl ?_
        have ee : ∀ j : Nat, gi h4 177 j = if ((0 ≤ x ∧ x ≤ 3) ∧ y ≤ 8 ∧ ¬ (x ≠ 3 ∧ y < 0)) ∧ (j : Int) < (gi h 171 7) then shE x y z u j else gi h 177 j := fun j => by
          rw [ev j, show i = (gi h 171 7) by omega]
          by_cases q : (j : Int) < (gi h 171 7)
          · rw [if_pos q, if_pos ⟨x0, q⟩]
          · rw [if_neg q, if_neg (fun z => q z.2)]
        exact x_iret hK rfl ⟨by unfold shA; rw [if_pos (by omega), if_neg (by omega), if_pos (by omega)], hG4, hF4, ee⟩
    · refine x_iload_n 56 hK rfl rfl l1 ?_
      refine x_if_ne 65 59 hK rfl rfl rfl (by omega) (fun c14 => ?_) (fun c14 => ?_)
      · refine x_iload_n 66 hK rfl rfl l1 ?_
        refine x_iconst 67 hK rfl rfl ?_
        refine x_if_icmp_ne 76 70 hK rfl rfl rfl (by omega) (by omega) (fun c17 => ?_) (fun c17 => ?_)
        · refine x_iload 78 hK rfl rfl l6 ?_
          rw [← I_w v]
          have en : entF x (z + i * u) = (w32 v) := by rw [← v0]; unfold entF; first | rw [if_pos (by omega)] | rw [if_neg (by omega), if_pos (by omega)] | rw [if_neg (by omega), if_neg (by omega)]
          refine x_istore 80 hK rfl rfl _ rfl ?_
          refine x_aload_n 81 hK rfl rfl (lk1_n l0 (by decide) (Or.inl rfl)) ?_
          refine x_getR 84 hK rfl rfl (sp_171 (h := h4) hG4) (rf_171_13 (h := h4) hG4) ?_
          refine x_iload 86 hK rfl rfl (lk1_n l7 (by decide) (Or.inl rfl)) ?_
          refine x_iload_n 87 hK rfl rfl (lk1_n l1 (by decide) (Or.inl rfl)) ?_
          refine x_iconst 88 hK rfl rfl ?_
          refine x_if_icmp_eq 97 91 hK rfl rfl rfl (by omega) (by omega) (fun c26 => ?_) (fun c26 => ?_)
          · refine x_iconst 98 hK rfl rfl ?_
            refine x_goto 112 hK rfl rfl ?_
            refine x_iastore 113 hK rfl rfl (sp_177 (h := h4) hG4) (by omega) (by omega) (by omega) ?_
            refine x_iload 115 hK rfl rfl (lk1_n l5 (by decide) (Or.inl rfl)) ?_
            refine x_aload_n 116 hK rfl rfl (lk1_n l0 (by decide) (Or.inl rfl)) ?_
            refine x_getR 119 hK rfl rfl (sp_171 (h := h4) hG4) (rf_171_13 (h := h4) hG4) ?_
            refine x_iload 121 hK rfl rfl (lk1_n l7 (by decide) (Or.inl rfl)) ?_
            refine x_ialoadE 122 hK rfl rfl (sp_177 (h := h4) hG4) (by omega) (by omega) (by omega) (e' := 0) (gi_same (by omega)) ?_
            refine x_iadd 123 hK rfl rfl ?_
            refine x_istore 125 hK rfl rfl _ rfl ?_
            refine x_iload 127 hK rfl rfl (lk1_n (lk1_n l6 (by decide) (Or.inl rfl)) (by decide) (Or.inl rfl)) ?_
            refine x_iload 129 hK rfl rfl (lk1_n (lk1_n l4 (by decide) (Or.inl rfl)) (by decide) (Or.inl rfl)) ?_
            refine x_iadd 130 hK rfl rfl ?_
            refine x_istore 132 hK rfl rfl _ rfl ?_
            refine x_iinc 135 hK rfl rfl (lk1_n (lk1_n (lk1_n l7 (by decide) (Or.inl rfl)) (by decide) (Or.inl rfl)) (by decide) (Or.inl rfl)) _ rfl ?_
            refine x_goto 46 hK rfl rfl ?_
            exact ih _ (by omega) (w + 0) (v + u) (i + 1) _ _ rfl (by omega) (x0) (by rw [shS_s i0.1, w0]; unfold shE; rw [en]; first | rw [if_pos (by omega)] | rw [if_neg (by omega)]) (by rw [v0, Int.add_mul, Int.one_mul, Int.add_assoc]) (fun j => by
              by_cases q : j = i.toNat
              · rw [if_pos (by omega), q]
                exact (gi_same (by omega)).trans (by rw [show ((i.toNat : Nat) : Int) = i by omega]; unfold shE; rw [en]; first | rw [if_pos (by omega)] | rw [if_neg (by omega)])
              · refine (gi_k (by omega) _).trans ((ev j).trans ?_)
                by_cases y : (j : Int) < i
                · rw [if_pos y, if_pos (by omega)]
                · rw [if_neg y, if_neg (by omega)]) (lk1_n (lk1_n (lk1_n (lk1_n l0 (by decide) (Or.inl rfl)) (by decide) (Or.inl rfl)) (by decide) (Or.inl rfl)) (by decide) (Or.inl rfl)) (lk1_n (lk1_n (lk1_n (lk1_n l1 (by decide) (Or.inl rfl)) (by decide) (Or.inl rfl)) (by decide) (Or.inl rfl)) (by decide) (Or.inl rfl)) (lk1_n (lk1_n (lk1_n (lk1_n l2 (by decide) (Or.inl rfl)) (by decide) (Or.inl rfl)) (by decide) (Or.inl rfl)) (by decide) (Or.inl rfl)) (lk1_n (lk1_n (lk1_n (lk1_n l3 (by decide) (Or.inl rfl)) (by decide) (Or.inl rfl)) (by decide) (Or.inl rfl)) (by decide) (Or.inl rfl)) (lk1_n (lk1_n (lk1_n (lk1_n l4 (by decide) (Or.inl rfl)) (by decide) (Or.inl rfl)) (by decide) (Or.inl rfl)) (by decide) (Or.inl rfl)) (lk1_n (lk1_n lk1_s (by decide) (Or.inl rfl)) (by decide) (Or.inl rfl)) (lk1_n lk1_s (by decide) (Or.inl rfl)) lk1_s (GD_wu (hG4) (r := 60) rfl (by omega) rfl (by omega) (by omega)) (FRM_wn 0 7 (hF4) (r := 60) rfl rfl rfl (by omega) (by omega))
          · refine x_iload 93 hK rfl rfl (lk1_n l7 (by decide) (Or.inl rfl)) ?_
            refine x_iload_n 94 hK rfl rfl (lk1_n l2 (by decide) (Or.inl rfl)) ?_
            refine x_if_icmp_lt 101 97 hK rfl rfl rfl (by omega) (by omega) (fun c46 => ?_) (fun c46 => ?_)
            · refine x_iconst 102 hK rfl rfl ?_
              refine x_bipush 104 hK rfl rfl rfl ?_
              refine x_iload 106 hK rfl rfl lk1_s ?_
              refine x_min 109 hK rfl rfl (Nat.le_of_ble_eq_true rfl) (by omega) (by omega) ?_
              refine x_max 112 hK rfl rfl (Nat.le_of_ble_eq_true rfl) (by omega) (by omega) ?_
              refine x_iastore 113 hK rfl rfl (sp_177 (h := h4) hG4) (by omega) (by omega) (by omega) ?_
              refine x_iload 115 hK rfl rfl (lk1_n l5 (by decide) (Or.inl rfl)) ?_
              refine x_aload_n 116 hK rfl rfl (lk1_n l0 (by decide) (Or.inl rfl)) ?_
              refine x_getR 119 hK rfl rfl (sp_171 (h := h4) hG4) (rf_171_13 (h := h4) hG4) ?_
              refine x_iload 121 hK rfl rfl (lk1_n l7 (by decide) (Or.inl rfl)) ?_
              refine x_ialoadE 122 hK rfl rfl (sp_177 (h := h4) hG4) (by omega) (by omega) (by omega) (e' := (max 0 (min 9 (w32 v)))) (gi_same (by omega)) ?_
              refine x_iadd 123 hK rfl rfl ?_
              refine x_istore 125 hK rfl rfl _ rfl ?_
              refine x_iload 127 hK rfl rfl (lk1_n (lk1_n l6 (by decide) (Or.inl rfl)) (by decide) (Or.inl rfl)) ?_
              refine x_iload 129 hK rfl rfl (lk1_n (lk1_n l4 (by decide) (Or.inl rfl)) (by decide) (Or.inl rfl)) ?_
              refine x_iadd 130 hK rfl rfl ?_
              refine x_istore 132 hK rfl rfl _ rfl ?_
              refine x_iinc 135 hK rfl rfl (lk1_n (lk1_n (lk1_n l7 (by decide) (Or.inl rfl)) (by decide) (Or.inl rfl)) (by decide) (Or.inl rfl)) _ rfl ?_
              refine x_goto 46 hK rfl rfl ?_
              exact ih _ (by omega) (w + (max 0 (min 9 (w32 v)))) (v + u) (i + 1) _ _ rfl (by omega) (x0) (by rw [shS_s i0.1, w0]; unfold shE; rw [en]; first | rw [if_pos (by omega)] | rw [if_neg (by omega)]) (by rw [v0, Int.add_mul, Int.one_mul, Int.add_assoc]) (fun j => by
                by_cases q : j = i.toNat
                · rw [if_pos (by omega), q]
                  exact (gi_same (by omega)).trans (by rw [show ((i.toNat : Nat) : Int) = i by omega]; unfold shE; rw [en]; first | rw [if_pos (by omega)] | rw [if_neg (by omega)])
                · refine (gi_k (by omega) _).trans ((ev j).trans ?_)
                  by_cases y : (j : Int) < i
                  · rw [if_pos y, if_pos (by omega)]
                  · rw [if_neg y, if_neg (by omega)]) (lk1_n (lk1_n (lk1_n (lk1_n l0 (by decide) (Or.inl rfl)) (by decide) (Or.inl rfl)) (by decide) (Or.inl rfl)) (by decide) (Or.inl rfl)) (lk1_n (lk1_n (lk1_n (lk1_n l1 (by decide) (Or.inl rfl)) (by decide) (Or.inl rfl)) (by decide) (Or.inl rfl)) (by decide) (Or.inl rfl)) (lk1_n (lk1_n (lk1_n (lk1_n l2 (by decide) (Or.inl rfl)) (by decide) (Or.inl rfl)) (by decide) (Or.inl rfl)) (by decide) (Or.inl rfl)) (lk1_n (lk1_n (lk1_n (lk1_n l3 (by decide) (Or.inl rfl)) (by decide) (Or.inl rfl)) (by decide) (Or.inl rfl)) (by decide) (Or.inl rfl)) (lk1_n (lk1_n (lk1_n (lk1_n l4 (by decide) (Or.inl rfl)) (by decide) (Or.inl rfl)) (by decide) (Or.inl rfl)) (by decide) (Or.inl rfl)) (lk1_n (lk1_n lk1_s (by decide) (Or.inl rfl)) (by decide) (Or.inl rfl)) (lk1_n lk1_s (by decide) (Or.inl rfl)) lk1_s (GD_wu (hG4) (r := 60) rfl (by omega) rfl (by omega) (by omega)) (FRM_wn 0 7 (hF4) (r := 60) rfl rfl rfl (by omega) (by omega))
            · refine x_iconst 98 hK rfl rfl ?_
              refine x_goto 112 hK rfl rfl ?_
              refine x_iastore 113 hK rfl rfl (sp_177 (h := h4) hG4) (by omega) (by omega) (by omega) ?_
              refine x_iload 115 hK rfl rfl (lk1_n l5 (by decide) (Or.inl rfl)) ?_
              refine x_aload_n 116 hK rfl rfl (lk1_n l0 (by decide) (Or.inl rfl)) ?_
              refine x_getR 119 hK rfl rfl (sp_171 (h := h4) hG4) (rf_171_13 (h := h4) hG4) ?_
              refine x_iload 121 hK rfl rfl (lk1_n l7 (by decide) (Or.inl rfl)) ?_
              refine x_ialoadE 122 hK rfl rfl (sp_177 (h := h4) hG4) (by omega) (by omega) (by omega) (e' := 0) (gi_same (by omega)) ?_
              refine x_iadd 123 hK rfl rfl ?_
              refine x_istore 125 hK rfl rfl _ rfl ?_
              refine x_iload 127 hK rfl rfl (lk1_n (lk1_n l6 (by decide) (Or.inl rfl)) (by decide) (Or.inl rfl)) ?_
              refine x_iload 129 hK rfl rfl (lk1_n (lk1_n l4 (by decide) (Or.inl rfl)) (by decide) (Or.inl rfl)) ?_
              refine x_iadd 130 hK rfl rfl ?_
              refine x_istore 132 hK rfl rfl _ rfl ?_
              refine x_iinc 135 hK rfl rfl (lk1_n (lk1_n (lk1_n l7 (by decide) (Or.inl rfl)) (by decide) (Or.inl rfl)) (by decide) (Or.inl rfl)) _ rfl ?_
              refine x_goto 46 hK rfl rfl ?_
              exact ih _ (by omega) (w + 0) (v + u) (i + 1) _ _ rfl (by omega) (x0) (by rw [shS_s i0.1, w0]; unfold shE; rw [en]; first | rw [if_pos (by omega)] | rw [if_neg (by omega)]) (by rw [v0, Int.add_mul, Int.one_mul, Int.add_assoc]) (fun j => by
                by_cases q : j = i.toNat
                · rw [if_pos (by omega), q]
                  exact (gi_same (by omega)).trans (by rw [show ((i.toNat : Nat) : Int) = i by omega]; unfold shE; rw [en]; first | rw [if_pos (by omega)] | rw [if_neg (by omega)])
                · refine (gi_k (by omega) _).trans ((ev j).trans ?_)
                  by_cases y : (j : Int) < i
                  · rw [if_pos y, if_pos (by omega)]
                  · rw [if_neg y, if_neg (by omega)]) (lk1_n (lk1_n (lk1_n (lk1_n l0 (by decide) (Or.inl rfl)) (by decide) (Or.inl rfl)) (by decide) (Or.inl rfl)) (by decide) (Or.inl rfl)) (lk1_n (lk1_n (lk1_n (lk1_n l1 (by decide) (Or.inl rfl)) (by decide) (Or.inl rfl)) (by decide) (Or.inl rfl)) (by decide) (Or.inl rfl)) (lk1_n (lk1_n (lk1_n (lk1_n l2 (by decide) (Or.inl rfl)) (by decide) (Or.inl rfl)) (by decide) (Or.inl rfl)) (by decide) (Or.inl rfl)) (lk1_n (lk1_n (lk1_n (lk1_n l3 (by decide) (Or.inl rfl)) (by decide) (Or.inl rfl)) (by decide) (Or.inl rfl)) (by decide) (Or.inl rfl)) (lk1_n (lk1_n (lk1_n (lk1_n l4 (by decide) (Or.inl rfl)) (by decide) (Or.inl rfl)) (by decide) (Or.inl rfl)) (by decide) (Or.inl rfl)) (lk1_n (lk1_n lk1_s (by decide) (Or.inl rfl)) (by decide) (Or.inl rfl)) (lk1_n lk1_s (by decide) (Or.inl rfl)) lk1_s (GD_wu (hG4) (r := 60) rfl (by omega) rfl (by omega) (by omega)) (FRM_wn 0 7 (hF4) (r := 60) rfl rfl rfl (by omega) (by omega))
        · refine x_iload 72 hK rfl rfl l6 ?_
          refine x_i2sF 73 hK rfl rfl ?_
          refine x_goto 78 hK rfl rfl ?_
          have en : entF x (z + i * u) = (bI2s v) := by rw [← v0]; unfold entF; first | rw [if_pos (by omega)] | rw [if_neg (by omega), if_pos (by omega)] | rw [if_neg (by omega), if_neg (by omega)]
          refine x_istore 80 hK rfl rfl _ rfl ?_
          refine x_aload_n 81 hK rfl rfl (lk1_n l0 (by decide) (Or.inl rfl)) ?_
          refine x_getR 84 hK rfl rfl (sp_171 (h := h4) hG4) (rf_171_13 (h := h4) hG4) ?_
          refine x_iload 86 hK rfl rfl (lk1_n l7 (by decide) (Or.inl rfl)) ?_
          refine x_iload_n 87 hK rfl rfl (lk1_n l1 (by decide) (Or.inl rfl)) ?_
          refine x_iconst 88 hK rfl rfl ?_
          refine x_if_icmp_eq 97 91 hK rfl rfl rfl (by omega) (by omega) (fun c => by omega) (fun _ => ?_)
          refine x_iload 93 hK rfl rfl (lk1_n l7 (by decide) (Or.inl rfl)) ?_
          refine x_iload_n 94 hK rfl rfl (lk1_n l2 (by decide) (Or.inl rfl)) ?_
          refine x_if_icmp_lt 101 97 hK rfl rfl rfl (by omega) (by omega) (fun c97 => ?_) (fun c97 => ?_)
          · refine x_iconst 102 hK rfl rfl ?_
            refine x_bipush 104 hK rfl rfl rfl ?_
            refine x_iload 106 hK rfl rfl lk1_s ?_
            refine x_min 109 hK rfl rfl (Nat.le_of_ble_eq_true rfl) (by omega) (by omega) ?_
            refine x_max 112 hK rfl rfl (Nat.le_of_ble_eq_true rfl) (by omega) (by omega) ?_
            refine x_iastore 113 hK rfl rfl (sp_177 (h := h4) hG4) (by omega) (by omega) (by omega) ?_
            refine x_iload 115 hK rfl rfl (lk1_n l5 (by decide) (Or.inl rfl)) ?_
            refine x_aload_n 116 hK rfl rfl (lk1_n l0 (by decide) (Or.inl rfl)) ?_
            refine x_getR 119 hK rfl rfl (sp_171 (h := h4) hG4) (rf_171_13 (h := h4) hG4) ?_
            refine x_iload 121 hK rfl rfl (lk1_n l7 (by decide) (Or.inl rfl)) ?_
            refine x_ialoadE 122 hK rfl rfl (sp_177 (h := h4) hG4) (by omega) (by omega) (by omega) (e' := (max 0 (min 9 (bI2s v)))) (gi_same (by omega)) ?_
            refine x_iadd 123 hK rfl rfl ?_
            refine x_istore 125 hK rfl rfl _ rfl ?_
            refine x_iload 127 hK rfl rfl (lk1_n (lk1_n l6 (by decide) (Or.inl rfl)) (by decide) (Or.inl rfl)) ?_
            refine x_iload 129 hK rfl rfl (lk1_n (lk1_n l4 (by decide) (Or.inl rfl)) (by decide) (Or.inl rfl)) ?_
            refine x_iadd 130 hK rfl rfl ?_
            refine x_istore 132 hK rfl rfl _ rfl ?_
            refine x_iinc 135 hK rfl rfl (lk1_n (lk1_n (lk1_n l7 (by decide) (Or.inl rfl)) (by decide) (Or.inl rfl)) (by decide) (Or.inl rfl)) _ rfl ?_
            refine x_goto 46 hK rfl rfl ?_
            exact ih _ (by omega) (w + (max 0 (min 9 (bI2s v)))) (v + u) (i + 1) _ _ rfl (by omega) (x0) (by rw [shS_s i0.1, w0]; unfold shE; rw [en]; first | rw [if_pos (by omega)] | rw [if_neg (by omega)]) (by rw [v0, Int.add_mul, Int.one_mul, Int.add_assoc]) (fun j => by
              by_cases q : j = i.toNat
              · rw [if_pos (by omega), q]
                exact (gi_same (by omega)).trans (by rw [show ((i.toNat : Nat) : Int) = i by omega]; unfold shE; rw [en]; first | rw [if_pos (by omega)] | rw [if_neg (by omega)])
              · refine (gi_k (by omega) _).trans ((ev j).trans ?_)
                by_cases y : (j : Int) < i
                · rw [if_pos y, if_pos (by omega)]
                · rw [if_neg y, if_neg (by omega)]) (lk1_n (lk1_n (lk1_n (lk1_n l0 (by decide) (Or.inl rfl)) (by decide) (Or.inl rfl)) (by decide) (Or.inl rfl)) (by decide) (Or.inl rfl)) (lk1_n (lk1_n (lk1_n (lk1_n l1 (by decide) (Or.inl rfl)) (by decide) (Or.inl rfl)) (by decide) (Or.inl rfl)) (by decide) (Or.inl rfl)) (lk1_n (lk1_n (lk1_n (lk1_n l2 (by decide) (Or.inl rfl)) (by decide) (Or.inl rfl)) (by decide) (Or.inl rfl)) (by decide) (Or.inl rfl)) (lk1_n (lk1_n (lk1_n (lk1_n l3 (by decide) (Or.inl rfl)) (by decide) (Or.inl rfl)) (by decide) (Or.inl rfl)) (by decide) (Or.inl rfl)) (lk1_n (lk1_n (lk1_n (lk1_n l4 (by decide) (Or.inl rfl)) (by decide) (Or.inl rfl)) (by decide) (Or.inl rfl)) (by decide) (Or.inl rfl)) (lk1_n (lk1_n lk1_s (by decide) (Or.inl rfl)) (by decide) (Or.inl rfl)) (lk1_n lk1_s (by decide) (Or.inl rfl)) lk1_s (GD_wu (hG4) (r := 60) rfl (by omega) rfl (by omega) (by omega)) (FRM_wn 0 7 (hF4) (r := 60) rfl rfl rfl (by omega) (by omega))
          · refine x_iconst 98 hK rfl rfl ?_
            refine x_goto 112 hK rfl rfl ?_
            refine x_iastore 113 hK rfl rfl (sp_177 (h := h4) hG4) (by omega) (by omega) (by omega) ?_
            refine x_iload 115 hK rfl rfl (lk1_n l5 (by decide) (Or.inl rfl)) ?_
            refine x_aload_n 116 hK rfl rfl (lk1_n l0 (by decide) (Or.inl rfl)) ?_
            refine x_getR 119 hK rfl rfl (sp_171 (h := h4) hG4) (rf_171_13 (h := h4) hG4) ?_
            refine x_iload 121 hK rfl rfl (lk1_n l7 (by decide) (Or.inl rfl)) ?_
            refine x_ialoadE 122 hK rfl rfl (sp_177 (h := h4) hG4) (by omega) (by omega) (by omega) (e' := 0) (gi_same (by omega)) ?_
            refine x_iadd 123 hK rfl rfl ?_
            refine x_istore 125 hK rfl rfl _ rfl ?_
            refine x_iload 127 hK rfl rfl (lk1_n (lk1_n l6 (by decide) (Or.inl rfl)) (by decide) (Or.inl rfl)) ?_
            refine x_iload 129 hK rfl rfl (lk1_n (lk1_n l4 (by decide) (Or.inl rfl)) (by decide) (Or.inl rfl)) ?_
            refine x_iadd 130 hK rfl rfl ?_
            refine x_istore 132 hK rfl rfl _ rfl ?_
            refine x_iinc 135 hK rfl rfl (lk1_n (lk1_n (lk1_n l7 (by decide) (Or.inl rfl)) (by decide) (Or.inl rfl)) (by decide) (Or.inl rfl)) _ rfl ?_
            refine x_goto 46 hK rfl rfl ?_
            exact ih _ (by omega) (w + 0) (v + u) (i + 1) _ _ rfl (by omega) (x0) (by rw [shS_s i0.1, w0]; unfold shE; rw [en]; first | rw [if_pos (by omega)] | rw [if_neg (by omega)]) (by rw [v0, Int.add_mul, Int.one_mul, Int.add_assoc]) (fun j => by
              by_cases q : j = i.toNat
              · rw [if_pos (by omega), q]
                exact (gi_same (by omega)).trans (by rw [show ((i.toNat : Nat) : Int) = i by omega]; unfold shE; rw [en]; first | rw [if_pos (by omega)] | rw [if_neg (by omega)])
              · refine (gi_k (by omega) _).trans ((ev j).trans ?_)
                by_cases y : (j : Int) < i
                · rw [if_pos y, if_pos (by omega)]
                · rw [if_neg y, if_neg (by omega)]) (lk1_n (lk1_n (lk1_n (lk1_n l0 (by decide) (Or.inl rfl)) (by decide) (Or.inl rfl)) (by decide) (Or.inl rfl)) (by decide) (Or.inl rfl)) (lk1_n (lk1_n (lk1_n (lk1_n l1 (by decide) (Or.inl rfl)) (by decide) (Or.inl rfl)) (by decide) (Or.inl rfl)) (by decide) (Or.inl rfl)) (lk1_n (lk1_n (lk1_n (lk1_n l2 (by decide) (Or.inl rfl)) (by decide) (Or.inl rfl)) (by decide) (Or.inl rfl)) (by decide) (Or.inl rfl)) (lk1_n (lk1_n (lk1_n (lk1_n l3 (by decide) (Or.inl rfl)) (by decide) (Or.inl rfl)) (by decide) (Or.inl rfl)) (by decide) (Or.inl rfl)) (lk1_n (lk1_n (lk1_n (lk1_n l4 (by decide) (Or.inl rfl)) (by decide) (Or.inl rfl)) (by decide) (Or.inl rfl)) (by decide) (Or.inl rfl)) (lk1_n (lk1_n lk1_s (by decide) (Or.inl rfl)) (by decide) (Or.inl rfl)) (lk1_n lk1_s (by decide) (Or.inl rfl)) lk1_s (GD_wu (hG4) (r := 60) rfl (by omega) rfl (by omega) (by omega)) (FRM_wn 0 7 (hF4) (r := 60) rfl rfl rfl (by omega) (by omega))
      · refine x_iload 61 hK rfl rfl l6 ?_
        refine x_i2bF 62 hK rfl rfl ?_
        refine x_goto 78 hK rfl rfl ?_
        have en : entF x (z + i * u) = (bI2b v) := by rw [← v0]; unfold entF; first | rw [if_pos (by omega)] | rw [if_neg (by omega), if_pos (by omega)] | rw [if_neg (by omega), if_neg (by omega)]
        refine x_istore 80 hK rfl rfl _ rfl ?_
        refine x_aload_n 81 hK rfl rfl (lk1_n l0 (by decide) (Or.inl rfl)) ?_
        refine x_getR 84 hK rfl rfl (sp_171 (h := h4) hG4) (rf_171_13 (h := h4) hG4) ?_
        refine x_iload 86 hK rfl rfl (lk1_n l7 (by decide) (Or.inl rfl)) ?_
        refine x_iload_n 87 hK rfl rfl (lk1_n l1 (by decide) (Or.inl rfl)) ?_
        refine x_iconst 88 hK rfl rfl ?_
        refine x_if_icmp_eq 97 91 hK rfl rfl rfl (by omega) (by omega) (fun c => by omega) (fun _ => ?_)
        refine x_iload 93 hK rfl rfl (lk1_n l7 (by decide) (Or.inl rfl)) ?_
        refine x_iload_n 94 hK rfl rfl (lk1_n l2 (by decide) (Or.inl rfl)) ?_
        refine x_if_icmp_lt 101 97 hK rfl rfl rfl (by omega) (by omega) (fun c148 => ?_) (fun c148 => ?_)
        · refine x_iconst 102 hK rfl rfl ?_
          refine x_bipush 104 hK rfl rfl rfl ?_
          refine x_iload 106 hK rfl rfl lk1_s ?_
          refine x_min 109 hK rfl rfl (Nat.le_of_ble_eq_true rfl) (by omega) (by omega) ?_
          refine x_max 112 hK rfl rfl (Nat.le_of_ble_eq_true rfl) (by omega) (by omega) ?_
          refine x_iastore 113 hK rfl rfl (sp_177 (h := h4) hG4) (by omega) (by omega) (by omega) ?_
          refine x_iload 115 hK rfl rfl (lk1_n l5 (by decide) (Or.inl rfl)) ?_
          refine x_aload_n 116 hK rfl rfl (lk1_n l0 (by decide) (Or.inl rfl)) ?_
          refine x_getR 119 hK rfl rfl (sp_171 (h := h4) hG4) (rf_171_13 (h := h4) hG4) ?_
          refine x_iload 121 hK rfl rfl (lk1_n l7 (by decide) (Or.inl rfl)) ?_
          refine x_ialoadE 122 hK rfl rfl (sp_177 (h := h4) hG4) (by omega) (by omega) (by omega) (e' := (max 0 (min 9 (bI2b v)))) (gi_same (by omega)) ?_
          refine x_iadd 123 hK rfl rfl ?_
          refine x_istore 125 hK rfl rfl _ rfl ?_
          refine x_iload 127 hK rfl rfl (lk1_n (lk1_n l6 (by decide) (Or.inl rfl)) (by decide) (Or.inl rfl)) ?_
          refine x_iload 129 hK rfl rfl (lk1_n (lk1_n l4 (by decide) (Or.inl rfl)) (by decide) (Or.inl rfl)) ?_
          refine x_iadd 130 hK rfl rfl ?_
          refine x_istore 132 hK rfl rfl _ rfl ?_
          refine x_iinc 135 hK rfl rfl (lk1_n (lk1_n (lk1_n l7 (by decide) (Or.inl rfl)) (by decide) (Or.inl rfl)) (by decide) (Or.inl rfl)) _ rfl ?_
          refine x_goto 46 hK rfl rfl ?_
          exact ih _ (by omega) (w + (max 0 (min 9 (bI2b v)))) (v + u) (i + 1) _ _ rfl (by omega) (x0) (by rw [shS_s i0.1, w0]; unfold shE; rw [en]; first | rw [if_pos (by omega)] | rw [if_neg (by omega)]) (by rw [v0, Int.add_mul, Int.one_mul, Int.add_assoc]) (fun j => by
            by_cases q : j = i.toNat
            · rw [if_pos (by omega), q]
              exact (gi_same (by omega)).trans (by rw [show ((i.toNat : Nat) : Int) = i by omega]; unfold shE; rw [en]; first | rw [if_pos (by omega)] | rw [if_neg (by omega)])
            · refine (gi_k (by omega) _).trans ((ev j).trans ?_)
              by_cases y : (j : Int) < i
              · rw [if_pos y, if_pos (by omega)]
              · rw [if_neg y, if_neg (by omega)]) (lk1_n (lk1_n (lk1_n (lk1_n l0 (by decide) (Or.inl rfl)) (by decide) (Or.inl rfl)) (by decide) (Or.inl rfl)) (by decide) (Or.inl rfl)) (lk1_n (lk1_n (lk1_n (lk1_n l1 (by decide) (Or.inl rfl)) (by decide) (Or.inl rfl)) (by decide) (Or.inl rfl)) (by decide) (Or.inl rfl)) (lk1_n (lk1_n (lk1_n (lk1_n l2 (by decide) (Or.inl rfl)) (by decide) (Or.inl rfl)) (by decide) (Or.inl rfl)) (by decide) (Or.inl rfl)) (lk1_n (lk1_n (lk1_n (lk1_n l3 (by decide) (Or.inl rfl)) (by decide) (Or.inl rfl)) (by decide) (Or.inl rfl)) (by decide) (Or.inl rfl)) (lk1_n (lk1_n (lk1_n (lk1_n l4 (by decide) (Or.inl rfl)) (by decide) (Or.inl rfl)) (by decide) (Or.inl rfl)) (by decide) (Or.inl rfl)) (lk1_n (lk1_n lk1_s (by decide) (Or.inl rfl)) (by decide) (Or.inl rfl)) (lk1_n lk1_s (by decide) (Or.inl rfl)) lk1_s (GD_wu (hG4) (r := 60) rfl (by omega) rfl (by omega) (by omega)) (FRM_wn 0 7 (hF4) (r := 60) rfl rfl rfl (by omega) (by omega))
        · refine x_iconst 98 hK rfl rfl ?_
          refine x_goto 112 hK rfl rfl ?_
          refine x_iastore 113 hK rfl rfl (sp_177 (h := h4) hG4) (by omega) (by omega) (by omega) ?_
          refine x_iload 115 hK rfl rfl (lk1_n l5 (by decide) (Or.inl rfl)) ?_
          refine x_aload_n 116 hK rfl rfl (lk1_n l0 (by decide) (Or.inl rfl)) ?_
          refine x_getR 119 hK rfl rfl (sp_171 (h := h4) hG4) (rf_171_13 (h := h4) hG4) ?_
          refine x_iload 121 hK rfl rfl (lk1_n l7 (by decide) (Or.inl rfl)) ?_
          refine x_ialoadE 122 hK rfl rfl (sp_177 (h := h4) hG4) (by omega) (by omega) (by omega) (e' := 0) (gi_same (by omega)) ?_
          refine x_iadd 123 hK rfl rfl ?_
          refine x_istore 125 hK rfl rfl _ rfl ?_
          refine x_iload 127 hK rfl rfl (lk1_n (lk1_n l6 (by decide) (Or.inl rfl)) (by decide) (Or.inl rfl)) ?_
          refine x_iload 129 hK rfl rfl (lk1_n (lk1_n l4 (by decide) (Or.inl rfl)) (by decide) (Or.inl rfl)) ?_
          refine x_iadd 130 hK rfl rfl ?_
          refine x_istore 132 hK rfl rfl _ rfl ?_
          refine x_iinc 135 hK rfl rfl (lk1_n (lk1_n (lk1_n l7 (by decide) (Or.inl rfl)) (by decide) (Or.inl rfl)) (by decide) (Or.inl rfl)) _ rfl ?_
          refine x_goto 46 hK rfl rfl ?_
          exact ih _ (by omega) (w + 0) (v + u) (i + 1) _ _ rfl (by omega) (x0) (by rw [shS_s i0.1, w0]; unfold shE; rw [en]; first | rw [if_pos (by omega)] | rw [if_neg (by omega)]) (by rw [v0, Int.add_mul, Int.one_mul, Int.add_assoc]) (fun j => by
            by_cases q : j = i.toNat
            · rw [if_pos (by omega), q]
              exact (gi_same (by omega)).trans (by rw [show ((i.toNat : Nat) : Int) = i by omega]; unfold shE; rw [en]; first | rw [if_pos (by omega)] | rw [if_neg (by omega)])
            · refine (gi_k (by omega) _).trans ((ev j).trans ?_)
              by_cases y : (j : Int) < i
              · rw [if_pos y, if_pos (by omega)]
              · rw [if_neg y, if_neg (by omega)]) (lk1_n (lk1_n (lk1_n (lk1_n l0 (by decide) (Or.inl rfl)) (by decide) (Or.inl rfl)) (by decide) (Or.inl rfl)) (by decide) (Or.inl rfl)) (lk1_n (lk1_n (lk1_n (lk1_n l1 (by decide) (Or.inl rfl)) (by decide) (Or.inl rfl)) (by decide) (Or.inl rfl)) (by decide) (Or.inl rfl)) (lk1_n (lk1_n (lk1_n (lk1_n l2 (by decide) (Or.inl rfl)) (by decide) (Or.inl rfl)) (by decide) (Or.inl rfl)) (by decide) (Or.inl rfl)) (lk1_n (lk1_n (lk1_n (lk1_n l3 (by decide) (Or.inl rfl)) (by decide) (Or.inl rfl)) (by decide) (Or.inl rfl)) (by decide) (Or.inl rfl)) (lk1_n (lk1_n (lk1_n (lk1_n l4 (by decide) (Or.inl rfl)) (by decide) (Or.inl rfl)) (by decide) (Or.inl rfl)) (by decide) (Or.inl rfl)) (lk1_n (lk1_n lk1_s (by decide) (Or.inl rfl)) (by decide) (Or.inl rfl)) (lk1_n lk1_s (by decide) (Or.inl rfl)) lk1_s (GD_wu (hG4) (r := 60) rfl (by omega) rfl (by omega) (by omega)) (FRM_wn 0 7 (hF4) (r := 60) rfl rfl rfl (by omega) (by omega))
  refine x_aload_n 1 hK rfl rfl rfl ?_
  refine x_iconst 2 hK rfl rfl ?_
  refine x_putI 5 hK rfl rfl (sp_171 (h := h) hG) ?_
  refine x_iload_n 6 hK rfl rfl rfl ?_
  refine x_i2l 7 hK rfl rfl (by omega) ?_
  refine x_lconstE 8 0 hK rfl rfl rfl ?_
  refine x_ldc2_w 11 hK rfl rfl ?_
  have hGp229 : GD gE gRL sh (wI h 171 0 0) := GD_w1 (hG) (r := 54) rfl (by omega) rfl (by omega) (by omega)
  refine x_callS 14 hK hmono rfl (Or.inl rfl) rfl [.long (J x), .long (J 0), .long (J 3)] [] rfl rfl (Nat.le_of_ble_eq_true rfl) (Nat.le_of_ble_eq_true rfl) (CLd_le (Nat.le_of_ble_eq_true rfl) (ctX11_in (by omega) (by omega) (by omega))) ?_
  rintro v9 h9 ⟨e9, ⟨rfl, i1230, i2230⟩ | ⟨rfl, i1230⟩⟩ <;> rw [e9] <;> clear e9
  · refine x_if_eq 23 17 hK rfl rfl rfl (by omega) (fun c => by omega) (fun _ => ?_)
    refine x_iload_n 18 hK rfl rfl rfl ?_
    refine x_bipush 20 hK rfl rfl rfl ?_
    refine x_if_icmp_le 25 23 hK rfl rfl rfl (by omega) (by omega) (fun c12 => ?_) (fun c12 => ?_)
    · refine x_iload_n 26 hK rfl rfl rfl ?_
      refine x_iconst 27 hK rfl rfl ?_
      refine x_if_icmp_eq 37 30 hK rfl rfl rfl (by omega) (by omega) (fun c15 => ?_) (fun c15 => ?_)
      · refine x_iconst 38 hK rfl rfl ?_
        refine x_istore 40 hK rfl rfl [(5, .int (I 0)), (0, .ref 171), (1, .int (I x)), (2, .int (I y)), (3, .int (I z)), (4, .int (I u))] rfl ?_
        refine x_iload_n 41 hK rfl rfl rfl ?_
        refine x_istore 43 hK rfl rfl [(6, .int (I z)), (5, .int (I 0)), (0, .ref 171), (1, .int (I x)), (2, .int (I y)), (3, .int (I z)), (4, .int (I u))] rfl ?_
        refine x_iconst 44 hK rfl rfl ?_
        refine x_istore 46 hK rfl rfl [(7, .int (I 0)), (6, .int (I z)), (5, .int (I 0)), (0, .ref 171), (1, .int (I x)), (2, .int (I y)), (3, .int (I z)), (4, .int (I u))] rfl ?_
        exact loop _ 0 z 0 _ _ rfl (by omega) (by omega) (rfl) (by rw [Int.zero_mul, Int.add_zero]) (fun j => (gi_a (by decide) _).trans (if_neg (by omega)).symm) rfl rfl rfl rfl rfl rfl rfl rfl (GD_w1 (hG) (r := 54) rfl (by omega) rfl (by omega) (by omega)) (FRM_w ((FRM.rf : FRM gRL [(0, 54, 0, 0), (0, 60, 0, 7)] h h)) (r := 54) rfl rfl)
      · refine x_iload_n 31 hK rfl rfl rfl ?_
        refine x_if_ge 37 34 hK rfl rfl rfl (by omega) (fun c24 => ?_) (fun c24 => ?_)
        · refine x_iconst 38 hK rfl rfl ?_
          refine x_istore 40 hK rfl rfl [(5, .int (I 0)), (0, .ref 171), (1, .int (I x)), (2, .int (I y)), (3, .int (I z)), (4, .int (I u))] rfl ?_
          refine x_iload_n 41 hK rfl rfl rfl ?_
          refine x_istore 43 hK rfl rfl [(6, .int (I z)), (5, .int (I 0)), (0, .ref 171), (1, .int (I x)), (2, .int (I y)), (3, .int (I z)), (4, .int (I u))] rfl ?_
          refine x_iconst 44 hK rfl rfl ?_
          refine x_istore 46 hK rfl rfl [(7, .int (I 0)), (6, .int (I z)), (5, .int (I 0)), (0, .ref 171), (1, .int (I x)), (2, .int (I y)), (3, .int (I z)), (4, .int (I u))] rfl ?_
          exact loop _ 0 z 0 _ _ rfl (by omega) (by omega) (rfl) (by rw [Int.zero_mul, Int.add_zero]) (fun j => (gi_a (by decide) _).trans (if_neg (by omega)).symm) rfl rfl rfl rfl rfl rfl rfl rfl (GD_w1 (hG) (r := 54) rfl (by omega) rfl (by omega) (by omega)) (FRM_w ((FRM.rf : FRM gRL [(0, 54, 0, 0), (0, 60, 0, 7)] h h)) (r := 54) rfl rfl)
        · refine x_bipush 36 hK rfl rfl rfl ?_
          exact x_iret hK rfl ⟨by unfold shA; rw [if_pos (by omega), if_pos (by omega)], GD_w1 (hG) (r := 54) rfl (by omega) rfl (by omega) (by omega), FRM_w ((FRM.rf : FRM gRL [(0, 54, 0, 0), (0, 60, 0, 7)] h h)) (r := 54) rfl rfl, fun j => (gi_a (by decide) _).trans (if_neg (fun z => by have z1 := z.1; omega)).symm⟩
    · refine x_iconst 24 hK rfl rfl ?_
      exact x_iret hK rfl ⟨by unfold shA; rw [if_neg (by omega)], GD_w1 (hG) (r := 54) rfl (by omega) rfl (by omega) (by omega), FRM_w ((FRM.rf : FRM gRL [(0, 54, 0, 0), (0, 60, 0, 7)] h h)) (r := 54) rfl rfl, fun j => (gi_a (by decide) _).trans (if_neg (fun z => by have z1 := z.1; omega)).symm⟩
  · refine x_if_eq 23 17 hK rfl rfl rfl (by omega) (fun _ => ?_) (fun c => by omega)
    refine x_iconst 24 hK rfl rfl ?_
    exact x_iret hK rfl ⟨by unfold shA; rw [if_neg (by omega)], GD_w1 (hG) (r := 54) rfl (by omega) rfl (by omega) (by omega), FRM_w ((FRM.rf : FRM gRL [(0, 54, 0, 0), (0, 60, 0, 7)] h h)) (r := 54) rfl rfl, fun j => (gi_a (by decide) _).trans (if_neg (fun z => by have z1 := z.1; omega)).symm⟩
end
section
/-! ORDERS AS THE CLASS HAS THEM -/
noncomputable def insO (x : Int × Int) : List (Int × Int) → List (Int × Int)
  | [] => [x]
  | y :: t => if y.1 ≤ x.1 then y :: insO x t else x :: y :: t
theorem insO_c (x y : Int × Int) (t : List (Int × Int)) : insO x (y :: t) = if y.1 ≤ x.1 then y :: insO x t else x :: y :: t := rfl
noncomputable def srtF (C : List (Int × Int)) (q : Int × Int × Int) : List (Int × Int) := insO (q.1, q.2.1) C
noncomputable def srt (L : List (Int × Int × Int)) : List (Int × Int) := L.foldl srtF []
noncomputable def SRT (L : List (Int × Int)) : Prop := L.Pairwise fun a b => a.1 ≤ b.1
theorem srt_snoc (L : List (Int × Int × Int)) (q : Int × Int × Int) : srt (L ++ [q]) = insO (q.1, q.2.1) (srt L) := by
  unfold srt
  rw [List.foldl_append]
  rfl
theorem ins_mem {x y : Int × Int} : ∀ {L : List (Int × Int)}, y ∈ insO x L → y = x ∨ y ∈ L
  | [], h => Or.inl (List.mem_singleton.mp h)
  | z :: t, h => by
    unfold insO at h
    split at h
    · rcases List.mem_cons.mp h with h | h
      · exact Or.inr (h ▸ List.mem_cons_self)
      · rcases ins_mem h with h | h
        · exact Or.inl h
        · exact Or.inr (List.mem_cons_of_mem _ h)
    · exact List.mem_cons.mp h
theorem ins_len (x : Int × Int) : ∀ L : List (Int × Int), (insO x L).length = L.length + 1
  | [] => rfl
  | z :: t => by
    unfold insO
    split
    · rw [List.length_cons, ins_len x t, List.length_cons]
    · rfl
theorem ins_SRT {x : Int × Int} : ∀ {L : List (Int × Int)}, SRT L → SRT (insO x L)
  | [], _ => List.pairwise_singleton _ _
  | z :: t, h => by
    obtain ⟨h1, h2⟩ := List.pairwise_cons.mp h
    unfold insO
    split
    · rename_i c
      refine List.pairwise_cons.mpr ⟨fun a ha => ?_, ins_SRT h2⟩
      rcases ins_mem ha with rfl | ha
      · exact c
      · exact h1 a ha
    · rename_i c
      refine List.pairwise_cons.mpr ⟨fun a ha => ?_, h⟩
      rcases List.mem_cons.mp ha with rfl | ha
      · omega
      · have := h1 a ha; omega
theorem srt_go : ∀ (L : List (Int × Int × Int)) {C : List (Int × Int)}, SRT C → SRT (L.foldl srtF C) ∧ (L.foldl srtF C).length = C.length + L.length
  | [], C, h => ⟨h, rfl⟩
  | q :: t, C, h => by
    obtain ⟨a, b⟩ := srt_go t (C := srtF C q) (ins_SRT h)
    refine ⟨a, ?_⟩
    show (t.foldl srtF (srtF C q)).length = _
    rw [b, show (srtF C q).length = C.length + 1 from ins_len _ _, List.length_cons]
    omega
theorem srt_SRT (L : List (Int × Int × Int)) : SRT (srt L) := (srt_go L List.Pairwise.nil).1
theorem srt_len (L : List (Int × Int × Int)) : (srt L).length = L.length := by
  have := (srt_go L List.Pairwise.nil).2
  rw [List.length_nil, Nat.zero_add] at this
  exact this
theorem ins_all {x : Int × Int} {M : List (Int × Int)} (h : ∀ y ∈ M, x.1 < y.1) : insO x M = x :: M := by
  cases M with
  | nil => rfl
  | cons y t =>
    unfold insO
    rw [if_neg (by have := h y List.mem_cons_self; omega)]
theorem ins_end {x : Int × Int} : ∀ {M : List (Int × Int)}, (∀ y ∈ M, y.1 ≤ x.1) → insO x M = M ++ [x]
  | [], _ => rfl
  | y :: t, h => by
    unfold insO
    rw [if_pos (h y List.mem_cons_self), ins_end fun z hz => h z (List.mem_cons_of_mem _ hz)]
    rfl
theorem ins_at {x : Int × Int} : ∀ {A B : List (Int × Int)}, (∀ y ∈ A, y.1 ≤ x.1) → (∀ y ∈ B, x.1 < y.1) → insO x (A ++ B) = A ++ x :: B
  | [], B, _, h => ins_all h
  | y :: t, B, h, hb => by
    show (if y.1 ≤ x.1 then y :: insO x (t ++ B) else x :: y :: (t ++ B)) = _
    rw [if_pos (h y List.mem_cons_self), ins_at (fun z hz => h z (List.mem_cons_of_mem _ hz)) hb]
    rfl
theorem ins_flt {p : Int → Bool} {x : Int × Int} : ∀ {L : List (Int × Int)}, SRT L → (insO x L).filter (fun q => p q.1) = if p x.1 = true then insO x (L.filter fun q => p q.1) else L.filter fun q => p q.1
  | [], _ => by
    show [x].filter _ = _
    cases c : p x.1 with
    | true => rw [List.filter_cons_of_pos (p := fun q : Int × Int => p q.1) c]; rfl
    | false => rw [List.filter_cons_of_neg (p := fun q : Int × Int => p q.1) (by rw [c]; exact Bool.noConfusion)]; rfl
  | y :: t, h => by
    obtain ⟨h1, h2⟩ := List.pairwise_cons.mp h
    rw [insO_c]
    by_cases c : y.1 ≤ x.1
    · rw [if_pos c]
      cases cy : p y.1 with
      | true =>
        rw [List.filter_cons_of_pos (p := fun q : Int × Int => p q.1) cy, List.filter_cons_of_pos (p := fun q : Int × Int => p q.1) cy, ins_flt h2]
        split
        · show _ = if y.1 ≤ x.1 then y :: insO x _ else _
          rw [if_pos c]
        · rfl
      | false =>
        rw [List.filter_cons_of_neg (p := fun q : Int × Int => p q.1) (by rw [cy]; exact Bool.noConfusion), List.filter_cons_of_neg (p := fun q : Int × Int => p q.1) (by rw [cy]; exact Bool.noConfusion), ins_flt h2]
    · rw [if_neg c]
      have hall : ∀ z ∈ (y :: t).filter (fun q => p q.1), x.1 < z.1 := fun z hz => by
        rcases List.mem_cons.mp (List.mem_filter.mp hz).1 with rfl | hz
        · omega
        · have := h1 z hz; omega
      cases cx : p x.1 with
      | true => rw [List.filter_cons_of_pos (p := fun q : Int × Int => p q.1) cx, if_pos rfl, ins_all hall]
      | false => rw [List.filter_cons_of_neg (p := fun q : Int × Int => p q.1) (by rw [cx]; exact Bool.noConfusion), if_neg Bool.noConfusion]
theorem srt_flt {p : Int → Bool} : ∀ (L : List (Int × Int × Int)) {C : List (Int × Int)}, SRT C → (L.filter fun q => p q.1).foldl srtF (C.filter fun q => p q.1) = (L.foldl srtF C).filter fun q => p q.1
  | [], C, _ => rfl
  | q :: t, C, h => by
    have e := ins_flt (p := p) (x := (q.1, q.2.1)) h
    show _ = (t.foldl srtF (srtF C q)).filter _
    rw [← srt_flt t (C := srtF C q) (ins_SRT h)]
    cases c : p q.1 with
    | true =>
      rw [List.filter_cons_of_pos (p := fun q : Int × Int × Int => p q.1) c]
      show (t.filter _).foldl srtF (srtF (C.filter _) q) = _
      congr 1
      have e : (srtF C q).filter (fun q => p q.1) = if p q.1 = true then insO (q.1, q.2.1) (C.filter fun q => p q.1) else C.filter fun q => p q.1 := e
      rw [e, if_pos c]
      rfl
    | false =>
      rw [List.filter_cons_of_neg (p := fun q : Int × Int × Int => p q.1) (by rw [c]; exact Bool.noConfusion)]
      congr 1
      have e : (srtF C q).filter (fun q => p q.1) = if p q.1 = true then insO (q.1, q.2.1) (C.filter fun q => p q.1) else C.filter fun q => p q.1 := e
      rw [e, if_neg (by rw [c]; exact Bool.noConfusion)]
theorem srt_f (p : Int → Bool) (L : List (Int × Int × Int)) : srt (L.filter fun q => p q.1) = (srt L).filter fun q => p q.1 := srt_flt L (C := []) List.Pairwise.nil
theorem tw_f {n : Int} : ∀ {L : List (Int × Int)}, SRT L → L.takeWhile (fun q => decide (q.1 ≤ n)) = L.filter (fun q => decide (q.1 ≤ n)) ∧ L.dropWhile (fun q => decide (q.1 ≤ n)) = L.filter (fun q => !decide (q.1 ≤ n))
  | [], _ => ⟨rfl, rfl⟩
  | y :: t, h => by
    obtain ⟨h1, h2⟩ := List.pairwise_cons.mp h
    by_cases c : y.1 ≤ n
    · have d : decide (y.1 ≤ n) = true := decide_eq_true c
      obtain ⟨i1, i2⟩ := tw_f (n := n) h2
      constructor
      · rw [List.takeWhile_cons_of_pos (p := fun q : Int × Int => decide (q.1 ≤ n)) d, List.filter_cons_of_pos (p := fun q : Int × Int => decide (q.1 ≤ n)) d, i1]
      · rw [List.dropWhile_cons_of_pos (p := fun q : Int × Int => decide (q.1 ≤ n)) d, List.filter_cons_of_neg (p := fun q : Int × Int => !decide (q.1 ≤ n)) (by simp only [d]; decide), i2]
    · have d : ¬ decide (y.1 ≤ n) = true := by simp only [decide_eq_true_eq]; exact c
      have hf : ∀ z ∈ y :: t, ¬ z.1 ≤ n := fun z hz => by
        rcases List.mem_cons.mp hz with rfl | hz
        · exact c
        · have := h1 z hz; omega
      constructor
      · rw [List.takeWhile_cons_of_neg (p := fun q : Int × Int => decide (q.1 ≤ n)) d]
        exact (List.filter_eq_nil_iff.mpr fun z hz => by simp only [decide_eq_true_eq]; exact hf z hz).symm
      · rw [List.dropWhile_cons_of_neg (p := fun q : Int × Int => decide (q.1 ≤ n)) d]
        exact (List.filter_eq_self.mpr fun z hz => by rw [decide_eq_false (hf z hz)]; rfl).symm
theorem srt_same {d : Int} : ∀ (L : List (Int × Int × Int)) {C : List (Int × Int)}, (∀ q ∈ L, q.1 = d) → (∀ y ∈ C, y.1 = d) → L.foldl srtF C = C ++ L.map fun q => (q.1, q.2.1)
  | [], C, _, _ => (List.append_nil C).symm
  | q :: t, C, h, hc => by
    have hq := h q List.mem_cons_self
    have e : srtF C q = C ++ [(q.1, q.2.1)] := ins_end fun y hy => by rw [hc y hy]; exact Int.le_of_eq hq.symm
    show t.foldl srtF (srtF C q) = _
    rw [e, srt_same t (fun z hz => h z (List.mem_cons_of_mem _ hz)) (fun y hy => by
      rcases List.mem_append.mp hy with hy | hy
      · exact hc y hy
      · rw [List.mem_singleton.mp hy]; exact hq), List.append_assoc]
    rfl
noncomputable def cpt (l : Int) (q : Int × Int) : Int := max 0 (min 8 (l + q.2))
noncomputable abbrev CWS := Int × Int × Int × Int × List (Int × Int) × (Nat → Int) × (Nat → Int)
/-- a state of the reference's as the class has it -/
noncomputable def cvW (w : WS) : CWS := (w.1, w.2.1, w.2.2.1, w.2.2.2.1, srt w.2.2.2.2.1, w.2.2.2.2.2.1, w.2.2.2.2.2.2)
/-- what is so of orders under way -/
noncomputable def OKW (w : WS) : Prop := (∀ q ∈ w.2.2.2.2.1, (w.1 < q.1 ∧ q.1 ≤ w.1 + 12) ∧ q.2.2 ≤ w.2.2.2.1 ∧ -1 ≤ q.2.1 ∧ q.2.1 ≤ 1) ∧ (w.2.2.2.2.1.Pairwise fun a b => a.2.2 < b.2.2) ∧ w.2.2.2.2.1.length ≤ 12 ∧ w.2.2.2.1 ≤ w.1
/-- a step, as the class goes it -/
noncomputable def ctT (w : CWS) : List (Int × Int) := w.2.2.2.2.1.takeWhile fun q => decide (q.1 ≤ w.1 + 1)
noncomputable def ctD (w : CWS) : List (Int × Int) := w.2.2.2.2.1.dropWhile fun q => decide (q.1 ≤ w.1 + 1)
theorem st_due {w : WS} (ok : OKW w) : (ctT (cvW w)).foldl cpt w.2.1 = stL w ∧ ctD (cvW w) = srt (w.2.2.2.2.1.filter fun q => !decide (q.1 = w.1 + 1)) := by
  obtain ⟨i1, i2⟩ := tw_f (n := w.1 + 1) (srt_SRT w.2.2.2.2.1)
  have c1 : (w.2.2.2.2.1.filter fun q => decide (q.1 ≤ w.1 + 1)) = w.2.2.2.2.1.filter fun q => decide (q.1 = w.1 + 1) := List.filter_congr fun q hq => decide_eq_decide.mpr (by have := (ok.1 q hq).1.1; omega)
  have c2 : (w.2.2.2.2.1.filter fun q => !decide (q.1 ≤ w.1 + 1)) = w.2.2.2.2.1.filter fun q => !decide (q.1 = w.1 + 1) := List.filter_congr fun q hq => by rw [decide_eq_decide.mpr (show q.1 ≤ w.1 + 1 ↔ q.1 = w.1 + 1 by have := (ok.1 q hq).1.1; omega)]
  constructor
  · show ((srt w.2.2.2.2.1).takeWhile fun q => decide (q.1 ≤ w.1 + 1)).foldl cpt w.2.1 = _
    rw [i1, ← srt_f (fun z => decide (z ≤ w.1 + 1)), c1]
    unfold srt
    rw [srt_same (d := w.1 + 1) _ (fun q hq => of_decide_eq_true (List.mem_filter.mp hq).2) (fun y hy => absurd hy List.not_mem_nil), List.nil_append, List.foldl_map]
    rfl
  · show ((srt w.2.2.2.2.1).dropWhile fun q => decide (q.1 ≤ w.1 + 1)) = _
    rw [i2, ← srt_f (fun z => !decide (z ≤ w.1 + 1)), c2]
theorem OKW_eq {w w' : WS} (ok : OKW w) (h0 : w'.1 = w.1) (h1 : w'.2.2.2.1 = w.2.2.2.1) (h2 : w'.2.2.2.2.1 = w.2.2.2.2.1) : OKW w' := by
  unfold OKW
  rw [h0, h1, h2]
  exact ok
theorem OKW_st {ml ln : Nat → Int} {nr : Nat} {ms : Int} {ea : Nat → Int} {w : WS} (ok : OKW w) : OKW (stW ml ln nr ms ea w) := by
  obtain ⟨o1, o2, o3, o4⟩ := ok
  refine ⟨fun q hq => ?_, ?_, ?_, ?_⟩
  · obtain ⟨m1, m2⟩ := List.mem_filter.mp hq
    have a := o1 q m1
    have b : ¬ q.1 = w.1 + 1 := fun z => by rw [decide_eq_true z] at m2; cases m2
    exact ⟨⟨by show w.1 + 1 < q.1; omega, by show q.1 ≤ w.1 + 1 + 12; omega⟩, a.2⟩
  · exact o2.filter _
  · exact Nat.le_trans (List.length_filter_le _ _) o3
  · show w.2.2.2.1 ≤ w.1 + 1; omega
theorem OKW_gv {d v x : Int} {w : WS} (ok : OKW w) (hd : 1 ≤ d ∧ d ≤ 12) (hv : -1 ≤ v ∧ v ≤ 1) (hg : gvR x w = 0) : OKW (gvW d v w) := by
  obtain ⟨o1, o2, o3, o4⟩ := ok
  unfold gvR at hg
  have g1 : ¬ w.2.2.2.1 = w.1 := fun z => by (repeat' split at hg) <;> omega
  have g2 : ¬ w.2.2.2.2.1.length = 12 := fun z => by (repeat' split at hg) <;> omega
  refine ⟨fun q hq => ?_, ?_, ?_, ?_⟩
  · rcases List.mem_append.mp hq with hq | hq
    · have := o1 q hq
      exact ⟨this.1, by show q.2.2 ≤ w.1; omega, this.2.2⟩
    · rw [List.mem_singleton.mp hq]
      exact ⟨⟨by show w.1 < w.1 + d; omega, by show w.1 + d ≤ w.1 + 12; omega⟩, Int.le_refl _, hv⟩
  · refine List.pairwise_append.mpr ⟨o2, List.pairwise_singleton _ _, fun a ha b hb => ?_⟩
    rw [List.mem_singleton.mp hb]
    have := o1 a ha
    show a.2.2 < w.1
    omega
  · show (w.2.2.2.2.1 ++ [_]).length ≤ 12
    rw [List.length_append, List.length_singleton]
    omega
  · exact Int.le_refl _
theorem go_mem {x : Int × Int} : ∀ {L : List (Int × Int × Int)} {C : List (Int × Int)}, x ∈ L.foldl srtF C → x ∈ C ∨ ∃ q ∈ L, x = (q.1, q.2.1)
  | [], C, h => Or.inl h
  | q :: t, C, h => by
    rcases go_mem (L := t) (C := srtF C q) h with h | ⟨y, h1, h2⟩
    · rcases ins_mem h with h | h
      · exact Or.inr ⟨q, List.mem_cons_self, h⟩
      · exact Or.inl h
    · exact Or.inr ⟨y, List.mem_cons_of_mem _ h1, h2⟩
theorem srt_mem {x : Int × Int} {L : List (Int × Int × Int)} (h : x ∈ srt L) : ∃ q ∈ L, x = (q.1, q.2.1) := (go_mem h).resolve_left List.not_mem_nil
/-- the class's state is the reference's -/
noncomputable def STR (ms : Int) (x : CWS) (w : WS) : Prop := OKW w ∧ x.1 = w.1 ∧ x.2.1 = w.2.1 ∧ x.2.2.1 = w.2.2.1 ∧ x.2.2.2.1 = w.2.2.2.1 ∧ x.2.2.2.2.1 = srt w.2.2.2.2.1 ∧ ∀ m : Nat, (m : Int) < ms → x.2.2.2.2.2.1 m = w.2.2.2.2.2.1 m ∧ x.2.2.2.2.2.2 m = w.2.2.2.2.2.2 m
theorem STR.mono {ms ms' : Int} {x : CWS} {w : WS} (h : STR ms x w) (hm : ms' ≤ ms) : STR ms' x w := ⟨h.1, h.2.1, h.2.2.1, h.2.2.2.1, h.2.2.2.2.1, h.2.2.2.2.2.1, fun m hx => h.2.2.2.2.2.2 m (by omega)⟩
end
section
/-! STATES OF THE CLASS -/
/-- a piece of an array goes into another one (or further along) -/
theorem x_acp {CL : CT} {ac : AC} {ret : Option FieldType} {Q : QT} {K : KT} {pc : Nat} {ls : List (Nat × Value)} {st : List Value} {h : aH} {bc bs : Nat} (p : Nat) {idx a0 a1 n0 n1 : Nat} {sp dp n : Int} (hK : CLO CL ac ret Q K) (hf : fr ac pc = some (.invokestatic idx, 0, 13, 0)) (hp : pc + 3 = p) (hc : catsum st ≤ 8) (hs0 : h.1[a0]? = some (0, n0)) (hs1 : h.1[a1]? = some (0, n1)) (b0 : 0 ≤ sp ∧ sp ≤ 1000) (b1 : 0 ≤ dp ∧ dp ≤ 1000) (b2 : 0 ≤ n ∧ n ≤ 1000) (b3 : sp + n ≤ n0) (b4 : dp + n ≤ n1) (hk : K p ls st (sC h a0 sp.toNat a1 dp.toNat n.toNat) bc bs) : K pc ls (.int (I n) :: .int (I dp) :: .ref a1 :: .int (I sp) :: .ref a0 :: st) h bc bs := by
  subst hp
  have e0 := I_nat (a := sp) b0.1 (by omega)
  have e1 := I_nat (a := dp) b1.1 (by omega)
  have e2 := I_nat (a := n) b2.1 (by omega)
  have l0 : ∀ {x : Int}, 0 ≤ x ∧ x ≤ 1000 → ¬ I x < 0 := fun {x} hx z => by
    have := (I_lt (a := x) (b := 0) ⟨by omega, by omega⟩ ⟨by omega, by omega⟩).mp z
    omega
  refine x_row hK hf ?_
  refine ⟨hc, ⟨n0, n1, hs0, hs1, l0 b0, l0 b1, l0 b2, by rw [e0, e2]; omega, by rw [e1, e2]; omega⟩, ?_⟩
  rw [e0, e1, e2]
  exact hk
theorem gi_sC {h : aH} {a0 sp a1 dp n : Nat} (j : Nat) : gi (sC h a0 sp a1 dp n) a1 j = if dp ≤ j ∧ j < dp + n then gi h a0 (sp + (j - dp)) else gi h a1 j := by
  have e : aI (sC h a0 sp a1 dp n) a1 = va_cpy (aI h a0) (aI h a1) sp dp n := up_s
  show (aI (sC h a0 sp a1 dp n) a1 j).toInt = _
  rw [e]
  unfold va_cpy
  split <;> rfl
theorem gi_sCn {h : aH} {a0 sp a1 dp n a : Nat} (ha : a ≠ a1) (j : Nat) : gi (sC h a0 sp a1 dp n) a j = gi h a j := by
  have e : aI (sC h a0 sp a1 dp n) a = aI h a := up_n ha
  show (aI (sC h a0 sp a1 dp n) a j).toInt = _
  rw [e]
  rfl
theorem GD_C {sh : List (Nat × Nat)} {h : aH} {a0 sp a1 dp n r : Nat} (hG : GD gE gRL sh h) (hr : gRL[a1]? = some r) (ho : eG gE r = []) : GD gE gRL sh (sC h a0 sp a1 dp n) := by
  refine ⟨hG.1, hG.2.1, fun b r' hb q hq k k1 k2 => ?_, hG.2.2.2⟩
  by_cases c : b = a1
  · subst c
    rw [hr] at hb
    cases hb
    rw [ho] at hq
    cases hq
  · have e := gi_sCn (h := h) (a0 := a0) (sp := sp) (dp := dp) (n := n) c k
    have z := hG.2.2.1 b r' hb q hq k k1 k2
    show q.2.2.1 ≤ gi (sC h a0 sp a1 dp n) b k ∧ gi (sC h a0 sp a1 dp n) b k ≤ q.2.2.2
    rw [e]
    exact z
theorem FRM_C {M : MD} {h0 h : aH} {a0 sp a1 dp n r : Nat} (hF : FRM gRL M h0 h) (hr : gRL[a1]? = some r) (hm : ∀ k, dp ≤ k → k < dp + n → mHas M 0 r k = true) : FRM gRL M h0 (sC h a0 sp a1 dp n) := by
  refine ⟨fun b j z => ?_, hF.2.1, hF.2.2⟩
  by_cases c : b = a1
  · subst c
    have e : aI (sC h a0 sp b dp n) b = va_cpy (aI h a0) (aI h b) sp dp n := up_s
    rw [e]
    unfold va_cpy
    by_cases y : dp ≤ j ∧ j < dp + n
    · have := z r hr
      rw [hm j y.1 y.2] at this
      cases this
    · rw [if_neg y]
      exact hF.1 b j z
  · have e : aI (sC h a0 sp a1 dp n) b = aI h b := up_n c
    rw [e]
    exact hF.1 b j z
theorem mIn_r {M : MD} {r x y : Nat} (hm : ((List.range (y + 1)).all fun k => Nat.blt k x || mHas M 0 r k) = true) : ∀ k, x ≤ k → k < y + 1 → mHas M 0 r k = true := fun k h1 h2 => by
  have z := List.all_eq_true.mp hm k (List.mem_range.mpr h2)
  rw [Bool.or_eq_true] at z
  rcases z with z | z
  · exact absurd (Nat.blt_eq.mp z) (by omega)
  · exact z
/-- a state of the class at c -/
noncomputable def kO (h : aH) (c n : Nat) : List (Int × Int) := (List.range n).map fun j => (gi h (c + 1) j, gi h (c + 2) j)
noncomputable def kS (h : aH) (c : Nat) : CWS := (gi h c 0, gi h c 1, gi h c 2, gi h c 3, kO h c (gi h c 4).toNat, (fun m => if m < 8 then gi h (c + 3) m else 0), fun m => if m < 8 then gi h (c + 4) m else 0)
theorem kO_l (h : aH) (c n : Nat) : (kO h c n).length = n := by unfold kO; rw [List.length_map, List.length_range]
theorem kO_eq {h h' : aH} {c c' n : Nat} (e : ∀ j, j < n → gi h' (c' + 1) j = gi h (c + 1) j ∧ gi h' (c' + 2) j = gi h (c + 2) j) : kO h' c' n = kO h c n := by
  unfold kO
  exact List.map_congr_left fun j hj => by rw [(e j (List.mem_range.mp hj)).1, (e j (List.mem_range.mp hj)).2]
theorem kO_at {h : aH} {c n j : Nat} (hj : j < n) : (kO h c n)[j]? = some (gi h (c + 1) j, gi h (c + 2) j) := by
  unfold kO
  rw [List.getElem?_map, List.getElem?_range hj]
  rfl
theorem kS_eq {h h' : aH} {c c' : Nat} (hn : 0 ≤ gi h c 4 ∧ gi h c 4 ≤ 12) (e0 : ∀ k, k < 5 → gi h' c' k = gi h c k) (e1 : ∀ j, j < 12 → gi h' (c' + 1) j = gi h (c + 1) j ∧ gi h' (c' + 2) j = gi h (c + 2) j) (e3 : ∀ m, m < 8 → gi h' (c' + 3) m = gi h (c + 3) m ∧ gi h' (c' + 4) m = gi h (c + 4) m) : kS h' c' = kS h c := by
  unfold kS
  rw [e0 0 (by omega), e0 1 (by omega), e0 2 (by omega), e0 3 (by omega), e0 4 (by omega), kO_eq fun j hj => e1 j (by omega)]
  congr 6
  · funext m
    by_cases hm : m < 8
    · rw [if_pos hm, if_pos hm, (e3 m hm).1]
    · rw [if_neg hm, if_neg hm]
  · funext m
    by_cases hm : m < 8
    · rw [if_pos hm, if_pos hm, (e3 m hm).2]
    · rw [if_neg hm, if_neg hm]
/-- elsewhere nothing changes -/
noncomputable def oth (c : Nat) (h h' : aH) : Prop := ∀ a k : Nat, ¬ (c ≤ a ∧ a ≤ c + 4) → gi h' a k = gi h a k
theorem oth_S {c c' : Nat} {h h' : aH} (ho : oth c h h') (hd : c + 5 ≤ c' ∨ c' + 5 ≤ c) : kS h' c' = kS h c' := by
  unfold kS
  have e : ∀ i, i ≤ 4 → ∀ k, gi h' (c' + i) k = gi h (c' + i) k := fun i hi k => ho _ k (by omega)
  have e0 : ∀ k, gi h' c' k = gi h c' k := fun k => ho _ k (by omega)
  rw [e0, e0, e0, e0, e0, kO_eq fun j _ => ⟨e 1 (by omega) j, e 2 (by omega) j⟩]
  simp only [e 3 (by omega), e 4 (by omega)]
noncomputable def rgA (c : Nat) : Prop := ∃ i, i < 15 ∧ c = 37 + 5 * i
theorem rg_b {c : Nat} (hc : rgA c) : 37 ≤ c ∧ c + 4 ≤ 111 := by
  obtain ⟨i, hi, rfl⟩ := hc
  omega
theorem rg_r {c : Nat} (hc : rgA c) : gRL[c]? = some 31 ∧ gRL[c + 1]? = some 32 ∧ gRL[c + 2]? = some 33 ∧ gRL[c + 3]? = some 34 ∧ gRL[c + 4]? = some 35 := by
  obtain ⟨i, hi, rfl⟩ := hc
  have : ∀ i, i < 15 → gRL[37 + 5 * i]? = some 31 ∧ gRL[37 + 5 * i + 1]? = some 32 ∧ gRL[37 + 5 * i + 2]? = some 33 ∧ gRL[37 + 5 * i + 3]? = some 34 ∧ gRL[37 + 5 * i + 4]? = some 35 := by decide +kernel
  exact this i hi
theorem rg_p {c : Nat} {h : aH} (hP : PT h) (hc : rgA c) : aR h c 5 = some (c + 1) ∧ aR h c 6 = some (c + 2) ∧ aR h c 7 = some (c + 3) ∧ aR h c 8 = some (c + 4) := by
  obtain ⟨i, hi, rfl⟩ := hc
  obtain ⟨-, p2, p3, -⟩ := hP
  have z := (p2 i hi).2
  exact ⟨(z 0 (by omega)).trans (congrArg some (by omega)), (z 1 (by omega)).trans (congrArg some (by omega)), (z 2 (by omega)).trans (congrArg some (by omega)), (z 3 (by omega)).trans (congrArg some (by omega))⟩
noncomputable def kpA (c : Nat) : Prop := ∃ i, i < 3 ∧ c = 112 + 5 * i
theorem kp_b {c : Nat} (hc : kpA c) : 112 ≤ c ∧ c + 4 ≤ 126 := by
  obtain ⟨i, hi, rfl⟩ := hc
  omega
theorem kp_r {c : Nat} (hc : kpA c) : gRL[c]? = some 36 ∧ gRL[c + 1]? = some 37 ∧ gRL[c + 2]? = some 38 ∧ gRL[c + 3]? = some 39 ∧ gRL[c + 4]? = some 40 := by
  obtain ⟨i, hi, rfl⟩ := hc
  have : ∀ i, i < 3 → gRL[112 + 5 * i]? = some 36 ∧ gRL[112 + 5 * i + 1]? = some 37 ∧ gRL[112 + 5 * i + 2]? = some 38 ∧ gRL[112 + 5 * i + 3]? = some 39 ∧ gRL[112 + 5 * i + 4]? = some 40 := by decide +kernel
  exact this i hi
theorem kp_p {c : Nat} {h : aH} (hP : PT h) (hc : kpA c) : aR h c 5 = some (c + 1) ∧ aR h c 6 = some (c + 2) ∧ aR h c 7 = some (c + 3) ∧ aR h c 8 = some (c + 4) := by
  obtain ⟨i, hi, rfl⟩ := hc
  obtain ⟨-, p2, p3, -⟩ := hP
  have z := (p3 i hi).2
  exact ⟨(z 0 (by omega)).trans (congrArg some (by omega)), (z 1 (by omega)).trans (congrArg some (by omega)), (z 2 (by omega)).trans (congrArg some (by omega)), (z 3 (by omega)).trans (congrArg some (by omega))⟩
set_option maxRecDepth 4000 in
theorem ctX8_copyFrom_28_23 {SP : CT} (hSP : MONO SP) {sh : List (Nat × Nat)} {h : aH} (hG : GD gE gRL sh h) (hP : PT h) : CLd SP 1 mX8_copyFrom [.ref 28, .ref 23] h 0 0 (fun rv h' => rv = none ∧ GD gE gRL sh h' ∧ FRM gRL [(0, 22, 0, 4), (0, 23, 0, 11), (0, 24, 0, 11), (0, 25, 0, 7), (0, 26, 0, 7)] h h' ∧ kS h' 28 = kS h 23 ∧ oth 28 h h') := by
  refine x_met _ rfl (Nat.le_of_ble_eq_true rfl) (fun K hK => ?_)
  have hmono := MONO_CLd hSP 0
  have g1 := gri 0 8 hG (a := 23) (r := 17) (k := 1) rfl rfl
  have g4 := gri 0 12 hG (a := 23) (r := 17) (k := 4) rfl rfl
  refine x_aload_n 1 hK rfl rfl rfl ?_
  refine x_aload_n 2 hK rfl rfl rfl ?_
  have g234 := gi_r h 23 0
  refine x_getE 5 hK rfl (Or.inl rfl) rfl (sp_23 (h := h) hG) (e := (gi h 23 0)) (rfl) ?_
  refine x_putI 8 hK rfl rfl (sp_28 (h := h) hG) ?_
  refine x_aload_n 9 hK rfl rfl rfl ?_
  refine x_aload_n 10 hK rfl rfl rfl ?_
  have g235 := gri (0) (8) hG (a := 23) (r := 17) (k := 1) rfl rfl
  refine x_getE 13 hK rfl (Or.inl rfl) rfl (sp_23 (h := h) hG) (e := (gi h 23 1)) (gi_a (by decide) _) ?_
  refine x_putI 16 hK rfl rfl (sp_28 (h := h) hG) ?_
  refine x_aload_n 17 hK rfl rfl rfl ?_
  refine x_aload_n 18 hK rfl rfl rfl ?_
  have g236 := gi_r h 23 2
  refine x_getE 21 hK rfl (Or.inl rfl) rfl (sp_23 (h := h) hG) (e := (gi h 23 2)) ((gi_a (by decide) _).trans (gi_a (by decide) _)) ?_
  refine x_putI 24 hK rfl rfl (sp_28 (h := h) hG) ?_
  refine x_aload_n 25 hK rfl rfl rfl ?_
  refine x_aload_n 26 hK rfl rfl rfl ?_
  have g237 := gi_r h 23 3
  refine x_getE 29 hK rfl (Or.inl rfl) rfl (sp_23 (h := h) hG) (e := (gi h 23 3)) ((gi_a (by decide) _).trans ((gi_a (by decide) _).trans (gi_a (by decide) _))) ?_
  refine x_putI 32 hK rfl rfl (sp_28 (h := h) hG) ?_
  refine x_aload_n 33 hK rfl rfl rfl ?_
  refine x_aload_n 34 hK rfl rfl rfl ?_
  have g238 := gri (0) (12) hG (a := 23) (r := 17) (k := 4) rfl rfl
  refine x_getE 37 hK rfl (Or.inl rfl) rfl (sp_23 (h := h) hG) (e := (gi h 23 4)) ((gi_a (by decide) _).trans ((gi_a (by decide) _).trans ((gi_a (by decide) _).trans (gi_a (by decide) _)))) ?_
  refine x_putI 40 hK rfl rfl (sp_28 (h := h) hG) ?_
  refine x_aload_n 41 hK rfl rfl rfl ?_
  refine x_getR 44 hK rfl rfl (sp_23 (h := h) hG) (rf_23_5 (h := h) hG) ?_
  refine x_iconst 45 hK rfl rfl ?_
  refine x_aload_n 46 hK rfl rfl rfl ?_
  refine x_getR 49 hK rfl rfl (sp_28 (h := h) hG) (rf_28_5 (h := h) hG) ?_
  refine x_iconst 50 hK rfl rfl ?_
  refine x_bipush 52 hK rfl rfl rfl ?_
  refine x_acp 55 hK rfl rfl (by decide) (sp_24 (h := h) hG) (sp_29 (h := h) hG) (by omega) (by omega) (by omega) (by omega) (by omega) ?_
  obtain ⟨h239, e239⟩ : ∃ z, z = sC (wI (wI (wI (wI (wI h 28 0 (gi h 23 0)) 28 1 (gi h 23 1)) 28 2 (gi h 23 2)) 28 3 (gi h 23 3)) 28 4 (gi h 23 4)) 24 (Int.toNat 0) 29 (Int.toNat 0) (Int.toNat 12) := ⟨_, rfl⟩
  rw [← e239]
  have hG239 : GD gE gRL sh h239 := by rw [e239]; exact GD_C (GD_w1 (GD_w0 (GD_w0 (GD_w1 (GD_w0 (hG) (r := 22) rfl rfl) (r := 22) rfl (by omega) rfl (by omega) (by omega)) (r := 22) rfl rfl) (r := 22) rfl rfl) (r := 22) rfl (by omega) rfl (by omega) (by omega)) (r := 23) rfl rfl
  have hF239 : FRM gRL [(0, 23, 0, 11)] (wI (wI (wI (wI (wI h 28 0 (gi h 23 0)) 28 1 (gi h 23 1)) 28 2 (gi h 23 2)) 28 3 (gi h 23 3)) 28 4 (gi h 23 4)) h239 := by rw [e239]; exact FRM_C FRM.rf (r := 23) rfl fun k k1 k2 => mIn_r (x := 0) (y := 11) (by decide) k (by omega) (by omega)
  have oc239 : ∀ a9 k9, a9 ≠ 29 → gi h239 a9 k9 = gi (wI (wI (wI (wI (wI h 28 0 (gi h 23 0)) 28 1 (gi h 23 1)) 28 2 (gi h 23 2)) 28 3 (gi h 23 3)) 28 4 (gi h 23 4)) a9 k9 := fun a9 k9 ha => by rw [e239]; exact gi_sCn ha k9
  have cc239 : ∀ j9, gi h239 29 j9 = if (Int.toNat 0) ≤ j9 ∧ j9 < (Int.toNat 0) + (Int.toNat 12) then gi (wI (wI (wI (wI (wI h 28 0 (gi h 23 0)) 28 1 (gi h 23 1)) 28 2 (gi h 23 2)) 28 3 (gi h 23 3)) 28 4 (gi h 23 4)) 24 ((Int.toNat 0) + (j9 - (Int.toNat 0))) else gi (wI (wI (wI (wI (wI h 28 0 (gi h 23 0)) 28 1 (gi h 23 1)) 28 2 (gi h 23 2)) 28 3 (gi h 23 3)) 28 4 (gi h 23 4)) 29 j9 := fun j9 => by rw [e239]; exact gi_sC j9
  refine x_aload_n 56 hK rfl rfl rfl ?_
  refine x_getR 59 hK rfl rfl (sp_23 (h := h239) hG239) (rf_23_6 (h := h239) hG239) ?_
  refine x_iconst 60 hK rfl rfl ?_
  refine x_aload_n 61 hK rfl rfl rfl ?_
  refine x_getR 64 hK rfl rfl (sp_28 (h := h239) hG239) (rf_28_6 (h := h239) hG239) ?_
  refine x_iconst 65 hK rfl rfl ?_
  refine x_bipush 67 hK rfl rfl rfl ?_
  refine x_acp 70 hK rfl rfl (by decide) (sp_25 (h := h239) hG239) (sp_30 (h := h239) hG239) (by omega) (by omega) (by omega) (by omega) (by omega) ?_
  obtain ⟨h240, e240⟩ : ∃ z, z = sC h239 25 (Int.toNat 0) 30 (Int.toNat 0) (Int.toNat 12) := ⟨_, rfl⟩
  rw [← e240]
  have hG240 : GD gE gRL sh h240 := by rw [e240]; exact GD_C (hG239) (r := 24) rfl rfl
  have hF240 : FRM gRL [(0, 24, 0, 11)] h239 h240 := by rw [e240]; exact FRM_C FRM.rf (r := 24) rfl fun k k1 k2 => mIn_r (x := 0) (y := 11) (by decide) k (by omega) (by omega)
  have oc240 : ∀ a9 k9, a9 ≠ 30 → gi h240 a9 k9 = gi h239 a9 k9 := fun a9 k9 ha => by rw [e240]; exact gi_sCn ha k9
  have cc240 : ∀ j9, gi h240 30 j9 = if (Int.toNat 0) ≤ j9 ∧ j9 < (Int.toNat 0) + (Int.toNat 12) then gi h239 25 ((Int.toNat 0) + (j9 - (Int.toNat 0))) else gi h239 30 j9 := fun j9 => by rw [e240]; exact gi_sC j9
  refine x_aload_n 71 hK rfl rfl rfl ?_
  refine x_getR 74 hK rfl rfl (sp_23 (h := h240) hG240) (rf_23_7 (h := h240) hG240) ?_
  refine x_iconst 75 hK rfl rfl ?_
  refine x_aload_n 76 hK rfl rfl rfl ?_
  refine x_getR 79 hK rfl rfl (sp_28 (h := h240) hG240) (rf_28_7 (h := h240) hG240) ?_
  refine x_iconst 80 hK rfl rfl ?_
  refine x_bipush 82 hK rfl rfl rfl ?_
  refine x_acp 85 hK rfl rfl (by decide) (sp_26 (h := h240) hG240) (sp_31 (h := h240) hG240) (by omega) (by omega) (by omega) (by omega) (by omega) ?_
  obtain ⟨h241, e241⟩ : ∃ z, z = sC h240 26 (Int.toNat 0) 31 (Int.toNat 0) (Int.toNat 8) := ⟨_, rfl⟩
  rw [← e241]
  have hG241 : GD gE gRL sh h241 := by rw [e241]; exact GD_C (hG240) (r := 25) rfl rfl
  have hF241 : FRM gRL [(0, 25, 0, 7)] h240 h241 := by rw [e241]; exact FRM_C FRM.rf (r := 25) rfl fun k k1 k2 => mIn_r (x := 0) (y := 7) (by decide) k (by omega) (by omega)
  have oc241 : ∀ a9 k9, a9 ≠ 31 → gi h241 a9 k9 = gi h240 a9 k9 := fun a9 k9 ha => by rw [e241]; exact gi_sCn ha k9
  have cc241 : ∀ j9, gi h241 31 j9 = if (Int.toNat 0) ≤ j9 ∧ j9 < (Int.toNat 0) + (Int.toNat 8) then gi h240 26 ((Int.toNat 0) + (j9 - (Int.toNat 0))) else gi h240 31 j9 := fun j9 => by rw [e241]; exact gi_sC j9
  refine x_aload_n 86 hK rfl rfl rfl ?_
  refine x_getR 89 hK rfl rfl (sp_23 (h := h241) hG241) (rf_23_8 (h := h241) hG241) ?_
  refine x_iconst 90 hK rfl rfl ?_
  refine x_aload_n 91 hK rfl rfl rfl ?_
  refine x_getR 94 hK rfl rfl (sp_28 (h := h241) hG241) (rf_28_8 (h := h241) hG241) ?_
  refine x_iconst 95 hK rfl rfl ?_
  refine x_bipush 97 hK rfl rfl rfl ?_
  refine x_acp 100 hK rfl rfl (by decide) (sp_27 (h := h241) hG241) (sp_32 (h := h241) hG241) (by omega) (by omega) (by omega) (by omega) (by omega) ?_
  obtain ⟨h242, e242⟩ : ∃ z, z = sC h241 27 (Int.toNat 0) 32 (Int.toNat 0) (Int.toNat 8) := ⟨_, rfl⟩
  rw [← e242]
  have hG242 : GD gE gRL sh h242 := by rw [e242]; exact GD_C (hG241) (r := 26) rfl rfl
  have hF242 : FRM gRL [(0, 26, 0, 7)] h241 h242 := by rw [e242]; exact FRM_C FRM.rf (r := 26) rfl fun k k1 k2 => mIn_r (x := 0) (y := 7) (by decide) k (by omega) (by omega)
  have oc242 : ∀ a9 k9, a9 ≠ 32 → gi h242 a9 k9 = gi h241 a9 k9 := fun a9 k9 ha => by rw [e242]; exact gi_sCn ha k9
  have cc242 : ∀ j9, gi h242 32 j9 = if (Int.toNat 0) ≤ j9 ∧ j9 < (Int.toNat 0) + (Int.toNat 8) then gi h241 27 ((Int.toNat 0) + (j9 - (Int.toNat 0))) else gi h241 32 j9 := fun j9 => by rw [e242]; exact gi_sC j9
  have ee : ∀ k, k < 5 → gi h242 28 k = gi h 23 k := fun k hk => by
    rcases (show k = 0 ∨ k = 1 ∨ k = 2 ∨ k = 3 ∨ k = 4 by omega) with rfl | rfl | rfl | rfl | rfl
    · exact (FRM_gi hF242 (r := 22) rfl rfl).trans ((FRM_gi hF241 (r := 22) rfl rfl).trans ((FRM_gi hF240 (r := 22) rfl rfl).trans ((FRM_gi hF239 (r := 22) rfl rfl).trans ((gi_k (by decide) _).trans ((gi_k (by decide) _).trans ((gi_k (by decide) _).trans ((gi_k (by decide) _).trans (gi_same (by omega)))))))))
    · exact (FRM_gi hF242 (r := 22) rfl rfl).trans ((FRM_gi hF241 (r := 22) rfl rfl).trans ((FRM_gi hF240 (r := 22) rfl rfl).trans ((FRM_gi hF239 (r := 22) rfl rfl).trans ((gi_k (by decide) _).trans ((gi_k (by decide) _).trans ((gi_k (by decide) _).trans (gi_same (by omega))))))))
    · exact (FRM_gi hF242 (r := 22) rfl rfl).trans ((FRM_gi hF241 (r := 22) rfl rfl).trans ((FRM_gi hF240 (r := 22) rfl rfl).trans ((FRM_gi hF239 (r := 22) rfl rfl).trans ((gi_k (by decide) _).trans ((gi_k (by decide) _).trans (gi_same (by omega)))))))
    · exact (FRM_gi hF242 (r := 22) rfl rfl).trans ((FRM_gi hF241 (r := 22) rfl rfl).trans ((FRM_gi hF240 (r := 22) rfl rfl).trans ((FRM_gi hF239 (r := 22) rfl rfl).trans ((gi_k (by decide) _).trans (gi_same (by omega))))))
    · exact (FRM_gi hF242 (r := 22) rfl rfl).trans ((FRM_gi hF241 (r := 22) rfl rfl).trans ((FRM_gi hF240 (r := 22) rfl rfl).trans ((FRM_gi hF239 (r := 22) rfl rfl).trans (gi_same (by omega)))))
  have c0 : ∀ j, j < 12 → gi h242 29 j = gi h 24 j := fun j hj => (oc242 _ j (by omega)).trans ((oc241 _ j (by omega)).trans ((oc240 _ j (by omega)).trans ((cc239 j).trans ((if_pos (by omega)).trans ((gi_to (show Int.toNat 0 + (j - Int.toNat 0) = j by omega)).trans ((gi_a (by omega) _).trans ((gi_a (by omega) _).trans ((gi_a (by omega) _).trans ((gi_a (by omega) _).trans (gi_a (by omega) _))))))))))
  have c1 : ∀ j, j < 12 → gi h242 30 j = gi h 25 j := fun j hj => (oc242 _ j (by omega)).trans ((oc241 _ j (by omega)).trans ((cc240 j).trans ((if_pos (by omega)).trans ((gi_to (show Int.toNat 0 + (j - Int.toNat 0) = j by omega)).trans ((oc239 _ _ (by omega)).trans ((gi_a (by omega) _).trans ((gi_a (by omega) _).trans ((gi_a (by omega) _).trans ((gi_a (by omega) _).trans (gi_a (by omega) _))))))))))
  have c2 : ∀ j, j < 8 → gi h242 31 j = gi h 26 j := fun j hj => (oc242 _ j (by omega)).trans ((cc241 j).trans ((if_pos (by omega)).trans ((gi_to (show Int.toNat 0 + (j - Int.toNat 0) = j by omega)).trans ((oc240 _ _ (by omega)).trans ((oc239 _ _ (by omega)).trans ((gi_a (by omega) _).trans ((gi_a (by omega) _).trans ((gi_a (by omega) _).trans ((gi_a (by omega) _).trans (gi_a (by omega) _))))))))))
  have c3 : ∀ j, j < 8 → gi h242 32 j = gi h 27 j := fun j hj => (cc242 j).trans ((if_pos (by omega)).trans ((gi_to (show Int.toNat 0 + (j - Int.toNat 0) = j by omega)).trans ((oc241 _ _ (by omega)).trans ((oc240 _ _ (by omega)).trans ((oc239 _ _ (by omega)).trans ((gi_a (by omega) _).trans ((gi_a (by omega) _).trans ((gi_a (by omega) _).trans ((gi_a (by omega) _).trans (gi_a (by omega) _))))))))))
  exact x_vret hK rfl ⟨rfl, hG242, ((((FRM_w (FRM_w (FRM_w (FRM_w (FRM_w ((FRM.rf : FRM gRL [(0, 22, 0, 4), (0, 23, 0, 11), (0, 24, 0, 11), (0, 25, 0, 7), (0, 26, 0, 7)] h h)) (r := 22) rfl rfl) (r := 22) rfl rfl) (r := 22) rfl rfl) (r := 22) rfl rfl) (r := 22) rfl rfl).trans ((hF239).mono rfl)).trans ((hF240).mono rfl)).trans ((hF241).mono rfl)).trans ((hF242).mono rfl), kS_eq g4 ee (fun j hj => ⟨c0 j hj, c1 j hj⟩) (fun j hj => ⟨c2 j hj, c3 j hj⟩), fun a k hn => (oc242 a k (by omega)).trans ((oc241 a k (by omega)).trans ((oc240 a k (by omega)).trans ((oc239 a k (by omega)).trans ((gi_a (by omega) _).trans ((gi_a (by omega) _).trans ((gi_a (by omega) _).trans ((gi_a (by omega) _).trans (gi_a (by omega) _))))))))⟩
set_option maxRecDepth 4000 in
theorem ctX8_copyFrom_23_28 {SP : CT} (hSP : MONO SP) {sh : List (Nat × Nat)} {h : aH} (hG : GD gE gRL sh h) (hP : PT h) : CLd SP 1 mX8_copyFrom [.ref 23, .ref 28] h 0 0 (fun rv h' => rv = none ∧ GD gE gRL sh h' ∧ FRM gRL [(0, 17, 0, 4), (0, 18, 0, 11), (0, 19, 0, 11), (0, 20, 0, 7), (0, 21, 0, 7)] h h' ∧ kS h' 23 = kS h 28 ∧ oth 23 h h') := by
  refine x_met _ rfl (Nat.le_of_ble_eq_true rfl) (fun K hK => ?_)
  have hmono := MONO_CLd hSP 0
  have g1 := gri 0 8 hG (a := 28) (r := 22) (k := 1) rfl rfl
  have g4 := gri 0 12 hG (a := 28) (r := 22) (k := 4) rfl rfl
  refine x_aload_n 1 hK rfl rfl rfl ?_
  refine x_aload_n 2 hK rfl rfl rfl ?_
  have g243 := gi_r h 28 0
  refine x_getE 5 hK rfl (Or.inl rfl) rfl (sp_28 (h := h) hG) (e := (gi h 28 0)) (rfl) ?_
  refine x_putI 8 hK rfl rfl (sp_23 (h := h) hG) ?_
  refine x_aload_n 9 hK rfl rfl rfl ?_
  refine x_aload_n 10 hK rfl rfl rfl ?_
  have g244 := gri (0) (8) hG (a := 28) (r := 22) (k := 1) rfl rfl
  refine x_getE 13 hK rfl (Or.inl rfl) rfl (sp_28 (h := h) hG) (e := (gi h 28 1)) (gi_a (by decide) _) ?_
  refine x_putI 16 hK rfl rfl (sp_23 (h := h) hG) ?_
  refine x_aload_n 17 hK rfl rfl rfl ?_
  refine x_aload_n 18 hK rfl rfl rfl ?_
  have g245 := gi_r h 28 2
  refine x_getE 21 hK rfl (Or.inl rfl) rfl (sp_28 (h := h) hG) (e := (gi h 28 2)) ((gi_a (by decide) _).trans (gi_a (by decide) _)) ?_
  refine x_putI 24 hK rfl rfl (sp_23 (h := h) hG) ?_
  refine x_aload_n 25 hK rfl rfl rfl ?_
  refine x_aload_n 26 hK rfl rfl rfl ?_
  have g246 := gi_r h 28 3
  refine x_getE 29 hK rfl (Or.inl rfl) rfl (sp_28 (h := h) hG) (e := (gi h 28 3)) ((gi_a (by decide) _).trans ((gi_a (by decide) _).trans (gi_a (by decide) _))) ?_
  refine x_putI 32 hK rfl rfl (sp_23 (h := h) hG) ?_
  refine x_aload_n 33 hK rfl rfl rfl ?_
  refine x_aload_n 34 hK rfl rfl rfl ?_
  have g247 := gri (0) (12) hG (a := 28) (r := 22) (k := 4) rfl rfl
  refine x_getE 37 hK rfl (Or.inl rfl) rfl (sp_28 (h := h) hG) (e := (gi h 28 4)) ((gi_a (by decide) _).trans ((gi_a (by decide) _).trans ((gi_a (by decide) _).trans (gi_a (by decide) _)))) ?_
  refine x_putI 40 hK rfl rfl (sp_23 (h := h) hG) ?_
  refine x_aload_n 41 hK rfl rfl rfl ?_
  refine x_getR 44 hK rfl rfl (sp_28 (h := h) hG) (rf_28_5 (h := h) hG) ?_
  refine x_iconst 45 hK rfl rfl ?_
  refine x_aload_n 46 hK rfl rfl rfl ?_
  refine x_getR 49 hK rfl rfl (sp_23 (h := h) hG) (rf_23_5 (h := h) hG) ?_
  refine x_iconst 50 hK rfl rfl ?_
  refine x_bipush 52 hK rfl rfl rfl ?_
  refine x_acp 55 hK rfl rfl (by decide) (sp_29 (h := h) hG) (sp_24 (h := h) hG) (by omega) (by omega) (by omega) (by omega) (by omega) ?_
  obtain ⟨h248, e248⟩ : ∃ z, z = sC (wI (wI (wI (wI (wI h 23 0 (gi h 28 0)) 23 1 (gi h 28 1)) 23 2 (gi h 28 2)) 23 3 (gi h 28 3)) 23 4 (gi h 28 4)) 29 (Int.toNat 0) 24 (Int.toNat 0) (Int.toNat 12) := ⟨_, rfl⟩
  rw [← e248]
  have hG248 : GD gE gRL sh h248 := by rw [e248]; exact GD_C (GD_w1 (GD_w0 (GD_w0 (GD_w1 (GD_w0 (hG) (r := 17) rfl rfl) (r := 17) rfl (by omega) rfl (by omega) (by omega)) (r := 17) rfl rfl) (r := 17) rfl rfl) (r := 17) rfl (by omega) rfl (by omega) (by omega)) (r := 18) rfl rfl
  have hF248 : FRM gRL [(0, 18, 0, 11)] (wI (wI (wI (wI (wI h 23 0 (gi h 28 0)) 23 1 (gi h 28 1)) 23 2 (gi h 28 2)) 23 3 (gi h 28 3)) 23 4 (gi h 28 4)) h248 := by rw [e248]; exact FRM_C FRM.rf (r := 18) rfl fun k k1 k2 => mIn_r (x := 0) (y := 11) (by decide) k (by omega) (by omega)
  have oc248 : ∀ a9 k9, a9 ≠ 24 → gi h248 a9 k9 = gi (wI (wI (wI (wI (wI h 23 0 (gi h 28 0)) 23 1 (gi h 28 1)) 23 2 (gi h 28 2)) 23 3 (gi h 28 3)) 23 4 (gi h 28 4)) a9 k9 := fun a9 k9 ha => by rw [e248]; exact gi_sCn ha k9
  have cc248 : ∀ j9, gi h248 24 j9 = if (Int.toNat 0) ≤ j9 ∧ j9 < (Int.toNat 0) + (Int.toNat 12) then gi (wI (wI (wI (wI (wI h 23 0 (gi h 28 0)) 23 1 (gi h 28 1)) 23 2 (gi h 28 2)) 23 3 (gi h 28 3)) 23 4 (gi h 28 4)) 29 ((Int.toNat 0) + (j9 - (Int.toNat 0))) else gi (wI (wI (wI (wI (wI h 23 0 (gi h 28 0)) 23 1 (gi h 28 1)) 23 2 (gi h 28 2)) 23 3 (gi h 28 3)) 23 4 (gi h 28 4)) 24 j9 := fun j9 => by rw [e248]; exact gi_sC j9
  refine x_aload_n 56 hK rfl rfl rfl ?_
  refine x_getR 59 hK rfl rfl (sp_28 (h := h248) hG248) (rf_28_6 (h := h248) hG248) ?_
  refine x_iconst 60 hK rfl rfl ?_
  refine x_aload_n 61 hK rfl rfl rfl ?_
  refine x_getR 64 hK rfl rfl (sp_23 (h := h248) hG248) (rf_23_6 (h := h248) hG248) ?_
  refine x_iconst 65 hK rfl rfl ?_
  refine x_bipush 67 hK rfl rfl rfl ?_
  refine x_acp 70 hK rfl rfl (by decide) (sp_30 (h := h248) hG248) (sp_25 (h := h248) hG248) (by omega) (by omega) (by omega) (by omega) (by omega) ?_
  obtain ⟨h249, e249⟩ : ∃ z, z = sC h248 30 (Int.toNat 0) 25 (Int.toNat 0) (Int.toNat 12) := ⟨_, rfl⟩
  rw [← e249]
  have hG249 : GD gE gRL sh h249 := by rw [e249]; exact GD_C (hG248) (r := 19) rfl rfl
  have hF249 : FRM gRL [(0, 19, 0, 11)] h248 h249 := by rw [e249]; exact FRM_C FRM.rf (r := 19) rfl fun k k1 k2 => mIn_r (x := 0) (y := 11) (by decide) k (by omega) (by omega)
  have oc249 : ∀ a9 k9, a9 ≠ 25 → gi h249 a9 k9 = gi h248 a9 k9 := fun a9 k9 ha => by rw [e249]; exact gi_sCn ha k9
  have cc249 : ∀ j9, gi h249 25 j9 = if (Int.toNat 0) ≤ j9 ∧ j9 < (Int.toNat 0) + (Int.toNat 12) then gi h248 30 ((Int.toNat 0) + (j9 - (Int.toNat 0))) else gi h248 25 j9 := fun j9 => by rw [e249]; exact gi_sC j9
  refine x_aload_n 71 hK rfl rfl rfl ?_
  refine x_getR 74 hK rfl rfl (sp_28 (h := h249) hG249) (rf_28_7 (h := h249) hG249) ?_
  refine x_iconst 75 hK rfl rfl ?_
  refine x_aload_n 76 hK rfl rfl rfl ?_
  refine x_getR 79 hK rfl rfl (sp_23 (h := h249) hG249) (rf_23_7 (h := h249) hG249) ?_
  refine x_iconst 80 hK rfl rfl ?_
  refine x_bipush 82 hK rfl rfl rfl ?_
  refine x_acp 85 hK rfl rfl (by decide) (sp_31 (h := h249) hG249) (sp_26 (h := h249) hG249) (by omega) (by omega) (by omega) (by omega) (by omega) ?_
  obtain ⟨h250, e250⟩ : ∃ z, z = sC h249 31 (Int.toNat 0) 26 (Int.toNat 0) (Int.toNat 8) := ⟨_, rfl⟩
  rw [← e250]
  have hG250 : GD gE gRL sh h250 := by rw [e250]; exact GD_C (hG249) (r := 20) rfl rfl
  have hF250 : FRM gRL [(0, 20, 0, 7)] h249 h250 := by rw [e250]; exact FRM_C FRM.rf (r := 20) rfl fun k k1 k2 => mIn_r (x := 0) (y := 7) (by decide) k (by omega) (by omega)
  have oc250 : ∀ a9 k9, a9 ≠ 26 → gi h250 a9 k9 = gi h249 a9 k9 := fun a9 k9 ha => by rw [e250]; exact gi_sCn ha k9
  have cc250 : ∀ j9, gi h250 26 j9 = if (Int.toNat 0) ≤ j9 ∧ j9 < (Int.toNat 0) + (Int.toNat 8) then gi h249 31 ((Int.toNat 0) + (j9 - (Int.toNat 0))) else gi h249 26 j9 := fun j9 => by rw [e250]; exact gi_sC j9
  refine x_aload_n 86 hK rfl rfl rfl ?_
  refine x_getR 89 hK rfl rfl (sp_28 (h := h250) hG250) (rf_28_8 (h := h250) hG250) ?_
  refine x_iconst 90 hK rfl rfl ?_
  refine x_aload_n 91 hK rfl rfl rfl ?_
  refine x_getR 94 hK rfl rfl (sp_23 (h := h250) hG250) (rf_23_8 (h := h250) hG250) ?_
  refine x_iconst 95 hK rfl rfl ?_
  refine x_bipush 97 hK rfl rfl rfl ?_
  refine x_acp 100 hK rfl rfl (by decide) (sp_32 (h := h250) hG250) (sp_27 (h := h250) hG250) (by omega) (by omega) (by omega) (by omega) (by omega) ?_
  obtain ⟨h251, e251⟩ : ∃ z, z = sC h250 32 (Int.toNat 0) 27 (Int.toNat 0) (Int.toNat 8) := ⟨_, rfl⟩
  rw [← e251]
  have hG251 : GD gE gRL sh h251 := by rw [e251]; exact GD_C (hG250) (r := 21) rfl rfl
  have hF251 : FRM gRL [(0, 21, 0, 7)] h250 h251 := by rw [e251]; exact FRM_C FRM.rf (r := 21) rfl fun k k1 k2 => mIn_r (x := 0) (y := 7) (by decide) k (by omega) (by omega)
  have oc251 : ∀ a9 k9, a9 ≠ 27 → gi h251 a9 k9 = gi h250 a9 k9 := fun a9 k9 ha => by rw [e251]; exact gi_sCn ha k9
  have cc251 : ∀ j9, gi h251 27 j9 = if (Int.toNat 0) ≤ j9 ∧ j9 < (Int.toNat 0) + (Int.toNat 8) then gi h250 32 ((Int.toNat 0) + (j9 - (Int.toNat 0))) else gi h250 27 j9 := fun j9 => by rw [e251]; exact gi_sC j9
  have ee : ∀ k, k < 5 → gi h251 23 k = gi h 28 k := fun k hk => by
    rcases (show k = 0 ∨ k = 1 ∨ k = 2 ∨ k = 3 ∨ k = 4 by omega) with rfl | rfl | rfl | rfl | rfl
    · exact (FRM_gi hF251 (r := 17) rfl rfl).trans ((FRM_gi hF250 (r := 17) rfl rfl).trans ((FRM_gi hF249 (r := 17) rfl rfl).trans ((FRM_gi hF248 (r := 17) rfl rfl).trans ((gi_k (by decide) _).trans ((gi_k (by decide) _).trans ((gi_k (by decide) _).trans ((gi_k (by decide) _).trans (gi_same (by omega)))))))))
    · exact (FRM_gi hF251 (r := 17) rfl rfl).trans ((FRM_gi hF250 (r := 17) rfl rfl).trans ((FRM_gi hF249 (r := 17) rfl rfl).trans ((FRM_gi hF248 (r := 17) rfl rfl).trans ((gi_k (by decide) _).trans ((gi_k (by decide) _).trans ((gi_k (by decide) _).trans (gi_same (by omega))))))))
    · exact (FRM_gi hF251 (r := 17) rfl rfl).trans ((FRM_gi hF250 (r := 17) rfl rfl).trans ((FRM_gi hF249 (r := 17) rfl rfl).trans ((FRM_gi hF248 (r := 17) rfl rfl).trans ((gi_k (by decide) _).trans ((gi_k (by decide) _).trans (gi_same (by omega)))))))
    · exact (FRM_gi hF251 (r := 17) rfl rfl).trans ((FRM_gi hF250 (r := 17) rfl rfl).trans ((FRM_gi hF249 (r := 17) rfl rfl).trans ((FRM_gi hF248 (r := 17) rfl rfl).trans ((gi_k (by decide) _).trans (gi_same (by omega))))))
    · exact (FRM_gi hF251 (r := 17) rfl rfl).trans ((FRM_gi hF250 (r := 17) rfl rfl).trans ((FRM_gi hF249 (r := 17) rfl rfl).trans ((FRM_gi hF248 (r := 17) rfl rfl).trans (gi_same (by omega)))))
  have c0 : ∀ j, j < 12 → gi h251 24 j = gi h 29 j := fun j hj => (oc251 _ j (by omega)).trans ((oc250 _ j (by omega)).trans ((oc249 _ j (by omega)).trans ((cc248 j).trans ((if_pos (by omega)).trans ((gi_to (show Int.toNat 0 + (j - Int.toNat 0) = j by omega)).trans ((gi_a (by omega) _).trans ((gi_a (by omega) _).trans ((gi_a (by omega) _).trans ((gi_a (by omega) _).trans (gi_a (by omega) _))))))))))
  have c1 : ∀ j, j < 12 → gi h251 25 j = gi h 30 j := fun j hj => (oc251 _ j (by omega)).trans ((oc250 _ j (by omega)).trans ((cc249 j).trans ((if_pos (by omega)).trans ((gi_to (show Int.toNat 0 + (j - Int.toNat 0) = j by omega)).trans ((oc248 _ _ (by omega)).trans ((gi_a (by omega) _).trans ((gi_a (by omega) _).trans ((gi_a (by omega) _).trans ((gi_a (by omega) _).trans (gi_a (by omega) _))))))))))
  have c2 : ∀ j, j < 8 → gi h251 26 j = gi h 31 j := fun j hj => (oc251 _ j (by omega)).trans ((cc250 j).trans ((if_pos (by omega)).trans ((gi_to (show Int.toNat 0 + (j - Int.toNat 0) = j by omega)).trans ((oc249 _ _ (by omega)).trans ((oc248 _ _ (by omega)).trans ((gi_a (by omega) _).trans ((gi_a (by omega) _).trans ((gi_a (by omega) _).trans ((gi_a (by omega) _).trans (gi_a (by omega) _))))))))))
  have c3 : ∀ j, j < 8 → gi h251 27 j = gi h 32 j := fun j hj => (cc251 j).trans ((if_pos (by omega)).trans ((gi_to (show Int.toNat 0 + (j - Int.toNat 0) = j by omega)).trans ((oc250 _ _ (by omega)).trans ((oc249 _ _ (by omega)).trans ((oc248 _ _ (by omega)).trans ((gi_a (by omega) _).trans ((gi_a (by omega) _).trans ((gi_a (by omega) _).trans ((gi_a (by omega) _).trans (gi_a (by omega) _))))))))))
  exact x_vret hK rfl ⟨rfl, hG251, ((((FRM_w (FRM_w (FRM_w (FRM_w (FRM_w ((FRM.rf : FRM gRL [(0, 17, 0, 4), (0, 18, 0, 11), (0, 19, 0, 11), (0, 20, 0, 7), (0, 21, 0, 7)] h h)) (r := 17) rfl rfl) (r := 17) rfl rfl) (r := 17) rfl rfl) (r := 17) rfl rfl) (r := 17) rfl rfl).trans ((hF248).mono rfl)).trans ((hF249).mono rfl)).trans ((hF250).mono rfl)).trans ((hF251).mono rfl), kS_eq g4 ee (fun j hj => ⟨c0 j hj, c1 j hj⟩) (fun j hj => ⟨c2 j hj, c3 j hj⟩), fun a k hn => (oc251 a k (by omega)).trans ((oc250 a k (by omega)).trans ((oc249 a k (by omega)).trans ((oc248 a k (by omega)).trans ((gi_a (by omega) _).trans ((gi_a (by omega) _).trans ((gi_a (by omega) _).trans ((gi_a (by omega) _).trans (gi_a (by omega) _))))))))⟩
set_option maxRecDepth 4000 in
theorem ctX8_copyFrom_rg_23 {SP : CT} (hSP : MONO SP) {sh : List (Nat × Nat)} {h : aH} (hG : GD gE gRL sh h) (hP : PT h) {c : Nat} (hc : rgA c) : CLd SP 1 mX8_copyFrom [.ref c, .ref 23] h 0 0 (fun rv h' => rv = none ∧ GD gE gRL sh h' ∧ FRM gRL [(0, 31, 0, 4), (0, 32, 0, 11), (0, 33, 0, 11), (0, 34, 0, 7), (0, 35, 0, 7)] h h' ∧ kS h' c = kS h 23 ∧ oth c h h') := by
  refine x_met _ rfl (Nat.le_of_ble_eq_true rfl) (fun K hK => ?_)
  have hmono := MONO_CLd hSP 0
  have hcb := rg_b hc
  have g1 := gri 0 8 hG (a := 23) (r := 17) (k := 1) rfl rfl
  have g4 := gri 0 12 hG (a := 23) (r := 17) (k := 4) rfl rfl
  refine x_aload_n 1 hK rfl rfl rfl ?_
  refine x_aload_n 2 hK rfl rfl rfl ?_
  have g252 := gi_r h 23 0
  refine x_getE 5 hK rfl (Or.inl rfl) rfl (sp_23 (h := h) hG) (e := (gi h 23 0)) (rfl) ?_
  refine x_putI 8 hK rfl rfl (shx (h := h) hG (r := 31) (rg_r hc).1 rfl) ?_
  refine x_aload_n 9 hK rfl rfl rfl ?_
  refine x_aload_n 10 hK rfl rfl rfl ?_
  have g253 := gri (0) (8) hG (a := 23) (r := 17) (k := 1) rfl rfl
  refine x_getE 13 hK rfl (Or.inl rfl) rfl (sp_23 (h := h) hG) (e := (gi h 23 1)) (gi_a (by omega) _) ?_
  refine x_putI 16 hK rfl rfl (shx (h := h) hG (r := 31) (rg_r hc).1 rfl) ?_
  refine x_aload_n 17 hK rfl rfl rfl ?_
  refine x_aload_n 18 hK rfl rfl rfl ?_
  have g254 := gi_r h 23 2
  refine x_getE 21 hK rfl (Or.inl rfl) rfl (sp_23 (h := h) hG) (e := (gi h 23 2)) ((gi_a (by omega) _).trans (gi_a (by omega) _)) ?_
  refine x_putI 24 hK rfl rfl (shx (h := h) hG (r := 31) (rg_r hc).1 rfl) ?_
  refine x_aload_n 25 hK rfl rfl rfl ?_
  refine x_aload_n 26 hK rfl rfl rfl ?_
  have g255 := gi_r h 23 3
  refine x_getE 29 hK rfl (Or.inl rfl) rfl (sp_23 (h := h) hG) (e := (gi h 23 3)) ((gi_a (by omega) _).trans ((gi_a (by omega) _).trans (gi_a (by omega) _))) ?_
  refine x_putI 32 hK rfl rfl (shx (h := h) hG (r := 31) (rg_r hc).1 rfl) ?_
  refine x_aload_n 33 hK rfl rfl rfl ?_
  refine x_aload_n 34 hK rfl rfl rfl ?_
  have g256 := gri (0) (12) hG (a := 23) (r := 17) (k := 4) rfl rfl
  refine x_getE 37 hK rfl (Or.inl rfl) rfl (sp_23 (h := h) hG) (e := (gi h 23 4)) ((gi_a (by omega) _).trans ((gi_a (by omega) _).trans ((gi_a (by omega) _).trans (gi_a (by omega) _)))) ?_
  refine x_putI 40 hK rfl rfl (shx (h := h) hG (r := 31) (rg_r hc).1 rfl) ?_
  refine x_aload_n 41 hK rfl rfl rfl ?_
  refine x_getR 44 hK rfl rfl (sp_23 (h := h) hG) (rf_23_5 (h := h) hG) ?_
  refine x_iconst 45 hK rfl rfl ?_
  refine x_aload_n 46 hK rfl rfl rfl ?_
  refine x_getR 49 hK rfl rfl (shx (h := h) hG (r := 31) (rg_r hc).1 rfl) (rg_p hP hc).1 ?_
  refine x_iconst 50 hK rfl rfl ?_
  refine x_bipush 52 hK rfl rfl rfl ?_
  refine x_acp 55 hK rfl rfl (by decide) (sp_24 (h := h) hG) (shx (h := h) hG (r := 32) (rg_r hc).2.1 rfl) (by omega) (by omega) (by omega) (by omega) (by omega) ?_
  obtain ⟨h257, e257⟩ : ∃ z, z = sC (wI (wI (wI (wI (wI h c 0 (gi h 23 0)) c 1 (gi h 23 1)) c 2 (gi h 23 2)) c 3 (gi h 23 3)) c 4 (gi h 23 4)) 24 (Int.toNat 0) (c + 1) (Int.toNat 0) (Int.toNat 12) := ⟨_, rfl⟩
  rw [← e257]
  have hG257 : GD gE gRL sh h257 := by rw [e257]; exact GD_C (GD_w1 (GD_w0 (GD_w0 (GD_w1 (GD_w0 (hG) (r := 31) (rg_r hc).1 rfl) (r := 31) (rg_r hc).1 (by omega) rfl (by omega) (by omega)) (r := 31) (rg_r hc).1 rfl) (r := 31) (rg_r hc).1 rfl) (r := 31) (rg_r hc).1 (by omega) rfl (by omega) (by omega)) (r := 32) (rg_r hc).2.1 rfl
  have hF257 : FRM gRL [(0, 32, 0, 11)] (wI (wI (wI (wI (wI h c 0 (gi h 23 0)) c 1 (gi h 23 1)) c 2 (gi h 23 2)) c 3 (gi h 23 3)) c 4 (gi h 23 4)) h257 := by rw [e257]; exact FRM_C FRM.rf (r := 32) (rg_r hc).2.1 fun k k1 k2 => mIn_r (x := 0) (y := 11) (by decide) k (by omega) (by omega)
  have oc257 : ∀ a9 k9, a9 ≠ (c + 1) → gi h257 a9 k9 = gi (wI (wI (wI (wI (wI h c 0 (gi h 23 0)) c 1 (gi h 23 1)) c 2 (gi h 23 2)) c 3 (gi h 23 3)) c 4 (gi h 23 4)) a9 k9 := fun a9 k9 ha => by rw [e257]; exact gi_sCn ha k9
  have cc257 : ∀ j9, gi h257 (c + 1) j9 = if (Int.toNat 0) ≤ j9 ∧ j9 < (Int.toNat 0) + (Int.toNat 12) then gi (wI (wI (wI (wI (wI h c 0 (gi h 23 0)) c 1 (gi h 23 1)) c 2 (gi h 23 2)) c 3 (gi h 23 3)) c 4 (gi h 23 4)) 24 ((Int.toNat 0) + (j9 - (Int.toNat 0))) else gi (wI (wI (wI (wI (wI h c 0 (gi h 23 0)) c 1 (gi h 23 1)) c 2 (gi h 23 2)) c 3 (gi h 23 3)) c 4 (gi h 23 4)) (c + 1) j9 := fun j9 => by rw [e257]; exact gi_sC j9
  refine x_aload_n 56 hK rfl rfl rfl ?_
  refine x_getR 59 hK rfl rfl (sp_23 (h := h257) hG257) (rf_23_6 (h := h257) hG257) ?_
  refine x_iconst 60 hK rfl rfl ?_
  refine x_aload_n 61 hK rfl rfl rfl ?_
  refine x_getR 64 hK rfl rfl (shx (h := h257) hG257 (r := 31) (rg_r hc).1 rfl) (rg_p (PT_F hF257 (by decide) hP) hc).2.1 ?_
  refine x_iconst 65 hK rfl rfl ?_
  refine x_bipush 67 hK rfl rfl rfl ?_
  refine x_acp 70 hK rfl rfl (by decide) (sp_25 (h := h257) hG257) (shx (h := h257) hG257 (r := 33) (rg_r hc).2.2.1 rfl) (by omega) (by omega) (by omega) (by omega) (by omega) ?_
  obtain ⟨h258, e258⟩ : ∃ z, z = sC h257 25 (Int.toNat 0) (c + 2) (Int.toNat 0) (Int.toNat 12) := ⟨_, rfl⟩
  rw [← e258]
  have hG258 : GD gE gRL sh h258 := by rw [e258]; exact GD_C (hG257) (r := 33) (rg_r hc).2.2.1 rfl
  have hF258 : FRM gRL [(0, 33, 0, 11)] h257 h258 := by rw [e258]; exact FRM_C FRM.rf (r := 33) (rg_r hc).2.2.1 fun k k1 k2 => mIn_r (x := 0) (y := 11) (by decide) k (by omega) (by omega)
  have oc258 : ∀ a9 k9, a9 ≠ (c + 2) → gi h258 a9 k9 = gi h257 a9 k9 := fun a9 k9 ha => by rw [e258]; exact gi_sCn ha k9
  have cc258 : ∀ j9, gi h258 (c + 2) j9 = if (Int.toNat 0) ≤ j9 ∧ j9 < (Int.toNat 0) + (Int.toNat 12) then gi h257 25 ((Int.toNat 0) + (j9 - (Int.toNat 0))) else gi h257 (c + 2) j9 := fun j9 => by rw [e258]; exact gi_sC j9
  refine x_aload_n 71 hK rfl rfl rfl ?_
  refine x_getR 74 hK rfl rfl (sp_23 (h := h258) hG258) (rf_23_7 (h := h258) hG258) ?_
  refine x_iconst 75 hK rfl rfl ?_
  refine x_aload_n 76 hK rfl rfl rfl ?_
  refine x_getR 79 hK rfl rfl (shx (h := h258) hG258 (r := 31) (rg_r hc).1 rfl) (rg_p (PT_F hF258 (by decide) (PT_F hF257 (by decide) hP)) hc).2.2.1 ?_
  refine x_iconst 80 hK rfl rfl ?_
  refine x_bipush 82 hK rfl rfl rfl ?_
  refine x_acp 85 hK rfl rfl (by decide) (sp_26 (h := h258) hG258) (shx (h := h258) hG258 (r := 34) (rg_r hc).2.2.2.1 rfl) (by omega) (by omega) (by omega) (by omega) (by omega) ?_
  obtain ⟨h259, e259⟩ : ∃ z, z = sC h258 26 (Int.toNat 0) (c + 3) (Int.toNat 0) (Int.toNat 8) := ⟨_, rfl⟩
  rw [← e259]
  have hG259 : GD gE gRL sh h259 := by rw [e259]; exact GD_C (hG258) (r := 34) (rg_r hc).2.2.2.1 rfl
  have hF259 : FRM gRL [(0, 34, 0, 7)] h258 h259 := by rw [e259]; exact FRM_C FRM.rf (r := 34) (rg_r hc).2.2.2.1 fun k k1 k2 => mIn_r (x := 0) (y := 7) (by decide) k (by omega) (by omega)
  have oc259 : ∀ a9 k9, a9 ≠ (c + 3) → gi h259 a9 k9 = gi h258 a9 k9 := fun a9 k9 ha => by rw [e259]; exact gi_sCn ha k9
  have cc259 : ∀ j9, gi h259 (c + 3) j9 = if (Int.toNat 0) ≤ j9 ∧ j9 < (Int.toNat 0) + (Int.toNat 8) then gi h258 26 ((Int.toNat 0) + (j9 - (Int.toNat 0))) else gi h258 (c + 3) j9 := fun j9 => by rw [e259]; exact gi_sC j9
  refine x_aload_n 86 hK rfl rfl rfl ?_
  refine x_getR 89 hK rfl rfl (sp_23 (h := h259) hG259) (rf_23_8 (h := h259) hG259) ?_
  refine x_iconst 90 hK rfl rfl ?_
  refine x_aload_n 91 hK rfl rfl rfl ?_
  refine x_getR 94 hK rfl rfl (shx (h := h259) hG259 (r := 31) (rg_r hc).1 rfl) (rg_p (PT_F hF259 (by decide) (PT_F hF258 (by decide) (PT_F hF257 (by decide) hP))) hc).2.2.2 ?_
  refine x_iconst 95 hK rfl rfl ?_
  refine x_bipush 97 hK rfl rfl rfl ?_
  refine x_acp 100 hK rfl rfl (by decide) (sp_27 (h := h259) hG259) (shx (h := h259) hG259 (r := 35) (rg_r hc).2.2.2.2 rfl) (by omega) (by omega) (by omega) (by omega) (by omega) ?_
  obtain ⟨h260, e260⟩ : ∃ z, z = sC h259 27 (Int.toNat 0) (c + 4) (Int.toNat 0) (Int.toNat 8) := ⟨_, rfl⟩
  rw [← e260]
  have hG260 : GD gE gRL sh h260 := by rw [e260]; exact GD_C (hG259) (r := 35) (rg_r hc).2.2.2.2 rfl
  have hF260 : FRM gRL [(0, 35, 0, 7)] h259 h260 := by rw [e260]; exact FRM_C FRM.rf (r := 35) (rg_r hc).2.2.2.2 fun k k1 k2 => mIn_r (x := 0) (y := 7) (by decide) k (by omega) (by omega)
  have oc260 : ∀ a9 k9, a9 ≠ (c + 4) → gi h260 a9 k9 = gi h259 a9 k9 := fun a9 k9 ha => by rw [e260]; exact gi_sCn ha k9
  have cc260 : ∀ j9, gi h260 (c + 4) j9 = if (Int.toNat 0) ≤ j9 ∧ j9 < (Int.toNat 0) + (Int.toNat 8) then gi h259 27 ((Int.toNat 0) + (j9 - (Int.toNat 0))) else gi h259 (c + 4) j9 := fun j9 => by rw [e260]; exact gi_sC j9
  have ee : ∀ k, k < 5 → gi h260 c k = gi h 23 k := fun k hk => by
    rcases (show k = 0 ∨ k = 1 ∨ k = 2 ∨ k = 3 ∨ k = 4 by omega) with rfl | rfl | rfl | rfl | rfl
    · exact (FRM_gi hF260 (r := 31) (rg_r hc).1 rfl).trans ((FRM_gi hF259 (r := 31) (rg_r hc).1 rfl).trans ((FRM_gi hF258 (r := 31) (rg_r hc).1 rfl).trans ((FRM_gi hF257 (r := 31) (rg_r hc).1 rfl).trans ((gi_k (by decide) _).trans ((gi_k (by decide) _).trans ((gi_k (by decide) _).trans ((gi_k (by decide) _).trans (gi_same (by omega)))))))))
    · exact (FRM_gi hF260 (r := 31) (rg_r hc).1 rfl).trans ((FRM_gi hF259 (r := 31) (rg_r hc).1 rfl).trans ((FRM_gi hF258 (r := 31) (rg_r hc).1 rfl).trans ((FRM_gi hF257 (r := 31) (rg_r hc).1 rfl).trans ((gi_k (by decide) _).trans ((gi_k (by decide) _).trans ((gi_k (by decide) _).trans (gi_same (by omega))))))))
    · exact (FRM_gi hF260 (r := 31) (rg_r hc).1 rfl).trans ((FRM_gi hF259 (r := 31) (rg_r hc).1 rfl).trans ((FRM_gi hF258 (r := 31) (rg_r hc).1 rfl).trans ((FRM_gi hF257 (r := 31) (rg_r hc).1 rfl).trans ((gi_k (by decide) _).trans ((gi_k (by decide) _).trans (gi_same (by omega)))))))
    · exact (FRM_gi hF260 (r := 31) (rg_r hc).1 rfl).trans ((FRM_gi hF259 (r := 31) (rg_r hc).1 rfl).trans ((FRM_gi hF258 (r := 31) (rg_r hc).1 rfl).trans ((FRM_gi hF257 (r := 31) (rg_r hc).1 rfl).trans ((gi_k (by decide) _).trans (gi_same (by omega))))))
    · exact (FRM_gi hF260 (r := 31) (rg_r hc).1 rfl).trans ((FRM_gi hF259 (r := 31) (rg_r hc).1 rfl).trans ((FRM_gi hF258 (r := 31) (rg_r hc).1 rfl).trans ((FRM_gi hF257 (r := 31) (rg_r hc).1 rfl).trans (gi_same (by omega)))))
  have c0 : ∀ j, j < 12 → gi h260 (c + 1) j = gi h 24 j := fun j hj => (oc260 _ j (by omega)).trans ((oc259 _ j (by omega)).trans ((oc258 _ j (by omega)).trans ((cc257 j).trans ((if_pos (by omega)).trans ((gi_to (show Int.toNat 0 + (j - Int.toNat 0) = j by omega)).trans ((gi_a (by omega) _).trans ((gi_a (by omega) _).trans ((gi_a (by omega) _).trans ((gi_a (by omega) _).trans (gi_a (by omega) _))))))))))
  have c1 : ∀ j, j < 12 → gi h260 (c + 2) j = gi h 25 j := fun j hj => (oc260 _ j (by omega)).trans ((oc259 _ j (by omega)).trans ((cc258 j).trans ((if_pos (by omega)).trans ((gi_to (show Int.toNat 0 + (j - Int.toNat 0) = j by omega)).trans ((oc257 _ _ (by omega)).trans ((gi_a (by omega) _).trans ((gi_a (by omega) _).trans ((gi_a (by omega) _).trans ((gi_a (by omega) _).trans (gi_a (by omega) _))))))))))
  have c2 : ∀ j, j < 8 → gi h260 (c + 3) j = gi h 26 j := fun j hj => (oc260 _ j (by omega)).trans ((cc259 j).trans ((if_pos (by omega)).trans ((gi_to (show Int.toNat 0 + (j - Int.toNat 0) = j by omega)).trans ((oc258 _ _ (by omega)).trans ((oc257 _ _ (by omega)).trans ((gi_a (by omega) _).trans ((gi_a (by omega) _).trans ((gi_a (by omega) _).trans ((gi_a (by omega) _).trans (gi_a (by omega) _))))))))))
  have c3 : ∀ j, j < 8 → gi h260 (c + 4) j = gi h 27 j := fun j hj => (cc260 j).trans ((if_pos (by omega)).trans ((gi_to (show Int.toNat 0 + (j - Int.toNat 0) = j by omega)).trans ((oc259 _ _ (by omega)).trans ((oc258 _ _ (by omega)).trans ((oc257 _ _ (by omega)).trans ((gi_a (by omega) _).trans ((gi_a (by omega) _).trans ((gi_a (by omega) _).trans ((gi_a (by omega) _).trans (gi_a (by omega) _))))))))))
  exact x_vret hK rfl ⟨rfl, hG260, ((((FRM_w (FRM_w (FRM_w (FRM_w (FRM_w ((FRM.rf : FRM gRL [(0, 31, 0, 4), (0, 32, 0, 11), (0, 33, 0, 11), (0, 34, 0, 7), (0, 35, 0, 7)] h h)) (r := 31) (rg_r hc).1 rfl) (r := 31) (rg_r hc).1 rfl) (r := 31) (rg_r hc).1 rfl) (r := 31) (rg_r hc).1 rfl) (r := 31) (rg_r hc).1 rfl).trans ((hF257).mono rfl)).trans ((hF258).mono rfl)).trans ((hF259).mono rfl)).trans ((hF260).mono rfl), kS_eq g4 ee (fun j hj => ⟨c0 j hj, c1 j hj⟩) (fun j hj => ⟨c2 j hj, c3 j hj⟩), fun a k hn => (oc260 a k (by omega)).trans ((oc259 a k (by omega)).trans ((oc258 a k (by omega)).trans ((oc257 a k (by omega)).trans ((gi_a (by omega) _).trans ((gi_a (by omega) _).trans ((gi_a (by omega) _).trans ((gi_a (by omega) _).trans (gi_a (by omega) _))))))))⟩
set_option maxRecDepth 4000 in
theorem ctX8_copyFrom_rg_28 {SP : CT} (hSP : MONO SP) {sh : List (Nat × Nat)} {h : aH} (hG : GD gE gRL sh h) (hP : PT h) {c : Nat} (hc : rgA c) : CLd SP 1 mX8_copyFrom [.ref c, .ref 28] h 0 0 (fun rv h' => rv = none ∧ GD gE gRL sh h' ∧ FRM gRL [(0, 31, 0, 4), (0, 32, 0, 11), (0, 33, 0, 11), (0, 34, 0, 7), (0, 35, 0, 7)] h h' ∧ kS h' c = kS h 28 ∧ oth c h h') := by
  refine x_met _ rfl (Nat.le_of_ble_eq_true rfl) (fun K hK => ?_)
  have hmono := MONO_CLd hSP 0
  have hcb := rg_b hc
  have g1 := gri 0 8 hG (a := 28) (r := 22) (k := 1) rfl rfl
  have g4 := gri 0 12 hG (a := 28) (r := 22) (k := 4) rfl rfl
  refine x_aload_n 1 hK rfl rfl rfl ?_
  refine x_aload_n 2 hK rfl rfl rfl ?_
  have g261 := gi_r h 28 0
  refine x_getE 5 hK rfl (Or.inl rfl) rfl (sp_28 (h := h) hG) (e := (gi h 28 0)) (rfl) ?_
  refine x_putI 8 hK rfl rfl (shx (h := h) hG (r := 31) (rg_r hc).1 rfl) ?_
  refine x_aload_n 9 hK rfl rfl rfl ?_
  refine x_aload_n 10 hK rfl rfl rfl ?_
  have g262 := gri (0) (8) hG (a := 28) (r := 22) (k := 1) rfl rfl
  refine x_getE 13 hK rfl (Or.inl rfl) rfl (sp_28 (h := h) hG) (e := (gi h 28 1)) (gi_a (by omega) _) ?_
  refine x_putI 16 hK rfl rfl (shx (h := h) hG (r := 31) (rg_r hc).1 rfl) ?_
  refine x_aload_n 17 hK rfl rfl rfl ?_
  refine x_aload_n 18 hK rfl rfl rfl ?_
  have g263 := gi_r h 28 2
  refine x_getE 21 hK rfl (Or.inl rfl) rfl (sp_28 (h := h) hG) (e := (gi h 28 2)) ((gi_a (by omega) _).trans (gi_a (by omega) _)) ?_
  refine x_putI 24 hK rfl rfl (shx (h := h) hG (r := 31) (rg_r hc).1 rfl) ?_
  refine x_aload_n 25 hK rfl rfl rfl ?_
  refine x_aload_n 26 hK rfl rfl rfl ?_
  have g264 := gi_r h 28 3
  refine x_getE 29 hK rfl (Or.inl rfl) rfl (sp_28 (h := h) hG) (e := (gi h 28 3)) ((gi_a (by omega) _).trans ((gi_a (by omega) _).trans (gi_a (by omega) _))) ?_
  refine x_putI 32 hK rfl rfl (shx (h := h) hG (r := 31) (rg_r hc).1 rfl) ?_
  refine x_aload_n 33 hK rfl rfl rfl ?_
  refine x_aload_n 34 hK rfl rfl rfl ?_
  have g265 := gri (0) (12) hG (a := 28) (r := 22) (k := 4) rfl rfl
  refine x_getE 37 hK rfl (Or.inl rfl) rfl (sp_28 (h := h) hG) (e := (gi h 28 4)) ((gi_a (by omega) _).trans ((gi_a (by omega) _).trans ((gi_a (by omega) _).trans (gi_a (by omega) _)))) ?_
  refine x_putI 40 hK rfl rfl (shx (h := h) hG (r := 31) (rg_r hc).1 rfl) ?_
  refine x_aload_n 41 hK rfl rfl rfl ?_
  refine x_getR 44 hK rfl rfl (sp_28 (h := h) hG) (rf_28_5 (h := h) hG) ?_
  refine x_iconst 45 hK rfl rfl ?_
  refine x_aload_n 46 hK rfl rfl rfl ?_
  refine x_getR 49 hK rfl rfl (shx (h := h) hG (r := 31) (rg_r hc).1 rfl) (rg_p hP hc).1 ?_
  refine x_iconst 50 hK rfl rfl ?_
  refine x_bipush 52 hK rfl rfl rfl ?_
  refine x_acp 55 hK rfl rfl (by decide) (sp_29 (h := h) hG) (shx (h := h) hG (r := 32) (rg_r hc).2.1 rfl) (by omega) (by omega) (by omega) (by omega) (by omega) ?_
  obtain ⟨h266, e266⟩ : ∃ z, z = sC (wI (wI (wI (wI (wI h c 0 (gi h 28 0)) c 1 (gi h 28 1)) c 2 (gi h 28 2)) c 3 (gi h 28 3)) c 4 (gi h 28 4)) 29 (Int.toNat 0) (c + 1) (Int.toNat 0) (Int.toNat 12) := ⟨_, rfl⟩
  rw [← e266]
  have hG266 : GD gE gRL sh h266 := by rw [e266]; exact GD_C (GD_w1 (GD_w0 (GD_w0 (GD_w1 (GD_w0 (hG) (r := 31) (rg_r hc).1 rfl) (r := 31) (rg_r hc).1 (by omega) rfl (by omega) (by omega)) (r := 31) (rg_r hc).1 rfl) (r := 31) (rg_r hc).1 rfl) (r := 31) (rg_r hc).1 (by omega) rfl (by omega) (by omega)) (r := 32) (rg_r hc).2.1 rfl
  have hF266 : FRM gRL [(0, 32, 0, 11)] (wI (wI (wI (wI (wI h c 0 (gi h 28 0)) c 1 (gi h 28 1)) c 2 (gi h 28 2)) c 3 (gi h 28 3)) c 4 (gi h 28 4)) h266 := by rw [e266]; exact FRM_C FRM.rf (r := 32) (rg_r hc).2.1 fun k k1 k2 => mIn_r (x := 0) (y := 11) (by decide) k (by omega) (by omega)
  have oc266 : ∀ a9 k9, a9 ≠ (c + 1) → gi h266 a9 k9 = gi (wI (wI (wI (wI (wI h c 0 (gi h 28 0)) c 1 (gi h 28 1)) c 2 (gi h 28 2)) c 3 (gi h 28 3)) c 4 (gi h 28 4)) a9 k9 := fun a9 k9 ha => by rw [e266]; exact gi_sCn ha k9
  have cc266 : ∀ j9, gi h266 (c + 1) j9 = if (Int.toNat 0) ≤ j9 ∧ j9 < (Int.toNat 0) + (Int.toNat 12) then gi (wI (wI (wI (wI (wI h c 0 (gi h 28 0)) c 1 (gi h 28 1)) c 2 (gi h 28 2)) c 3 (gi h 28 3)) c 4 (gi h 28 4)) 29 ((Int.toNat 0) + (j9 - (Int.toNat 0))) else gi (wI (wI (wI (wI (wI h c 0 (gi h 28 0)) c 1 (gi h 28 1)) c 2 (gi h 28 2)) c 3 (gi h 28 3)) c 4 (gi h 28 4)) (c + 1) j9 := fun j9 => by rw [e266]; exact gi_sC j9
  refine x_aload_n 56 hK rfl rfl rfl ?_
  refine x_getR 59 hK rfl rfl (sp_28 (h := h266) hG266) (rf_28_6 (h := h266) hG266) ?_
  refine x_iconst 60 hK rfl rfl ?_
  refine x_aload_n 61 hK rfl rfl rfl ?_
  refine x_getR 64 hK rfl rfl (shx (h := h266) hG266 (r := 31) (rg_r hc).1 rfl) (rg_p (PT_F hF266 (by decide) hP) hc).2.1 ?_
  refine x_iconst 65 hK rfl rfl ?_
  refine x_bipush 67 hK rfl rfl rfl ?_
  refine x_acp 70 hK rfl rfl (by decide) (sp_30 (h := h266) hG266) (shx (h := h266) hG266 (r := 33) (rg_r hc).2.2.1 rfl) (by omega) (by omega) (by omega) (by omega) (by omega) ?_
  obtain ⟨h267, e267⟩ : ∃ z, z = sC h266 30 (Int.toNat 0) (c + 2) (Int.toNat 0) (Int.toNat 12) := ⟨_, rfl⟩
  rw [← e267]
  have hG267 : GD gE gRL sh h267 := by rw [e267]; exact GD_C (hG266) (r := 33) (rg_r hc).2.2.1 rfl
  have hF267 : FRM gRL [(0, 33, 0, 11)] h266 h267 := by rw [e267]; exact FRM_C FRM.rf (r := 33) (rg_r hc).2.2.1 fun k k1 k2 => mIn_r (x := 0) (y := 11) (by decide) k (by omega) (by omega)
  have oc267 : ∀ a9 k9, a9 ≠ (c + 2) → gi h267 a9 k9 = gi h266 a9 k9 := fun a9 k9 ha => by rw [e267]; exact gi_sCn ha k9
  have cc267 : ∀ j9, gi h267 (c + 2) j9 = if (Int.toNat 0) ≤ j9 ∧ j9 < (Int.toNat 0) + (Int.toNat 12) then gi h266 30 ((Int.toNat 0) + (j9 - (Int.toNat 0))) else gi h266 (c + 2) j9 := fun j9 => by rw [e267]; exact gi_sC j9
  refine x_aload_n 71 hK rfl rfl rfl ?_
  refine x_getR 74 hK rfl rfl (sp_28 (h := h267) hG267) (rf_28_7 (h := h267) hG267) ?_
  refine x_iconst 75 hK rfl rfl ?_
  refine x_aload_n 76 hK rfl rfl rfl ?_
  refine x_getR 79 hK rfl rfl (shx (h := h267) hG267 (r := 31) (rg_r hc).1 rfl) (rg_p (PT_F hF267 (by decide) (PT_F hF266 (by decide) hP)) hc).2.2.1 ?_
  refine x_iconst 80 hK rfl rfl ?_
  refine x_bipush 82 hK rfl rfl rfl ?_
  refine x_acp 85 hK rfl rfl (by decide) (sp_31 (h := h267) hG267) (shx (h := h267) hG267 (r := 34) (rg_r hc).2.2.2.1 rfl) (by omega) (by omega) (by omega) (by omega) (by omega) ?_
  obtain ⟨h268, e268⟩ : ∃ z, z = sC h267 31 (Int.toNat 0) (c + 3) (Int.toNat 0) (Int.toNat 8) := ⟨_, rfl⟩
  rw [← e268]
  have hG268 : GD gE gRL sh h268 := by rw [e268]; exact GD_C (hG267) (r := 34) (rg_r hc).2.2.2.1 rfl
  have hF268 : FRM gRL [(0, 34, 0, 7)] h267 h268 := by rw [e268]; exact FRM_C FRM.rf (r := 34) (rg_r hc).2.2.2.1 fun k k1 k2 => mIn_r (x := 0) (y := 7) (by decide) k (by omega) (by omega)
  have oc268 : ∀ a9 k9, a9 ≠ (c + 3) → gi h268 a9 k9 = gi h267 a9 k9 := fun a9 k9 ha => by rw [e268]; exact gi_sCn ha k9
  have cc268 : ∀ j9, gi h268 (c + 3) j9 = if (Int.toNat 0) ≤ j9 ∧ j9 < (Int.toNat 0) + (Int.toNat 8) then gi h267 31 ((Int.toNat 0) + (j9 - (Int.toNat 0))) else gi h267 (c + 3) j9 := fun j9 => by rw [e268]; exact gi_sC j9
  refine x_aload_n 86 hK rfl rfl rfl ?_
  refine x_getR 89 hK rfl rfl (sp_28 (h := h268) hG268) (rf_28_8 (h := h268) hG268) ?_
  refine x_iconst 90 hK rfl rfl ?_
  refine x_aload_n 91 hK rfl rfl rfl ?_
  refine x_getR 94 hK rfl rfl (shx (h := h268) hG268 (r := 31) (rg_r hc).1 rfl) (rg_p (PT_F hF268 (by decide) (PT_F hF267 (by decide) (PT_F hF266 (by decide) hP))) hc).2.2.2 ?_
  refine x_iconst 95 hK rfl rfl ?_
  refine x_bipush 97 hK rfl rfl rfl ?_
  refine x_acp 100 hK rfl rfl (by decide) (sp_32 (h := h268) hG268) (shx (h := h268) hG268 (r := 35) (rg_r hc).2.2.2.2 rfl) (by omega) (by omega) (by omega) (by omega) (by omega) ?_
  obtain ⟨h269, e269⟩ : ∃ z, z = sC h268 32 (Int.toNat 0) (c + 4) (Int.toNat 0) (Int.toNat 8) := ⟨_, rfl⟩
  rw [← e269]
  have hG269 : GD gE gRL sh h269 := by rw [e269]; exact GD_C (hG268) (r := 35) (rg_r hc).2.2.2.2 rfl
  have hF269 : FRM gRL [(0, 35, 0, 7)] h268 h269 := by rw [e269]; exact FRM_C FRM.rf (r := 35) (rg_r hc).2.2.2.2 fun k k1 k2 => mIn_r (x := 0) (y := 7) (by decide) k (by omega) (by omega)
  have oc269 : ∀ a9 k9, a9 ≠ (c + 4) → gi h269 a9 k9 = gi h268 a9 k9 := fun a9 k9 ha => by rw [e269]; exact gi_sCn ha k9
  have cc269 : ∀ j9, gi h269 (c + 4) j9 = if (Int.toNat 0) ≤ j9 ∧ j9 < (Int.toNat 0) + (Int.toNat 8) then gi h268 32 ((Int.toNat 0) + (j9 - (Int.toNat 0))) else gi h268 (c + 4) j9 := fun j9 => by rw [e269]; exact gi_sC j9
  have ee : ∀ k, k < 5 → gi h269 c k = gi h 28 k := fun k hk => by
    rcases (show k = 0 ∨ k = 1 ∨ k = 2 ∨ k = 3 ∨ k = 4 by omega) with rfl | rfl | rfl | rfl | rfl
    · exact (FRM_gi hF269 (r := 31) (rg_r hc).1 rfl).trans ((FRM_gi hF268 (r := 31) (rg_r hc).1 rfl).trans ((FRM_gi hF267 (r := 31) (rg_r hc).1 rfl).trans ((FRM_gi hF266 (r := 31) (rg_r hc).1 rfl).trans ((gi_k (by decide) _).trans ((gi_k (by decide) _).trans ((gi_k (by decide) _).trans ((gi_k (by decide) _).trans (gi_same (by omega)))))))))
    · exact (FRM_gi hF269 (r := 31) (rg_r hc).1 rfl).trans ((FRM_gi hF268 (r := 31) (rg_r hc).1 rfl).trans ((FRM_gi hF267 (r := 31) (rg_r hc).1 rfl).trans ((FRM_gi hF266 (r := 31) (rg_r hc).1 rfl).trans ((gi_k (by decide) _).trans ((gi_k (by decide) _).trans ((gi_k (by decide) _).trans (gi_same (by omega))))))))
    · exact (FRM_gi hF269 (r := 31) (rg_r hc).1 rfl).trans ((FRM_gi hF268 (r := 31) (rg_r hc).1 rfl).trans ((FRM_gi hF267 (r := 31) (rg_r hc).1 rfl).trans ((FRM_gi hF266 (r := 31) (rg_r hc).1 rfl).trans ((gi_k (by decide) _).trans ((gi_k (by decide) _).trans (gi_same (by omega)))))))
    · exact (FRM_gi hF269 (r := 31) (rg_r hc).1 rfl).trans ((FRM_gi hF268 (r := 31) (rg_r hc).1 rfl).trans ((FRM_gi hF267 (r := 31) (rg_r hc).1 rfl).trans ((FRM_gi hF266 (r := 31) (rg_r hc).1 rfl).trans ((gi_k (by decide) _).trans (gi_same (by omega))))))
    · exact (FRM_gi hF269 (r := 31) (rg_r hc).1 rfl).trans ((FRM_gi hF268 (r := 31) (rg_r hc).1 rfl).trans ((FRM_gi hF267 (r := 31) (rg_r hc).1 rfl).trans ((FRM_gi hF266 (r := 31) (rg_r hc).1 rfl).trans (gi_same (by omega)))))
  have c0 : ∀ j, j < 12 → gi h269 (c + 1) j = gi h 29 j := fun j hj => (oc269 _ j (by omega)).trans ((oc268 _ j (by omega)).trans ((oc267 _ j (by omega)).trans ((cc266 j).trans ((if_pos (by omega)).trans ((gi_to (show Int.toNat 0 + (j - Int.toNat 0) = j by omega)).trans ((gi_a (by omega) _).trans ((gi_a (by omega) _).trans ((gi_a (by omega) _).trans ((gi_a (by omega) _).trans (gi_a (by omega) _))))))))))
  have c1 : ∀ j, j < 12 → gi h269 (c + 2) j = gi h 30 j := fun j hj => (oc269 _ j (by omega)).trans ((oc268 _ j (by omega)).trans ((cc267 j).trans ((if_pos (by omega)).trans ((gi_to (show Int.toNat 0 + (j - Int.toNat 0) = j by omega)).trans ((oc266 _ _ (by omega)).trans ((gi_a (by omega) _).trans ((gi_a (by omega) _).trans ((gi_a (by omega) _).trans ((gi_a (by omega) _).trans (gi_a (by omega) _))))))))))
  have c2 : ∀ j, j < 8 → gi h269 (c + 3) j = gi h 31 j := fun j hj => (oc269 _ j (by omega)).trans ((cc268 j).trans ((if_pos (by omega)).trans ((gi_to (show Int.toNat 0 + (j - Int.toNat 0) = j by omega)).trans ((oc267 _ _ (by omega)).trans ((oc266 _ _ (by omega)).trans ((gi_a (by omega) _).trans ((gi_a (by omega) _).trans ((gi_a (by omega) _).trans ((gi_a (by omega) _).trans (gi_a (by omega) _))))))))))
  have c3 : ∀ j, j < 8 → gi h269 (c + 4) j = gi h 32 j := fun j hj => (cc269 j).trans ((if_pos (by omega)).trans ((gi_to (show Int.toNat 0 + (j - Int.toNat 0) = j by omega)).trans ((oc268 _ _ (by omega)).trans ((oc267 _ _ (by omega)).trans ((oc266 _ _ (by omega)).trans ((gi_a (by omega) _).trans ((gi_a (by omega) _).trans ((gi_a (by omega) _).trans ((gi_a (by omega) _).trans (gi_a (by omega) _))))))))))
  exact x_vret hK rfl ⟨rfl, hG269, ((((FRM_w (FRM_w (FRM_w (FRM_w (FRM_w ((FRM.rf : FRM gRL [(0, 31, 0, 4), (0, 32, 0, 11), (0, 33, 0, 11), (0, 34, 0, 7), (0, 35, 0, 7)] h h)) (r := 31) (rg_r hc).1 rfl) (r := 31) (rg_r hc).1 rfl) (r := 31) (rg_r hc).1 rfl) (r := 31) (rg_r hc).1 rfl) (r := 31) (rg_r hc).1 rfl).trans ((hF266).mono rfl)).trans ((hF267).mono rfl)).trans ((hF268).mono rfl)).trans ((hF269).mono rfl), kS_eq g4 ee (fun j hj => ⟨c0 j hj, c1 j hj⟩) (fun j hj => ⟨c2 j hj, c3 j hj⟩), fun a k hn => (oc269 a k (by omega)).trans ((oc268 a k (by omega)).trans ((oc267 a k (by omega)).trans ((oc266 a k (by omega)).trans ((gi_a (by omega) _).trans ((gi_a (by omega) _).trans ((gi_a (by omega) _).trans ((gi_a (by omega) _).trans (gi_a (by omega) _))))))))⟩
set_option maxRecDepth 4000 in
theorem ctX8_copyFrom_23_rg {SP : CT} (hSP : MONO SP) {sh : List (Nat × Nat)} {h : aH} (hG : GD gE gRL sh h) (hP : PT h) {c : Nat} (hc : rgA c) : CLd SP 1 mX8_copyFrom [.ref 23, .ref c] h 0 0 (fun rv h' => rv = none ∧ GD gE gRL sh h' ∧ FRM gRL [(0, 17, 0, 4), (0, 18, 0, 11), (0, 19, 0, 11), (0, 20, 0, 7), (0, 21, 0, 7)] h h' ∧ kS h' 23 = kS h c ∧ oth 23 h h') := by
  refine x_met _ rfl (Nat.le_of_ble_eq_true rfl) (fun K hK => ?_)
  have hmono := MONO_CLd hSP 0
  have hcb := rg_b hc
  have g1 := gri 0 8 hG (a := c) (r := 31) (k := 1) (rg_r hc).1 rfl
  have g4 := gri 0 12 hG (a := c) (r := 31) (k := 4) (rg_r hc).1 rfl
  refine x_aload_n 1 hK rfl rfl rfl ?_
  refine x_aload_n 2 hK rfl rfl rfl ?_
  have g270 := gi_r h c 0
  refine x_getE 5 hK rfl (Or.inl rfl) rfl (shx (h := h) hG (r := 31) (rg_r hc).1 rfl) (e := (gi h c 0)) (rfl) ?_
  refine x_putI 8 hK rfl rfl (sp_23 (h := h) hG) ?_
  refine x_aload_n 9 hK rfl rfl rfl ?_
  refine x_aload_n 10 hK rfl rfl rfl ?_
  have g271 := gri (0) (8) hG (a := c) (r := 31) (k := 1) (rg_r hc).1 rfl
  refine x_getE 13 hK rfl (Or.inl rfl) rfl (shx (h := h) hG (r := 31) (rg_r hc).1 rfl) (e := (gi h c 1)) (gi_a (by omega) _) ?_
  refine x_putI 16 hK rfl rfl (sp_23 (h := h) hG) ?_
  refine x_aload_n 17 hK rfl rfl rfl ?_
  refine x_aload_n 18 hK rfl rfl rfl ?_
  have g272 := gi_r h c 2
  refine x_getE 21 hK rfl (Or.inl rfl) rfl (shx (h := h) hG (r := 31) (rg_r hc).1 rfl) (e := (gi h c 2)) ((gi_a (by omega) _).trans (gi_a (by omega) _)) ?_
  refine x_putI 24 hK rfl rfl (sp_23 (h := h) hG) ?_
  refine x_aload_n 25 hK rfl rfl rfl ?_
  refine x_aload_n 26 hK rfl rfl rfl ?_
  have g273 := gi_r h c 3
  refine x_getE 29 hK rfl (Or.inl rfl) rfl (shx (h := h) hG (r := 31) (rg_r hc).1 rfl) (e := (gi h c 3)) ((gi_a (by omega) _).trans ((gi_a (by omega) _).trans (gi_a (by omega) _))) ?_
  refine x_putI 32 hK rfl rfl (sp_23 (h := h) hG) ?_
  refine x_aload_n 33 hK rfl rfl rfl ?_
  refine x_aload_n 34 hK rfl rfl rfl ?_
  have g274 := gri (0) (12) hG (a := c) (r := 31) (k := 4) (rg_r hc).1 rfl
  refine x_getE 37 hK rfl (Or.inl rfl) rfl (shx (h := h) hG (r := 31) (rg_r hc).1 rfl) (e := (gi h c 4)) ((gi_a (by omega) _).trans ((gi_a (by omega) _).trans ((gi_a (by omega) _).trans (gi_a (by omega) _)))) ?_
  refine x_putI 40 hK rfl rfl (sp_23 (h := h) hG) ?_
  refine x_aload_n 41 hK rfl rfl rfl ?_
  refine x_getR 44 hK rfl rfl (shx (h := h) hG (r := 31) (rg_r hc).1 rfl) (rg_p hP hc).1 ?_
  refine x_iconst 45 hK rfl rfl ?_
  refine x_aload_n 46 hK rfl rfl rfl ?_
  refine x_getR 49 hK rfl rfl (sp_23 (h := h) hG) (rf_23_5 (h := h) hG) ?_
  refine x_iconst 50 hK rfl rfl ?_
  refine x_bipush 52 hK rfl rfl rfl ?_
  refine x_acp 55 hK rfl rfl (by decide) (shx (h := h) hG (r := 32) (rg_r hc).2.1 rfl) (sp_24 (h := h) hG) (by omega) (by omega) (by omega) (by omega) (by omega) ?_
  obtain ⟨h275, e275⟩ : ∃ z, z = sC (wI (wI (wI (wI (wI h 23 0 (gi h c 0)) 23 1 (gi h c 1)) 23 2 (gi h c 2)) 23 3 (gi h c 3)) 23 4 (gi h c 4)) (c + 1) (Int.toNat 0) 24 (Int.toNat 0) (Int.toNat 12) := ⟨_, rfl⟩
  rw [← e275]
  have hG275 : GD gE gRL sh h275 := by rw [e275]; exact GD_C (GD_w1 (GD_w0 (GD_w0 (GD_w1 (GD_w0 (hG) (r := 17) rfl rfl) (r := 17) rfl (by omega) rfl (by omega) (by omega)) (r := 17) rfl rfl) (r := 17) rfl rfl) (r := 17) rfl (by omega) rfl (by omega) (by omega)) (r := 18) rfl rfl
  have hF275 : FRM gRL [(0, 18, 0, 11)] (wI (wI (wI (wI (wI h 23 0 (gi h c 0)) 23 1 (gi h c 1)) 23 2 (gi h c 2)) 23 3 (gi h c 3)) 23 4 (gi h c 4)) h275 := by rw [e275]; exact FRM_C FRM.rf (r := 18) rfl fun k k1 k2 => mIn_r (x := 0) (y := 11) (by decide) k (by omega) (by omega)
  have oc275 : ∀ a9 k9, a9 ≠ 24 → gi h275 a9 k9 = gi (wI (wI (wI (wI (wI h 23 0 (gi h c 0)) 23 1 (gi h c 1)) 23 2 (gi h c 2)) 23 3 (gi h c 3)) 23 4 (gi h c 4)) a9 k9 := fun a9 k9 ha => by rw [e275]; exact gi_sCn ha k9
  have cc275 : ∀ j9, gi h275 24 j9 = if (Int.toNat 0) ≤ j9 ∧ j9 < (Int.toNat 0) + (Int.toNat 12) then gi (wI (wI (wI (wI (wI h 23 0 (gi h c 0)) 23 1 (gi h c 1)) 23 2 (gi h c 2)) 23 3 (gi h c 3)) 23 4 (gi h c 4)) (c + 1) ((Int.toNat 0) + (j9 - (Int.toNat 0))) else gi (wI (wI (wI (wI (wI h 23 0 (gi h c 0)) 23 1 (gi h c 1)) 23 2 (gi h c 2)) 23 3 (gi h c 3)) 23 4 (gi h c 4)) 24 j9 := fun j9 => by rw [e275]; exact gi_sC j9
  refine x_aload_n 56 hK rfl rfl rfl ?_
  refine x_getR 59 hK rfl rfl (shx (h := h275) hG275 (r := 31) (rg_r hc).1 rfl) (rg_p (PT_F hF275 (by decide) hP) hc).2.1 ?_
  refine x_iconst 60 hK rfl rfl ?_
  refine x_aload_n 61 hK rfl rfl rfl ?_
  refine x_getR 64 hK rfl rfl (sp_23 (h := h275) hG275) (rf_23_6 (h := h275) hG275) ?_
  refine x_iconst 65 hK rfl rfl ?_
  refine x_bipush 67 hK rfl rfl rfl ?_
  refine x_acp 70 hK rfl rfl (by decide) (shx (h := h275) hG275 (r := 33) (rg_r hc).2.2.1 rfl) (sp_25 (h := h275) hG275) (by omega) (by omega) (by omega) (by omega) (by omega) ?_
  obtain ⟨h276, e276⟩ : ∃ z, z = sC h275 (c + 2) (Int.toNat 0) 25 (Int.toNat 0) (Int.toNat 12) := ⟨_, rfl⟩
  rw [← e276]
  have hG276 : GD gE gRL sh h276 := by rw [e276]; exact GD_C (hG275) (r := 19) rfl rfl
  have hF276 : FRM gRL [(0, 19, 0, 11)] h275 h276 := by rw [e276]; exact FRM_C FRM.rf (r := 19) rfl fun k k1 k2 => mIn_r (x := 0) (y := 11) (by decide) k (by omega) (by omega)
  have oc276 : ∀ a9 k9, a9 ≠ 25 → gi h276 a9 k9 = gi h275 a9 k9 := fun a9 k9 ha => by rw [e276]; exact gi_sCn ha k9
  have cc276 : ∀ j9, gi h276 25 j9 = if (Int.toNat 0) ≤ j9 ∧ j9 < (Int.toNat 0) + (Int.toNat 12) then gi h275 (c + 2) ((Int.toNat 0) + (j9 - (Int.toNat 0))) else gi h275 25 j9 := fun j9 => by rw [e276]; exact gi_sC j9
  refine x_aload_n 71 hK rfl rfl rfl ?_
  refine x_getR 74 hK rfl rfl (shx (h := h276) hG276 (r := 31) (rg_r hc).1 rfl) (rg_p (PT_F hF276 (by decide) (PT_F hF275 (by decide) hP)) hc).2.2.1 ?_
  refine x_iconst 75 hK rfl rfl ?_
  refine x_aload_n 76 hK rfl rfl rfl ?_
  refine x_getR 79 hK rfl rfl (sp_23 (h := h276) hG276) (rf_23_7 (h := h276) hG276) ?_
  refine x_iconst 80 hK rfl rfl ?_
  refine x_bipush 82 hK rfl rfl rfl ?_
  refine x_acp 85 hK rfl rfl (by decide) (shx (h := h276) hG276 (r := 34) (rg_r hc).2.2.2.1 rfl) (sp_26 (h := h276) hG276) (by omega) (by omega) (by omega) (by omega) (by omega) ?_
  obtain ⟨h277, e277⟩ : ∃ z, z = sC h276 (c + 3) (Int.toNat 0) 26 (Int.toNat 0) (Int.toNat 8) := ⟨_, rfl⟩
  rw [← e277]
  have hG277 : GD gE gRL sh h277 := by rw [e277]; exact GD_C (hG276) (r := 20) rfl rfl
  have hF277 : FRM gRL [(0, 20, 0, 7)] h276 h277 := by rw [e277]; exact FRM_C FRM.rf (r := 20) rfl fun k k1 k2 => mIn_r (x := 0) (y := 7) (by decide) k (by omega) (by omega)
  have oc277 : ∀ a9 k9, a9 ≠ 26 → gi h277 a9 k9 = gi h276 a9 k9 := fun a9 k9 ha => by rw [e277]; exact gi_sCn ha k9
  have cc277 : ∀ j9, gi h277 26 j9 = if (Int.toNat 0) ≤ j9 ∧ j9 < (Int.toNat 0) + (Int.toNat 8) then gi h276 (c + 3) ((Int.toNat 0) + (j9 - (Int.toNat 0))) else gi h276 26 j9 := fun j9 => by rw [e277]; exact gi_sC j9
  refine x_aload_n 86 hK rfl rfl rfl ?_
  refine x_getR 89 hK rfl rfl (shx (h := h277) hG277 (r := 31) (rg_r hc).1 rfl) (rg_p (PT_F hF277 (by decide) (PT_F hF276 (by decide) (PT_F hF275 (by decide) hP))) hc).2.2.2 ?_
  refine x_iconst 90 hK rfl rfl ?_
  refine x_aload_n 91 hK rfl rfl rfl ?_
  refine x_getR 94 hK rfl rfl (sp_23 (h := h277) hG277) (rf_23_8 (h := h277) hG277) ?_
  refine x_iconst 95 hK rfl rfl ?_
  refine x_bipush 97 hK rfl rfl rfl ?_
  refine x_acp 100 hK rfl rfl (by decide) (shx (h := h277) hG277 (r := 35) (rg_r hc).2.2.2.2 rfl) (sp_27 (h := h277) hG277) (by omega) (by omega) (by omega) (by omega) (by omega) ?_
  obtain ⟨h278, e278⟩ : ∃ z, z = sC h277 (c + 4) (Int.toNat 0) 27 (Int.toNat 0) (Int.toNat 8) := ⟨_, rfl⟩
  rw [← e278]
  have hG278 : GD gE gRL sh h278 := by rw [e278]; exact GD_C (hG277) (r := 21) rfl rfl
  have hF278 : FRM gRL [(0, 21, 0, 7)] h277 h278 := by rw [e278]; exact FRM_C FRM.rf (r := 21) rfl fun k k1 k2 => mIn_r (x := 0) (y := 7) (by decide) k (by omega) (by omega)
  have oc278 : ∀ a9 k9, a9 ≠ 27 → gi h278 a9 k9 = gi h277 a9 k9 := fun a9 k9 ha => by rw [e278]; exact gi_sCn ha k9
  have cc278 : ∀ j9, gi h278 27 j9 = if (Int.toNat 0) ≤ j9 ∧ j9 < (Int.toNat 0) + (Int.toNat 8) then gi h277 (c + 4) ((Int.toNat 0) + (j9 - (Int.toNat 0))) else gi h277 27 j9 := fun j9 => by rw [e278]; exact gi_sC j9
  have ee : ∀ k, k < 5 → gi h278 23 k = gi h c k := fun k hk => by
    rcases (show k = 0 ∨ k = 1 ∨ k = 2 ∨ k = 3 ∨ k = 4 by omega) with rfl | rfl | rfl | rfl | rfl
    · exact (FRM_gi hF278 (r := 17) rfl rfl).trans ((FRM_gi hF277 (r := 17) rfl rfl).trans ((FRM_gi hF276 (r := 17) rfl rfl).trans ((FRM_gi hF275 (r := 17) rfl rfl).trans ((gi_k (by decide) _).trans ((gi_k (by decide) _).trans ((gi_k (by decide) _).trans ((gi_k (by decide) _).trans (gi_same (by omega)))))))))
    · exact (FRM_gi hF278 (r := 17) rfl rfl).trans ((FRM_gi hF277 (r := 17) rfl rfl).trans ((FRM_gi hF276 (r := 17) rfl rfl).trans ((FRM_gi hF275 (r := 17) rfl rfl).trans ((gi_k (by decide) _).trans ((gi_k (by decide) _).trans ((gi_k (by decide) _).trans (gi_same (by omega))))))))
    · exact (FRM_gi hF278 (r := 17) rfl rfl).trans ((FRM_gi hF277 (r := 17) rfl rfl).trans ((FRM_gi hF276 (r := 17) rfl rfl).trans ((FRM_gi hF275 (r := 17) rfl rfl).trans ((gi_k (by decide) _).trans ((gi_k (by decide) _).trans (gi_same (by omega)))))))
    · exact (FRM_gi hF278 (r := 17) rfl rfl).trans ((FRM_gi hF277 (r := 17) rfl rfl).trans ((FRM_gi hF276 (r := 17) rfl rfl).trans ((FRM_gi hF275 (r := 17) rfl rfl).trans ((gi_k (by decide) _).trans (gi_same (by omega))))))
    · exact (FRM_gi hF278 (r := 17) rfl rfl).trans ((FRM_gi hF277 (r := 17) rfl rfl).trans ((FRM_gi hF276 (r := 17) rfl rfl).trans ((FRM_gi hF275 (r := 17) rfl rfl).trans (gi_same (by omega)))))
  have c0 : ∀ j, j < 12 → gi h278 24 j = gi h (c + 1) j := fun j hj => (oc278 _ j (by omega)).trans ((oc277 _ j (by omega)).trans ((oc276 _ j (by omega)).trans ((cc275 j).trans ((if_pos (by omega)).trans ((gi_to (show Int.toNat 0 + (j - Int.toNat 0) = j by omega)).trans ((gi_a (by omega) _).trans ((gi_a (by omega) _).trans ((gi_a (by omega) _).trans ((gi_a (by omega) _).trans (gi_a (by omega) _))))))))))
  have c1 : ∀ j, j < 12 → gi h278 25 j = gi h (c + 2) j := fun j hj => (oc278 _ j (by omega)).trans ((oc277 _ j (by omega)).trans ((cc276 j).trans ((if_pos (by omega)).trans ((gi_to (show Int.toNat 0 + (j - Int.toNat 0) = j by omega)).trans ((oc275 _ _ (by omega)).trans ((gi_a (by omega) _).trans ((gi_a (by omega) _).trans ((gi_a (by omega) _).trans ((gi_a (by omega) _).trans (gi_a (by omega) _))))))))))
  have c2 : ∀ j, j < 8 → gi h278 26 j = gi h (c + 3) j := fun j hj => (oc278 _ j (by omega)).trans ((cc277 j).trans ((if_pos (by omega)).trans ((gi_to (show Int.toNat 0 + (j - Int.toNat 0) = j by omega)).trans ((oc276 _ _ (by omega)).trans ((oc275 _ _ (by omega)).trans ((gi_a (by omega) _).trans ((gi_a (by omega) _).trans ((gi_a (by omega) _).trans ((gi_a (by omega) _).trans (gi_a (by omega) _))))))))))
  have c3 : ∀ j, j < 8 → gi h278 27 j = gi h (c + 4) j := fun j hj => (cc278 j).trans ((if_pos (by omega)).trans ((gi_to (show Int.toNat 0 + (j - Int.toNat 0) = j by omega)).trans ((oc277 _ _ (by omega)).trans ((oc276 _ _ (by omega)).trans ((oc275 _ _ (by omega)).trans ((gi_a (by omega) _).trans ((gi_a (by omega) _).trans ((gi_a (by omega) _).trans ((gi_a (by omega) _).trans (gi_a (by omega) _))))))))))
  exact x_vret hK rfl ⟨rfl, hG278, ((((FRM_w (FRM_w (FRM_w (FRM_w (FRM_w ((FRM.rf : FRM gRL [(0, 17, 0, 4), (0, 18, 0, 11), (0, 19, 0, 11), (0, 20, 0, 7), (0, 21, 0, 7)] h h)) (r := 17) rfl rfl) (r := 17) rfl rfl) (r := 17) rfl rfl) (r := 17) rfl rfl) (r := 17) rfl rfl).trans ((hF275).mono rfl)).trans ((hF276).mono rfl)).trans ((hF277).mono rfl)).trans ((hF278).mono rfl), kS_eq g4 ee (fun j hj => ⟨c0 j hj, c1 j hj⟩) (fun j hj => ⟨c2 j hj, c3 j hj⟩), fun a k hn => (oc278 a k (by omega)).trans ((oc277 a k (by omega)).trans ((oc276 a k (by omega)).trans ((oc275 a k (by omega)).trans ((gi_a (by omega) _).trans ((gi_a (by omega) _).trans ((gi_a (by omega) _).trans ((gi_a (by omega) _).trans (gi_a (by omega) _))))))))⟩
set_option maxRecDepth 4000 in
theorem ctX8_copyFrom_kp_23 {SP : CT} (hSP : MONO SP) {sh : List (Nat × Nat)} {h : aH} (hG : GD gE gRL sh h) (hP : PT h) {c : Nat} (hc : kpA c) : CLd SP 1 mX8_copyFrom [.ref c, .ref 23] h 0 0 (fun rv h' => rv = none ∧ GD gE gRL sh h' ∧ FRM gRL [(0, 36, 0, 4), (0, 37, 0, 11), (0, 38, 0, 11), (0, 39, 0, 7), (0, 40, 0, 7)] h h' ∧ kS h' c = kS h 23 ∧ oth c h h') := by
  refine x_met _ rfl (Nat.le_of_ble_eq_true rfl) (fun K hK => ?_)
  have hmono := MONO_CLd hSP 0
  have hcb := kp_b hc
  have g1 := gri 0 8 hG (a := 23) (r := 17) (k := 1) rfl rfl
  have g4 := gri 0 12 hG (a := 23) (r := 17) (k := 4) rfl rfl
  refine x_aload_n 1 hK rfl rfl rfl ?_
  refine x_aload_n 2 hK rfl rfl rfl ?_
  have g279 := gi_r h 23 0
  refine x_getE 5 hK rfl (Or.inl rfl) rfl (sp_23 (h := h) hG) (e := (gi h 23 0)) (rfl) ?_
  refine x_putI 8 hK rfl rfl (shx (h := h) hG (r := 36) (kp_r hc).1 rfl) ?_
  refine x_aload_n 9 hK rfl rfl rfl ?_
  refine x_aload_n 10 hK rfl rfl rfl ?_
  have g280 := gri (0) (8) hG (a := 23) (r := 17) (k := 1) rfl rfl
  refine x_getE 13 hK rfl (Or.inl rfl) rfl (sp_23 (h := h) hG) (e := (gi h 23 1)) (gi_a (by omega) _) ?_
  refine x_putI 16 hK rfl rfl (shx (h := h) hG (r := 36) (kp_r hc).1 rfl) ?_
  refine x_aload_n 17 hK rfl rfl rfl ?_
  refine x_aload_n 18 hK rfl rfl rfl ?_
  have g281 := gi_r h 23 2
  refine x_getE 21 hK rfl (Or.inl rfl) rfl (sp_23 (h := h) hG) (e := (gi h 23 2)) ((gi_a (by omega) _).trans (gi_a (by omega) _)) ?_
  refine x_putI 24 hK rfl rfl (shx (h := h) hG (r := 36) (kp_r hc).1 rfl) ?_
  refine x_aload_n 25 hK rfl rfl rfl ?_
  refine x_aload_n 26 hK rfl rfl rfl ?_
  have g282 := gi_r h 23 3
  refine x_getE 29 hK rfl (Or.inl rfl) rfl (sp_23 (h := h) hG) (e := (gi h 23 3)) ((gi_a (by omega) _).trans ((gi_a (by omega) _).trans (gi_a (by omega) _))) ?_
  refine x_putI 32 hK rfl rfl (shx (h := h) hG (r := 36) (kp_r hc).1 rfl) ?_
  refine x_aload_n 33 hK rfl rfl rfl ?_
  refine x_aload_n 34 hK rfl rfl rfl ?_
  have g283 := gri (0) (12) hG (a := 23) (r := 17) (k := 4) rfl rfl
  refine x_getE 37 hK rfl (Or.inl rfl) rfl (sp_23 (h := h) hG) (e := (gi h 23 4)) ((gi_a (by omega) _).trans ((gi_a (by omega) _).trans ((gi_a (by omega) _).trans (gi_a (by omega) _)))) ?_
  refine x_putI 40 hK rfl rfl (shx (h := h) hG (r := 36) (kp_r hc).1 rfl) ?_
  refine x_aload_n 41 hK rfl rfl rfl ?_
  refine x_getR 44 hK rfl rfl (sp_23 (h := h) hG) (rf_23_5 (h := h) hG) ?_
  refine x_iconst 45 hK rfl rfl ?_
  refine x_aload_n 46 hK rfl rfl rfl ?_
  refine x_getR 49 hK rfl rfl (shx (h := h) hG (r := 36) (kp_r hc).1 rfl) (kp_p hP hc).1 ?_
  refine x_iconst 50 hK rfl rfl ?_
  refine x_bipush 52 hK rfl rfl rfl ?_
  refine x_acp 55 hK rfl rfl (by decide) (sp_24 (h := h) hG) (shx (h := h) hG (r := 37) (kp_r hc).2.1 rfl) (by omega) (by omega) (by omega) (by omega) (by omega) ?_
  obtain ⟨h284, e284⟩ : ∃ z, z = sC (wI (wI (wI (wI (wI h c 0 (gi h 23 0)) c 1 (gi h 23 1)) c 2 (gi h 23 2)) c 3 (gi h 23 3)) c 4 (gi h 23 4)) 24 (Int.toNat 0) (c + 1) (Int.toNat 0) (Int.toNat 12) := ⟨_, rfl⟩
  rw [← e284]
  have hG284 : GD gE gRL sh h284 := by rw [e284]; exact GD_C (GD_w1 (GD_w0 (GD_w0 (GD_w1 (GD_w0 (hG) (r := 36) (kp_r hc).1 rfl) (r := 36) (kp_r hc).1 (by omega) rfl (by omega) (by omega)) (r := 36) (kp_r hc).1 rfl) (r := 36) (kp_r hc).1 rfl) (r := 36) (kp_r hc).1 (by omega) rfl (by omega) (by omega)) (r := 37) (kp_r hc).2.1 rfl
  have hF284 : FRM gRL [(0, 37, 0, 11)] (wI (wI (wI (wI (wI h c 0 (gi h 23 0)) c 1 (gi h 23 1)) c 2 (gi h 23 2)) c 3 (gi h 23 3)) c 4 (gi h 23 4)) h284 := by rw [e284]; exact FRM_C FRM.rf (r := 37) (kp_r hc).2.1 fun k k1 k2 => mIn_r (x := 0) (y := 11) (by decide) k (by omega) (by omega)
  have oc284 : ∀ a9 k9, a9 ≠ (c + 1) → gi h284 a9 k9 = gi (wI (wI (wI (wI (wI h c 0 (gi h 23 0)) c 1 (gi h 23 1)) c 2 (gi h 23 2)) c 3 (gi h 23 3)) c 4 (gi h 23 4)) a9 k9 := fun a9 k9 ha => by rw [e284]; exact gi_sCn ha k9
  have cc284 : ∀ j9, gi h284 (c + 1) j9 = if (Int.toNat 0) ≤ j9 ∧ j9 < (Int.toNat 0) + (Int.toNat 12) then gi (wI (wI (wI (wI (wI h c 0 (gi h 23 0)) c 1 (gi h 23 1)) c 2 (gi h 23 2)) c 3 (gi h 23 3)) c 4 (gi h 23 4)) 24 ((Int.toNat 0) + (j9 - (Int.toNat 0))) else gi (wI (wI (wI (wI (wI h c 0 (gi h 23 0)) c 1 (gi h 23 1)) c 2 (gi h 23 2)) c 3 (gi h 23 3)) c 4 (gi h 23 4)) (c + 1) j9 := fun j9 => by rw [e284]; exact gi_sC j9
  refine x_aload_n 56 hK rfl rfl rfl ?_
  refine x_getR 59 hK rfl rfl (sp_23 (h := h284) hG284) (rf_23_6 (h := h284) hG284) ?_
  refine x_iconst 60 hK rfl rfl ?_
  refine x_aload_n 61 hK rfl rfl rfl ?_
  refine x_getR 64 hK rfl rfl (shx (h := h284) hG284 (r := 36) (kp_r hc).1 rfl) (kp_p (PT_F hF284 (by decide) hP) hc).2.1 ?_
  refine x_iconst 65 hK rfl rfl ?_
  refine x_bipush 67 hK rfl rfl rfl ?_
  refine x_acp 70 hK rfl rfl (by decide) (sp_25 (h := h284) hG284) (shx (h := h284) hG284 (r := 38) (kp_r hc).2.2.1 rfl) (by omega) (by omega) (by omega) (by omega) (by omega) ?_
  obtain ⟨h285, e285⟩ : ∃ z, z = sC h284 25 (Int.toNat 0) (c + 2) (Int.toNat 0) (Int.toNat 12) := ⟨_, rfl⟩
  rw [← e285]
  have hG285 : GD gE gRL sh h285 := by rw [e285]; exact GD_C (hG284) (r := 38) (kp_r hc).2.2.1 rfl
  have hF285 : FRM gRL [(0, 38, 0, 11)] h284 h285 := by rw [e285]; exact FRM_C FRM.rf (r := 38) (kp_r hc).2.2.1 fun k k1 k2 => mIn_r (x := 0) (y := 11) (by decide) k (by omega) (by omega)
  have oc285 : ∀ a9 k9, a9 ≠ (c + 2) → gi h285 a9 k9 = gi h284 a9 k9 := fun a9 k9 ha => by rw [e285]; exact gi_sCn ha k9
  have cc285 : ∀ j9, gi h285 (c + 2) j9 = if (Int.toNat 0) ≤ j9 ∧ j9 < (Int.toNat 0) + (Int.toNat 12) then gi h284 25 ((Int.toNat 0) + (j9 - (Int.toNat 0))) else gi h284 (c + 2) j9 := fun j9 => by rw [e285]; exact gi_sC j9
  refine x_aload_n 71 hK rfl rfl rfl ?_
  refine x_getR 74 hK rfl rfl (sp_23 (h := h285) hG285) (rf_23_7 (h := h285) hG285) ?_
  refine x_iconst 75 hK rfl rfl ?_
  refine x_aload_n 76 hK rfl rfl rfl ?_
  refine x_getR 79 hK rfl rfl (shx (h := h285) hG285 (r := 36) (kp_r hc).1 rfl) (kp_p (PT_F hF285 (by decide) (PT_F hF284 (by decide) hP)) hc).2.2.1 ?_
  refine x_iconst 80 hK rfl rfl ?_
  refine x_bipush 82 hK rfl rfl rfl ?_
  refine x_acp 85 hK rfl rfl (by decide) (sp_26 (h := h285) hG285) (shx (h := h285) hG285 (r := 39) (kp_r hc).2.2.2.1 rfl) (by omega) (by omega) (by omega) (by omega) (by omega) ?_
  obtain ⟨h286, e286⟩ : ∃ z, z = sC h285 26 (Int.toNat 0) (c + 3) (Int.toNat 0) (Int.toNat 8) := ⟨_, rfl⟩
  rw [← e286]
  have hG286 : GD gE gRL sh h286 := by rw [e286]; exact GD_C (hG285) (r := 39) (kp_r hc).2.2.2.1 rfl
  have hF286 : FRM gRL [(0, 39, 0, 7)] h285 h286 := by rw [e286]; exact FRM_C FRM.rf (r := 39) (kp_r hc).2.2.2.1 fun k k1 k2 => mIn_r (x := 0) (y := 7) (by decide) k (by omega) (by omega)
  have oc286 : ∀ a9 k9, a9 ≠ (c + 3) → gi h286 a9 k9 = gi h285 a9 k9 := fun a9 k9 ha => by rw [e286]; exact gi_sCn ha k9
  have cc286 : ∀ j9, gi h286 (c + 3) j9 = if (Int.toNat 0) ≤ j9 ∧ j9 < (Int.toNat 0) + (Int.toNat 8) then gi h285 26 ((Int.toNat 0) + (j9 - (Int.toNat 0))) else gi h285 (c + 3) j9 := fun j9 => by rw [e286]; exact gi_sC j9
  refine x_aload_n 86 hK rfl rfl rfl ?_
  refine x_getR 89 hK rfl rfl (sp_23 (h := h286) hG286) (rf_23_8 (h := h286) hG286) ?_
  refine x_iconst 90 hK rfl rfl ?_
  refine x_aload_n 91 hK rfl rfl rfl ?_
  refine x_getR 94 hK rfl rfl (shx (h := h286) hG286 (r := 36) (kp_r hc).1 rfl) (kp_p (PT_F hF286 (by decide) (PT_F hF285 (by decide) (PT_F hF284 (by decide) hP))) hc).2.2.2 ?_
  refine x_iconst 95 hK rfl rfl ?_
  refine x_bipush 97 hK rfl rfl rfl ?_
  refine x_acp 100 hK rfl rfl (by decide) (sp_27 (h := h286) hG286) (shx (h := h286) hG286 (r := 40) (kp_r hc).2.2.2.2 rfl) (by omega) (by omega) (by omega) (by omega) (by omega) ?_
  obtain ⟨h287, e287⟩ : ∃ z, z = sC h286 27 (Int.toNat 0) (c + 4) (Int.toNat 0) (Int.toNat 8) := ⟨_, rfl⟩
  rw [← e287]
  have hG287 : GD gE gRL sh h287 := by rw [e287]; exact GD_C (hG286) (r := 40) (kp_r hc).2.2.2.2 rfl
  have hF287 : FRM gRL [(0, 40, 0, 7)] h286 h287 := by rw [e287]; exact FRM_C FRM.rf (r := 40) (kp_r hc).2.2.2.2 fun k k1 k2 => mIn_r (x := 0) (y := 7) (by decide) k (by omega) (by omega)
  have oc287 : ∀ a9 k9, a9 ≠ (c + 4) → gi h287 a9 k9 = gi h286 a9 k9 := fun a9 k9 ha => by rw [e287]; exact gi_sCn ha k9
  have cc287 : ∀ j9, gi h287 (c + 4) j9 = if (Int.toNat 0) ≤ j9 ∧ j9 < (Int.toNat 0) + (Int.toNat 8) then gi h286 27 ((Int.toNat 0) + (j9 - (Int.toNat 0))) else gi h286 (c + 4) j9 := fun j9 => by rw [e287]; exact gi_sC j9
  have ee : ∀ k, k < 5 → gi h287 c k = gi h 23 k := fun k hk => by
    rcases (show k = 0 ∨ k = 1 ∨ k = 2 ∨ k = 3 ∨ k = 4 by omega) with rfl | rfl | rfl | rfl | rfl
    · exact (FRM_gi hF287 (r := 36) (kp_r hc).1 rfl).trans ((FRM_gi hF286 (r := 36) (kp_r hc).1 rfl).trans ((FRM_gi hF285 (r := 36) (kp_r hc).1 rfl).trans ((FRM_gi hF284 (r := 36) (kp_r hc).1 rfl).trans ((gi_k (by decide) _).trans ((gi_k (by decide) _).trans ((gi_k (by decide) _).trans ((gi_k (by decide) _).trans (gi_same (by omega)))))))))
    · exact (FRM_gi hF287 (r := 36) (kp_r hc).1 rfl).trans ((FRM_gi hF286 (r := 36) (kp_r hc).1 rfl).trans ((FRM_gi hF285 (r := 36) (kp_r hc).1 rfl).trans ((FRM_gi hF284 (r := 36) (kp_r hc).1 rfl).trans ((gi_k (by decide) _).trans ((gi_k (by decide) _).trans ((gi_k (by decide) _).trans (gi_same (by omega))))))))
    · exact (FRM_gi hF287 (r := 36) (kp_r hc).1 rfl).trans ((FRM_gi hF286 (r := 36) (kp_r hc).1 rfl).trans ((FRM_gi hF285 (r := 36) (kp_r hc).1 rfl).trans ((FRM_gi hF284 (r := 36) (kp_r hc).1 rfl).trans ((gi_k (by decide) _).trans ((gi_k (by decide) _).trans (gi_same (by omega)))))))
    · exact (FRM_gi hF287 (r := 36) (kp_r hc).1 rfl).trans ((FRM_gi hF286 (r := 36) (kp_r hc).1 rfl).trans ((FRM_gi hF285 (r := 36) (kp_r hc).1 rfl).trans ((FRM_gi hF284 (r := 36) (kp_r hc).1 rfl).trans ((gi_k (by decide) _).trans (gi_same (by omega))))))
    · exact (FRM_gi hF287 (r := 36) (kp_r hc).1 rfl).trans ((FRM_gi hF286 (r := 36) (kp_r hc).1 rfl).trans ((FRM_gi hF285 (r := 36) (kp_r hc).1 rfl).trans ((FRM_gi hF284 (r := 36) (kp_r hc).1 rfl).trans (gi_same (by omega)))))
  have c0 : ∀ j, j < 12 → gi h287 (c + 1) j = gi h 24 j := fun j hj => (oc287 _ j (by omega)).trans ((oc286 _ j (by omega)).trans ((oc285 _ j (by omega)).trans ((cc284 j).trans ((if_pos (by omega)).trans ((gi_to (show Int.toNat 0 + (j - Int.toNat 0) = j by omega)).trans ((gi_a (by omega) _).trans ((gi_a (by omega) _).trans ((gi_a (by omega) _).trans ((gi_a (by omega) _).trans (gi_a (by omega) _))))))))))
  have c1 : ∀ j, j < 12 → gi h287 (c + 2) j = gi h 25 j := fun j hj => (oc287 _ j (by omega)).trans ((oc286 _ j (by omega)).trans ((cc285 j).trans ((if_pos (by omega)).trans ((gi_to (show Int.toNat 0 + (j - Int.toNat 0) = j by omega)).trans ((oc284 _ _ (by omega)).trans ((gi_a (by omega) _).trans ((gi_a (by omega) _).trans ((gi_a (by omega) _).trans ((gi_a (by omega) _).trans (gi_a (by omega) _))))))))))
  have c2 : ∀ j, j < 8 → gi h287 (c + 3) j = gi h 26 j := fun j hj => (oc287 _ j (by omega)).trans ((cc286 j).trans ((if_pos (by omega)).trans ((gi_to (show Int.toNat 0 + (j - Int.toNat 0) = j by omega)).trans ((oc285 _ _ (by omega)).trans ((oc284 _ _ (by omega)).trans ((gi_a (by omega) _).trans ((gi_a (by omega) _).trans ((gi_a (by omega) _).trans ((gi_a (by omega) _).trans (gi_a (by omega) _))))))))))
  have c3 : ∀ j, j < 8 → gi h287 (c + 4) j = gi h 27 j := fun j hj => (cc287 j).trans ((if_pos (by omega)).trans ((gi_to (show Int.toNat 0 + (j - Int.toNat 0) = j by omega)).trans ((oc286 _ _ (by omega)).trans ((oc285 _ _ (by omega)).trans ((oc284 _ _ (by omega)).trans ((gi_a (by omega) _).trans ((gi_a (by omega) _).trans ((gi_a (by omega) _).trans ((gi_a (by omega) _).trans (gi_a (by omega) _))))))))))
  exact x_vret hK rfl ⟨rfl, hG287, ((((FRM_w (FRM_w (FRM_w (FRM_w (FRM_w ((FRM.rf : FRM gRL [(0, 36, 0, 4), (0, 37, 0, 11), (0, 38, 0, 11), (0, 39, 0, 7), (0, 40, 0, 7)] h h)) (r := 36) (kp_r hc).1 rfl) (r := 36) (kp_r hc).1 rfl) (r := 36) (kp_r hc).1 rfl) (r := 36) (kp_r hc).1 rfl) (r := 36) (kp_r hc).1 rfl).trans ((hF284).mono rfl)).trans ((hF285).mono rfl)).trans ((hF286).mono rfl)).trans ((hF287).mono rfl), kS_eq g4 ee (fun j hj => ⟨c0 j hj, c1 j hj⟩) (fun j hj => ⟨c2 j hj, c3 j hj⟩), fun a k hn => (oc287 a k (by omega)).trans ((oc286 a k (by omega)).trans ((oc285 a k (by omega)).trans ((oc284 a k (by omega)).trans ((gi_a (by omega) _).trans ((gi_a (by omega) _).trans ((gi_a (by omega) _).trans ((gi_a (by omega) _).trans (gi_a (by omega) _))))))))⟩
set_option maxRecDepth 4000 in
theorem ctX8_copyFrom_23_kp {SP : CT} (hSP : MONO SP) {sh : List (Nat × Nat)} {h : aH} (hG : GD gE gRL sh h) (hP : PT h) {c : Nat} (hc : kpA c) : CLd SP 1 mX8_copyFrom [.ref 23, .ref c] h 0 0 (fun rv h' => rv = none ∧ GD gE gRL sh h' ∧ FRM gRL [(0, 17, 0, 4), (0, 18, 0, 11), (0, 19, 0, 11), (0, 20, 0, 7), (0, 21, 0, 7)] h h' ∧ kS h' 23 = kS h c ∧ oth 23 h h') := by
  refine x_met _ rfl (Nat.le_of_ble_eq_true rfl) (fun K hK => ?_)
  have hmono := MONO_CLd hSP 0
  have hcb := kp_b hc
  have g1 := gri 0 8 hG (a := c) (r := 36) (k := 1) (kp_r hc).1 rfl
  have g4 := gri 0 12 hG (a := c) (r := 36) (k := 4) (kp_r hc).1 rfl
  refine x_aload_n 1 hK rfl rfl rfl ?_
  refine x_aload_n 2 hK rfl rfl rfl ?_
  have g288 := gi_r h c 0
  refine x_getE 5 hK rfl (Or.inl rfl) rfl (shx (h := h) hG (r := 36) (kp_r hc).1 rfl) (e := (gi h c 0)) (rfl) ?_
  refine x_putI 8 hK rfl rfl (sp_23 (h := h) hG) ?_
  refine x_aload_n 9 hK rfl rfl rfl ?_
  refine x_aload_n 10 hK rfl rfl rfl ?_
  have g289 := gri (0) (8) hG (a := c) (r := 36) (k := 1) (kp_r hc).1 rfl
  refine x_getE 13 hK rfl (Or.inl rfl) rfl (shx (h := h) hG (r := 36) (kp_r hc).1 rfl) (e := (gi h c 1)) (gi_a (by omega) _) ?_
  refine x_putI 16 hK rfl rfl (sp_23 (h := h) hG) ?_
  refine x_aload_n 17 hK rfl rfl rfl ?_
  refine x_aload_n 18 hK rfl rfl rfl ?_
  have g290 := gi_r h c 2
  refine x_getE 21 hK rfl (Or.inl rfl) rfl (shx (h := h) hG (r := 36) (kp_r hc).1 rfl) (e := (gi h c 2)) ((gi_a (by omega) _).trans (gi_a (by omega) _)) ?_
  refine x_putI 24 hK rfl rfl (sp_23 (h := h) hG) ?_
  refine x_aload_n 25 hK rfl rfl rfl ?_
  refine x_aload_n 26 hK rfl rfl rfl ?_
  have g291 := gi_r h c 3
  refine x_getE 29 hK rfl (Or.inl rfl) rfl (shx (h := h) hG (r := 36) (kp_r hc).1 rfl) (e := (gi h c 3)) ((gi_a (by omega) _).trans ((gi_a (by omega) _).trans (gi_a (by omega) _))) ?_
  refine x_putI 32 hK rfl rfl (sp_23 (h := h) hG) ?_
  refine x_aload_n 33 hK rfl rfl rfl ?_
  refine x_aload_n 34 hK rfl rfl rfl ?_
  have g292 := gri (0) (12) hG (a := c) (r := 36) (k := 4) (kp_r hc).1 rfl
  refine x_getE 37 hK rfl (Or.inl rfl) rfl (shx (h := h) hG (r := 36) (kp_r hc).1 rfl) (e := (gi h c 4)) ((gi_a (by omega) _).trans ((gi_a (by omega) _).trans ((gi_a (by omega) _).trans (gi_a (by omega) _)))) ?_
  refine x_putI 40 hK rfl rfl (sp_23 (h := h) hG) ?_
  refine x_aload_n 41 hK rfl rfl rfl ?_
  refine x_getR 44 hK rfl rfl (shx (h := h) hG (r := 36) (kp_r hc).1 rfl) (kp_p hP hc).1 ?_
  refine x_iconst 45 hK rfl rfl ?_
  refine x_aload_n 46 hK rfl rfl rfl ?_
  refine x_getR 49 hK rfl rfl (sp_23 (h := h) hG) (rf_23_5 (h := h) hG) ?_
  refine x_iconst 50 hK rfl rfl ?_
  refine x_bipush 52 hK rfl rfl rfl ?_
  refine x_acp 55 hK rfl rfl (by decide) (shx (h := h) hG (r := 37) (kp_r hc).2.1 rfl) (sp_24 (h := h) hG) (by omega) (by omega) (by omega) (by omega) (by omega) ?_
  obtain ⟨h293, e293⟩ : ∃ z, z = sC (wI (wI (wI (wI (wI h 23 0 (gi h c 0)) 23 1 (gi h c 1)) 23 2 (gi h c 2)) 23 3 (gi h c 3)) 23 4 (gi h c 4)) (c + 1) (Int.toNat 0) 24 (Int.toNat 0) (Int.toNat 12) := ⟨_, rfl⟩
  rw [← e293]
  have hG293 : GD gE gRL sh h293 := by rw [e293]; exact GD_C (GD_w1 (GD_w0 (GD_w0 (GD_w1 (GD_w0 (hG) (r := 17) rfl rfl) (r := 17) rfl (by omega) rfl (by omega) (by omega)) (r := 17) rfl rfl) (r := 17) rfl rfl) (r := 17) rfl (by omega) rfl (by omega) (by omega)) (r := 18) rfl rfl
  have hF293 : FRM gRL [(0, 18, 0, 11)] (wI (wI (wI (wI (wI h 23 0 (gi h c 0)) 23 1 (gi h c 1)) 23 2 (gi h c 2)) 23 3 (gi h c 3)) 23 4 (gi h c 4)) h293 := by rw [e293]; exact FRM_C FRM.rf (r := 18) rfl fun k k1 k2 => mIn_r (x := 0) (y := 11) (by decide) k (by omega) (by omega)
  have oc293 : ∀ a9 k9, a9 ≠ 24 → gi h293 a9 k9 = gi (wI (wI (wI (wI (wI h 23 0 (gi h c 0)) 23 1 (gi h c 1)) 23 2 (gi h c 2)) 23 3 (gi h c 3)) 23 4 (gi h c 4)) a9 k9 := fun a9 k9 ha => by rw [e293]; exact gi_sCn ha k9
  have cc293 : ∀ j9, gi h293 24 j9 = if (Int.toNat 0) ≤ j9 ∧ j9 < (Int.toNat 0) + (Int.toNat 12) then gi (wI (wI (wI (wI (wI h 23 0 (gi h c 0)) 23 1 (gi h c 1)) 23 2 (gi h c 2)) 23 3 (gi h c 3)) 23 4 (gi h c 4)) (c + 1) ((Int.toNat 0) + (j9 - (Int.toNat 0))) else gi (wI (wI (wI (wI (wI h 23 0 (gi h c 0)) 23 1 (gi h c 1)) 23 2 (gi h c 2)) 23 3 (gi h c 3)) 23 4 (gi h c 4)) 24 j9 := fun j9 => by rw [e293]; exact gi_sC j9
  refine x_aload_n 56 hK rfl rfl rfl ?_
  refine x_getR 59 hK rfl rfl (shx (h := h293) hG293 (r := 36) (kp_r hc).1 rfl) (kp_p (PT_F hF293 (by decide) hP) hc).2.1 ?_
  refine x_iconst 60 hK rfl rfl ?_
  refine x_aload_n 61 hK rfl rfl rfl ?_
  refine x_getR 64 hK rfl rfl (sp_23 (h := h293) hG293) (rf_23_6 (h := h293) hG293) ?_
  refine x_iconst 65 hK rfl rfl ?_
  refine x_bipush 67 hK rfl rfl rfl ?_
  refine x_acp 70 hK rfl rfl (by decide) (shx (h := h293) hG293 (r := 38) (kp_r hc).2.2.1 rfl) (sp_25 (h := h293) hG293) (by omega) (by omega) (by omega) (by omega) (by omega) ?_
  obtain ⟨h294, e294⟩ : ∃ z, z = sC h293 (c + 2) (Int.toNat 0) 25 (Int.toNat 0) (Int.toNat 12) := ⟨_, rfl⟩
  rw [← e294]
  have hG294 : GD gE gRL sh h294 := by rw [e294]; exact GD_C (hG293) (r := 19) rfl rfl
  have hF294 : FRM gRL [(0, 19, 0, 11)] h293 h294 := by rw [e294]; exact FRM_C FRM.rf (r := 19) rfl fun k k1 k2 => mIn_r (x := 0) (y := 11) (by decide) k (by omega) (by omega)
  have oc294 : ∀ a9 k9, a9 ≠ 25 → gi h294 a9 k9 = gi h293 a9 k9 := fun a9 k9 ha => by rw [e294]; exact gi_sCn ha k9
  have cc294 : ∀ j9, gi h294 25 j9 = if (Int.toNat 0) ≤ j9 ∧ j9 < (Int.toNat 0) + (Int.toNat 12) then gi h293 (c + 2) ((Int.toNat 0) + (j9 - (Int.toNat 0))) else gi h293 25 j9 := fun j9 => by rw [e294]; exact gi_sC j9
  refine x_aload_n 71 hK rfl rfl rfl ?_
  refine x_getR 74 hK rfl rfl (shx (h := h294) hG294 (r := 36) (kp_r hc).1 rfl) (kp_p (PT_F hF294 (by decide) (PT_F hF293 (by decide) hP)) hc).2.2.1 ?_
  refine x_iconst 75 hK rfl rfl ?_
  refine x_aload_n 76 hK rfl rfl rfl ?_
  refine x_getR 79 hK rfl rfl (sp_23 (h := h294) hG294) (rf_23_7 (h := h294) hG294) ?_
  refine x_iconst 80 hK rfl rfl ?_
  refine x_bipush 82 hK rfl rfl rfl ?_
  refine x_acp 85 hK rfl rfl (by decide) (shx (h := h294) hG294 (r := 39) (kp_r hc).2.2.2.1 rfl) (sp_26 (h := h294) hG294) (by omega) (by omega) (by omega) (by omega) (by omega) ?_
  obtain ⟨h295, e295⟩ : ∃ z, z = sC h294 (c + 3) (Int.toNat 0) 26 (Int.toNat 0) (Int.toNat 8) := ⟨_, rfl⟩
  rw [← e295]
  have hG295 : GD gE gRL sh h295 := by rw [e295]; exact GD_C (hG294) (r := 20) rfl rfl
  have hF295 : FRM gRL [(0, 20, 0, 7)] h294 h295 := by rw [e295]; exact FRM_C FRM.rf (r := 20) rfl fun k k1 k2 => mIn_r (x := 0) (y := 7) (by decide) k (by omega) (by omega)
  have oc295 : ∀ a9 k9, a9 ≠ 26 → gi h295 a9 k9 = gi h294 a9 k9 := fun a9 k9 ha => by rw [e295]; exact gi_sCn ha k9
  have cc295 : ∀ j9, gi h295 26 j9 = if (Int.toNat 0) ≤ j9 ∧ j9 < (Int.toNat 0) + (Int.toNat 8) then gi h294 (c + 3) ((Int.toNat 0) + (j9 - (Int.toNat 0))) else gi h294 26 j9 := fun j9 => by rw [e295]; exact gi_sC j9
  refine x_aload_n 86 hK rfl rfl rfl ?_
  refine x_getR 89 hK rfl rfl (shx (h := h295) hG295 (r := 36) (kp_r hc).1 rfl) (kp_p (PT_F hF295 (by decide) (PT_F hF294 (by decide) (PT_F hF293 (by decide) hP))) hc).2.2.2 ?_
  refine x_iconst 90 hK rfl rfl ?_
  refine x_aload_n 91 hK rfl rfl rfl ?_
  refine x_getR 94 hK rfl rfl (sp_23 (h := h295) hG295) (rf_23_8 (h := h295) hG295) ?_
  refine x_iconst 95 hK rfl rfl ?_
  refine x_bipush 97 hK rfl rfl rfl ?_
  refine x_acp 100 hK rfl rfl (by decide) (shx (h := h295) hG295 (r := 40) (kp_r hc).2.2.2.2 rfl) (sp_27 (h := h295) hG295) (by omega) (by omega) (by omega) (by omega) (by omega) ?_
  obtain ⟨h296, e296⟩ : ∃ z, z = sC h295 (c + 4) (Int.toNat 0) 27 (Int.toNat 0) (Int.toNat 8) := ⟨_, rfl⟩
  rw [← e296]
  have hG296 : GD gE gRL sh h296 := by rw [e296]; exact GD_C (hG295) (r := 21) rfl rfl
  have hF296 : FRM gRL [(0, 21, 0, 7)] h295 h296 := by rw [e296]; exact FRM_C FRM.rf (r := 21) rfl fun k k1 k2 => mIn_r (x := 0) (y := 7) (by decide) k (by omega) (by omega)
  have oc296 : ∀ a9 k9, a9 ≠ 27 → gi h296 a9 k9 = gi h295 a9 k9 := fun a9 k9 ha => by rw [e296]; exact gi_sCn ha k9
  have cc296 : ∀ j9, gi h296 27 j9 = if (Int.toNat 0) ≤ j9 ∧ j9 < (Int.toNat 0) + (Int.toNat 8) then gi h295 (c + 4) ((Int.toNat 0) + (j9 - (Int.toNat 0))) else gi h295 27 j9 := fun j9 => by rw [e296]; exact gi_sC j9
  have ee : ∀ k, k < 5 → gi h296 23 k = gi h c k := fun k hk => by
    rcases (show k = 0 ∨ k = 1 ∨ k = 2 ∨ k = 3 ∨ k = 4 by omega) with rfl | rfl | rfl | rfl | rfl
    · exact (FRM_gi hF296 (r := 17) rfl rfl).trans ((FRM_gi hF295 (r := 17) rfl rfl).trans ((FRM_gi hF294 (r := 17) rfl rfl).trans ((FRM_gi hF293 (r := 17) rfl rfl).trans ((gi_k (by decide) _).trans ((gi_k (by decide) _).trans ((gi_k (by decide) _).trans ((gi_k (by decide) _).trans (gi_same (by omega)))))))))
    · exact (FRM_gi hF296 (r := 17) rfl rfl).trans ((FRM_gi hF295 (r := 17) rfl rfl).trans ((FRM_gi hF294 (r := 17) rfl rfl).trans ((FRM_gi hF293 (r := 17) rfl rfl).trans ((gi_k (by decide) _).trans ((gi_k (by decide) _).trans ((gi_k (by decide) _).trans (gi_same (by omega))))))))
    · exact (FRM_gi hF296 (r := 17) rfl rfl).trans ((FRM_gi hF295 (r := 17) rfl rfl).trans ((FRM_gi hF294 (r := 17) rfl rfl).trans ((FRM_gi hF293 (r := 17) rfl rfl).trans ((gi_k (by decide) _).trans ((gi_k (by decide) _).trans (gi_same (by omega)))))))
    · exact (FRM_gi hF296 (r := 17) rfl rfl).trans ((FRM_gi hF295 (r := 17) rfl rfl).trans ((FRM_gi hF294 (r := 17) rfl rfl).trans ((FRM_gi hF293 (r := 17) rfl rfl).trans ((gi_k (by decide) _).trans (gi_same (by omega))))))
    · exact (FRM_gi hF296 (r := 17) rfl rfl).trans ((FRM_gi hF295 (r := 17) rfl rfl).trans ((FRM_gi hF294 (r := 17) rfl rfl).trans ((FRM_gi hF293 (r := 17) rfl rfl).trans (gi_same (by omega)))))
  have c0 : ∀ j, j < 12 → gi h296 24 j = gi h (c + 1) j := fun j hj => (oc296 _ j (by omega)).trans ((oc295 _ j (by omega)).trans ((oc294 _ j (by omega)).trans ((cc293 j).trans ((if_pos (by omega)).trans ((gi_to (show Int.toNat 0 + (j - Int.toNat 0) = j by omega)).trans ((gi_a (by omega) _).trans ((gi_a (by omega) _).trans ((gi_a (by omega) _).trans ((gi_a (by omega) _).trans (gi_a (by omega) _))))))))))
  have c1 : ∀ j, j < 12 → gi h296 25 j = gi h (c + 2) j := fun j hj => (oc296 _ j (by omega)).trans ((oc295 _ j (by omega)).trans ((cc294 j).trans ((if_pos (by omega)).trans ((gi_to (show Int.toNat 0 + (j - Int.toNat 0) = j by omega)).trans ((oc293 _ _ (by omega)).trans ((gi_a (by omega) _).trans ((gi_a (by omega) _).trans ((gi_a (by omega) _).trans ((gi_a (by omega) _).trans (gi_a (by omega) _))))))))))
  have c2 : ∀ j, j < 8 → gi h296 26 j = gi h (c + 3) j := fun j hj => (oc296 _ j (by omega)).trans ((cc295 j).trans ((if_pos (by omega)).trans ((gi_to (show Int.toNat 0 + (j - Int.toNat 0) = j by omega)).trans ((oc294 _ _ (by omega)).trans ((oc293 _ _ (by omega)).trans ((gi_a (by omega) _).trans ((gi_a (by omega) _).trans ((gi_a (by omega) _).trans ((gi_a (by omega) _).trans (gi_a (by omega) _))))))))))
  have c3 : ∀ j, j < 8 → gi h296 27 j = gi h (c + 4) j := fun j hj => (cc296 j).trans ((if_pos (by omega)).trans ((gi_to (show Int.toNat 0 + (j - Int.toNat 0) = j by omega)).trans ((oc295 _ _ (by omega)).trans ((oc294 _ _ (by omega)).trans ((oc293 _ _ (by omega)).trans ((gi_a (by omega) _).trans ((gi_a (by omega) _).trans ((gi_a (by omega) _).trans ((gi_a (by omega) _).trans (gi_a (by omega) _))))))))))
  exact x_vret hK rfl ⟨rfl, hG296, ((((FRM_w (FRM_w (FRM_w (FRM_w (FRM_w ((FRM.rf : FRM gRL [(0, 17, 0, 4), (0, 18, 0, 11), (0, 19, 0, 11), (0, 20, 0, 7), (0, 21, 0, 7)] h h)) (r := 17) rfl rfl) (r := 17) rfl rfl) (r := 17) rfl rfl) (r := 17) rfl rfl) (r := 17) rfl rfl).trans ((hF293).mono rfl)).trans ((hF294).mono rfl)).trans ((hF295).mono rfl)).trans ((hF296).mono rfl), kS_eq g4 ee (fun j hj => ⟨c0 j hj, c1 j hj⟩) (fun j hj => ⟨c2 j hj, c3 j hj⟩), fun a k hn => (oc296 a k (by omega)).trans ((oc295 a k (by omega)).trans ((oc294 a k (by omega)).trans ((oc293 a k (by omega)).trans ((gi_a (by omega) _).trans ((gi_a (by omega) _).trans ((gi_a (by omega) _).trans ((gi_a (by omega) _).trans (gi_a (by omega) _))))))))⟩
end
section
/-! WHAT A STATE OF THE CLASS DOES -/
theorem SRT_le {h : aH} {c n : Nat} (hs : SRT (kO h c n)) {i j : Nat} (hij : i ≤ j) (hj : j < n) : gi h (c + 1) i ≤ gi h (c + 1) j := by
  by_cases e : i = j
  · rw [e]; exact Int.le_refl _
  · have z := List.pairwise_iff_getElem.mp hs i j (by rw [kO_l]; omega) (by rw [kO_l]; omega) (by omega)
    unfold kO at z
    simp only [List.getElem_map, List.getElem_range] at z
    exact z
theorem kO_add (h : aH) (c k m : Nat) : kO h c (k + m) = kO h c k ++ (List.range m).map fun j => (gi h (c + 1) (k + j), gi h (c + 2) (k + j)) := by
  unfold kO
  rw [List.range_add, List.map_append, List.map_map]
  rfl
theorem kO_drop (h : aH) (c k n : Nat) (hk : k ≤ n) : (kO h c n).drop k = (List.range (n - k)).map fun j => (gi h (c + 1) (k + j), gi h (c + 2) (k + j)) := by
  have e := kO_add h c k (n - k)
  rw [show k + (n - k) = n by omega] at e
  rw [e, List.drop_append_of_le_length (by rw [kO_l]; exact Nat.le_refl _), List.drop_of_length_le (by rw [kO_l]; exact Nat.le_refl _), List.nil_append]
theorem kO_take (h : aH) (c k n : Nat) (hk : k ≤ n) : (kO h c n).take k = kO h c k := by
  have e := kO_add h c k (n - k)
  rw [show k + (n - k) = n by omega] at e
  rw [e, List.take_append_of_le_length (by rw [kO_l]; exact Nat.le_refl _), List.take_of_length_le (by rw [kO_l]; exact Nat.le_refl _)]
theorem kO_ins {h h' : aH} {c n k : Nat} {x : Int × Int} (hk : k ≤ n) (lo : ∀ j, j < k → gi h' (c + 1) j = gi h (c + 1) j ∧ gi h' (c + 2) j = gi h (c + 2) j) (a1 : gi h' (c + 1) k = x.1) (a2 : gi h' (c + 2) k = x.2) (hi : ∀ j, k ≤ j → j < n → gi h' (c + 1) (j + 1) = gi h (c + 1) j ∧ gi h' (c + 2) (j + 1) = gi h (c + 2) j) (sl : ∀ j, j < k → gi h (c + 1) j ≤ x.1) (sg : ∀ j, k ≤ j → j < n → x.1 < gi h (c + 1) j) : kO h' c (n + 1) = insO x (kO h c n) := by
  have e1 := kO_add h c k (n - k)
  rw [show k + (n - k) = n by omega] at e1
  have e2 := kO_add h' c k (1 + (n - k))
  rw [show k + (1 + (n - k)) = n + 1 by omega] at e2
  have e3 : (List.range (1 + (n - k))).map (fun j => (gi h' (c + 1) (k + j), gi h' (c + 2) (k + j))) = x :: (List.range (n - k)).map fun j => (gi h (c + 1) (k + j), gi h (c + 2) (k + j)) := by
    rw [List.range_add, List.map_append, List.map_map]
    show [(gi h' (c + 1) (k + 0), gi h' (c + 2) (k + 0))] ++ _ = [x] ++ _
    congr 1
    · show [(gi h' (c + 1) k, gi h' (c + 2) k)] = [x]
      rw [a1, a2]
    · refine List.map_congr_left fun j hj => ?_
      have := List.mem_range.mp hj
      obtain ⟨z1, z2⟩ := hi (k + j) (by omega) (by omega)
      show (gi h' (c + 1) (k + (1 + j)), gi h' (c + 2) (k + (1 + j))) = _
      rw [show k + (1 + j) = k + j + 1 by omega, z1, z2]
  rw [e2, e3, e1, kO_eq lo]
  refine (ins_at (fun y hy => ?_) (fun y hy => ?_)).symm
  · obtain ⟨j, hj, rfl⟩ := List.mem_map.mp hy
    exact sl j (List.mem_range.mp hj)
  · obtain ⟨j, hj, rfl⟩ := List.mem_map.mp hy
    have := List.mem_range.mp hj
    exact sg (k + j) (by omega) (by omega)
theorem tw_at {p : Int × Int → Bool} : ∀ {L : List (Int × Int)} {k : Nat}, k ≤ L.length → (∀ j q, j < k → L[j]? = some q → p q = true) → (∀ q, L[k]? = some q → p q = false) → L.takeWhile p = L.take k ∧ L.dropWhile p = L.drop k
  | [], k, hk, _, _ => by
    obtain rfl : k = 0 := by simpa using hk
    exact ⟨rfl, rfl⟩
  | y :: t, 0, _, _, h2 => by
    have z := h2 y rfl
    exact ⟨List.takeWhile_cons_of_neg (by rw [z]; exact Bool.noConfusion), List.dropWhile_cons_of_neg (by rw [z]; exact Bool.noConfusion)⟩
  | y :: t, k + 1, hk, h1, h2 => by
    have z := h1 0 y (by omega) rfl
    obtain ⟨i1, i2⟩ := tw_at (L := t) (k := k) (by rw [List.length_cons] at hk; omega) (fun j q hj hq => h1 (j + 1) q (by omega) hq) h2
    exact ⟨by rw [List.takeWhile_cons_of_pos z, i1]; rfl, by rw [List.dropWhile_cons_of_pos z, i2]; rfl⟩
theorem kO_s (h : aH) (c n : Nat) : kO h c (n + 1) = kO h c n ++ [(gi h (c + 1) n, gi h (c + 2) n)] := by
  unfold kO
  rw [List.range_succ, List.map_append]
  rfl
theorem cpt_b {l : Int} (hl : 0 ≤ l ∧ l ≤ 8) (q : Int × Int) : 0 ≤ cpt l q ∧ cpt l q ≤ 8 := by unfold cpt; omega
theorem cpF_b {l : Int} (hl : 0 ≤ l ∧ l ≤ 8) : ∀ L : List (Int × Int), 0 ≤ L.foldl cpt l ∧ L.foldl cpt l ≤ 8
  | [] => hl
  | q :: t => cpF_b (cpt_b hl q) t
set_option maxRecDepth 4000 in
theorem ctX8_addOrder {SP : CT} (hSP : MONO SP) {sh : List (Nat × Nat)} {h : aH} (hG : GD gE gRL sh h) {l v : Int} (hl : 0 ≤ l ∧ l ≤ 1000) (hv : r32 v) (hw : 0 ≤ gi h 23 0 ∧ gi h 23 0 ≤ 1000000) (hn : gi h 23 4 < 12) (hs : SRT (kO h 23 (gi h 23 4).toNat)) : CLd SP 1 mX8_addOrder [.ref 23, .int (I l), .int (I v)] h 0 0 (fun rv h' => rv = none ∧ GD gE gRL sh h' ∧ FRM gRL [(0, 17, 3, 4), (0, 18, 0, 11), (0, 19, 0, 11)] h h' ∧ kS h' 23 = ((kS h 23).1, (kS h 23).2.1, (kS h 23).2.2.1, (kS h 23).1, insO ((kS h 23).1 + l, v) (kS h 23).2.2.2.2.1, (kS h 23).2.2.2.2.2)) := by
  refine x_met _ rfl (Nat.le_of_ble_eq_true rfl) (fun K hK => ?_)
  have hmono := MONO_CLd hSP 0
  have g4 := gri 0 12 hG (a := 23) (r := 17) (k := 4) rfl rfl
  have g1 := gri 0 8 hG (a := 23) (r := 17) (k := 1) rfl rfl
  have loop : ∀ (mz : Nat) (k : Int) (h4 : aH) (ls : List (Nat × Value)), (k.toNat = mz) → (0 ≤ k ∧ k ≤ (gi h 23 4)) → (∀ j : Nat, (j : Int) < k → gi h4 24 j = gi h 24 j ∧ gi h4 25 j = gi h 25 j) → (∀ j : Nat, k ≤ (j : Int) → (j : Int) < (gi h 23 4) → gi h4 24 (j + 1) = gi h 24 j ∧ gi h4 25 (j + 1) = gi h 25 j) → (∀ j : Nat, k ≤ (j : Int) → (j : Int) < (gi h 23 4) → (gi h 23 0 + l) < gi h 24 j) → lk ls 0 = some (.ref 23) → lk ls 1 = some (.int (I l)) → lk ls 2 = some (.int (I v)) → lk ls 3 = some (.int (I k)) → GD gE gRL sh h4 → FRM gRL [(0, 18, 0, 11), (0, 19, 0, 11)] h h4 → K 15 ls [] h4 0 0 := by
    intro mz
    induction mz using Nat.strongRecOn with
    | ind mz ih =>
    intro k h4 ls hm k0 lo hi bg l0 l1 l2 l3 hG4 hF4
    have n4 : gi h4 23 0 = gi h 23 0 := FRM_gi hF4 (r := 17) rfl rfl
    have n44 : gi h4 23 4 = gi h 23 4 := FRM_gi hF4 (r := 17) rfl rfl
    have lk := fun z : 0 < k => lo (k - 1).toNat (by omega)
    refine x_iload_n 16 hK rfl rfl l3 ?_
    refine x_if_le 70 19 hK rfl rfl rfl (by omega) (fun c2 => ?_) (fun c2 => ?_)
    · refine x_aload_n 71 hK rfl rfl l0 ?_
      refine x_getR 74 hK rfl rfl (sp_23 (h := h4) hG4) (rf_23_5 (h := h4) hG4) ?_
      refine x_iload_n 75 hK rfl rfl l3 ?_
      refine x_aload_n 76 hK rfl rfl l0 ?_
      have g297 := gi_r h 23 0
      refine x_getE 79 hK rfl (Or.inl rfl) rfl (sp_23 (h := h4) hG4) (e := (gi h 23 0)) (n4) ?_
      refine x_iload_n 80 hK rfl rfl l1 ?_
      refine x_iadd 81 hK rfl rfl ?_
      refine x_iastore 82 hK rfl rfl (sp_24 (h := h4) hG4) (by omega) (by omega) (by omega) ?_
      refine x_aload_n 83 hK rfl rfl l0 ?_
      refine x_getR 86 hK rfl rfl (sp_23 (h := h4) hG4) (rf_23_6 (h := h4) hG4) ?_
      refine x_iload_n 87 hK rfl rfl l3 ?_
      refine x_iload_n 88 hK rfl rfl l2 ?_
      refine x_iastore 89 hK rfl rfl (sp_25 (h := h4) hG4) (by omega) (by omega) (by omega) ?_
      refine x_aload_n 90 hK rfl rfl l0 ?_
      refine x_dup 91 hK rfl rfl rfl ?_
      have g298 := gri (0) (12) hG (a := 23) (r := 17) (k := 4) rfl rfl
      refine x_getE 94 hK rfl (Or.inl rfl) rfl (sp_23 (h := h4) hG4) (e := (gi h 23 4)) ((gi_a (by decide) _).trans ((gi_a (by decide) _).trans (n44))) ?_
      refine x_iconst 95 hK rfl rfl ?_
      refine x_iadd 96 hK rfl rfl ?_
      refine x_putI 99 hK rfl rfl (sp_23 (h := h4) hG4) ?_
      refine x_aload_n 100 hK rfl rfl l0 ?_
      refine x_aload_n 101 hK rfl rfl l0 ?_
      refine x_getE 104 hK rfl (Or.inl rfl) rfl (sp_23 (h := h4) hG4) (e := (gi h 23 0)) ((gi_k (by decide) _).trans ((gi_a (by decide) _).trans ((gi_a (by decide) _).trans (n4)))) ?_
      refine x_putI 107 hK rfl rfl (sp_23 (h := h4) hG4) ?_
      have sl : ∀ j : Nat, (j : Int) < k → gi h 24 j ≤ (gi h 23 0 + l) := fun j hj => by
        have y : gi h 24 (k - 1).toNat ≤ (gi h 23 0 + l) := by omega
        exact Int.le_trans (SRT_le (c := 23) hs (show j ≤ (k - 1).toNat by omega) (by omega)) y
      have e5 : kO (wI (wI (wI (wI h4 24 k.toNat ((gi h 23 0) + l)) 25 k.toNat v) 23 4 ((gi h 23 4) + 1)) 23 3 (gi h 23 0)) 23 ((gi h 23 4).toNat + 1) = insO ((gi h 23 0 + l), v) (kO h 23 (gi h 23 4).toNat) := by
        refine kO_ins (k := k.toNat) (by omega) (fun j hj => ?_) ((gi_a (by decide) _).trans ((gi_a (by decide) _).trans ((gi_a (by decide) _).trans (gi_same (by omega))))) ((gi_a (by decide) _).trans ((gi_a (by decide) _).trans (gi_same (by omega)))) (fun j h1 h2 => ?_) (fun j hj => sl j (by omega)) (fun j h1 h2 => bg j (by omega) (by omega))
        · have z := lo j (by omega)
          exact ⟨(gi_a (by decide) _).trans ((gi_a (by decide) _).trans ((gi_a (by decide) _).trans ((gi_k (by omega) _).trans (z.1)))), (gi_a (by decide) _).trans ((gi_a (by decide) _).trans ((gi_k (by omega) _).trans ((gi_a (by decide) _).trans (z.2))))⟩
        · have z := hi j (by omega) (by omega)
          exact ⟨(gi_a (by decide) _).trans ((gi_a (by decide) _).trans ((gi_a (by decide) _).trans ((gi_k (by omega) _).trans (z.1)))), (gi_a (by decide) _).trans ((gi_a (by decide) _).trans ((gi_k (by omega) _).trans ((gi_a (by decide) _).trans (z.2))))⟩
      have ew : kS (wI (wI (wI (wI h4 24 k.toNat ((gi h 23 0) + l)) 25 k.toNat v) 23 4 ((gi h 23 4) + 1)) 23 3 (gi h 23 0)) 23 = ((kS h 23).1, (kS h 23).2.1, (kS h 23).2.2.1, (kS h 23).1, insO ((kS h 23).1 + l, v) (kS h 23).2.2.2.2.1, (kS h 23).2.2.2.2.2) := by
        unfold kS
        rw [show gi (wI (wI (wI (wI h4 24 k.toNat ((gi h 23 0) + l)) 25 k.toNat v) 23 4 ((gi h 23 4) + 1)) 23 3 (gi h 23 0)) 23 0 = gi h 23 0 from (gi_k (by decide) _).trans ((gi_k (by decide) _).trans ((gi_a (by decide) _).trans ((gi_a (by decide) _).trans (n4)))), show gi (wI (wI (wI (wI h4 24 k.toNat ((gi h 23 0) + l)) 25 k.toNat v) 23 4 ((gi h 23 4) + 1)) 23 3 (gi h 23 0)) 23 1 = gi h 23 1 from (gi_k (by decide) _).trans ((gi_k (by decide) _).trans ((gi_a (by decide) _).trans ((gi_a (by decide) _).trans (FRM_gi hF4 (r := 17) rfl rfl)))), show gi (wI (wI (wI (wI h4 24 k.toNat ((gi h 23 0) + l)) 25 k.toNat v) 23 4 ((gi h 23 4) + 1)) 23 3 (gi h 23 0)) 23 2 = gi h 23 2 from (gi_k (by decide) _).trans ((gi_k (by decide) _).trans ((gi_a (by decide) _).trans ((gi_a (by decide) _).trans (FRM_gi hF4 (r := 17) rfl rfl)))), show gi (wI (wI (wI (wI h4 24 k.toNat ((gi h 23 0) + l)) 25 k.toNat v) 23 4 ((gi h 23 4) + 1)) 23 3 (gi h 23 0)) 23 3 = gi h 23 0 from gi_same (by omega), show gi (wI (wI (wI (wI h4 24 k.toNat ((gi h 23 0) + l)) 25 k.toNat v) 23 4 ((gi h 23 4) + 1)) 23 3 (gi h 23 0)) 23 4 = (gi h 23 4) + 1 from (gi_k (by decide) _).trans (gi_same (by omega)), tn_s g4.1, e5]
        rw [show gi (wI (wI (wI (wI h4 24 k.toNat ((gi h 23 0) + l)) 25 k.toNat v) 23 4 ((gi h 23 4) + 1)) 23 3 (gi h 23 0)) (23 + 3) = gi h (23 + 3) from funext fun j => (gi_a (by decide) _).trans ((gi_a (by decide) _).trans ((gi_a (by decide) _).trans ((gi_a (by decide) _).trans (FRM_gi hF4 (r := 20) rfl rfl)))), show gi (wI (wI (wI (wI h4 24 k.toNat ((gi h 23 0) + l)) 25 k.toNat v) 23 4 ((gi h 23 4) + 1)) 23 3 (gi h 23 0)) (23 + 4) = gi h (23 + 4) from funext fun j => (gi_a (by decide) _).trans ((gi_a (by decide) _).trans ((gi_a (by decide) _).trans ((gi_a (by decide) _).trans (FRM_gi hF4 (r := 21) rfl rfl))))]
      exact x_vret hK rfl ⟨rfl, GD_w0 (GD_w1 (GD_wn (GD_wn (hG4) (r := 18) rfl rfl) (r := 19) rfl rfl) (r := 17) rfl (by omega) rfl (by omega) (by omega)) (r := 17) rfl rfl, FRM_w (FRM_w (FRM_wn 0 11 (FRM_wn 0 11 ((hF4).mono rfl) (r := 18) rfl rfl rfl (by omega) (by omega)) (r := 19) rfl rfl rfl (by omega) (by omega)) (r := 17) rfl rfl) (r := 17) rfl rfl, ew⟩
    · refine x_aload_n 20 hK rfl rfl l0 ?_
      refine x_getR 23 hK rfl rfl (sp_23 (h := h4) hG4) (rf_23_5 (h := h4) hG4) ?_
      refine x_iload_n 24 hK rfl rfl l3 ?_
      refine x_iconst 25 hK rfl rfl ?_
      refine x_isub 26 hK rfl rfl ?_
      have g299 := gi_r h 24 (k - 1).toNat
      refine x_ialoadE 27 hK rfl rfl (sp_24 (h := h4) hG4) (by omega) (by omega) (by omega) (e' := (gi h 24 (k - 1).toNat)) ((lk (by omega)).1) ?_
      refine x_aload_n 28 hK rfl rfl l0 ?_
      have g300 := gi_r h 23 0
      refine x_getE 31 hK rfl (Or.inl rfl) rfl (sp_23 (h := h4) hG4) (e := (gi h 23 0)) (n4) ?_
      refine x_iload_n 32 hK rfl rfl l1 ?_
      refine x_iadd 33 hK rfl rfl ?_
      refine x_if_icmp_le 70 36 hK rfl rfl rfl (by omega) (by omega) (fun c37 => ?_) (fun c37 => ?_)
      · refine x_aload_n 71 hK rfl rfl l0 ?_
        refine x_getR 74 hK rfl rfl (sp_23 (h := h4) hG4) (rf_23_5 (h := h4) hG4) ?_
        refine x_iload_n 75 hK rfl rfl l3 ?_
        refine x_aload_n 76 hK rfl rfl l0 ?_
        refine x_getE 79 hK rfl (Or.inl rfl) rfl (sp_23 (h := h4) hG4) (e := (gi h 23 0)) (n4) ?_
        refine x_iload_n 80 hK rfl rfl l1 ?_
        refine x_iadd 81 hK rfl rfl ?_
        refine x_iastore 82 hK rfl rfl (sp_24 (h := h4) hG4) (by omega) (by omega) (by omega) ?_
        refine x_aload_n 83 hK rfl rfl l0 ?_
        refine x_getR 86 hK rfl rfl (sp_23 (h := h4) hG4) (rf_23_6 (h := h4) hG4) ?_
        refine x_iload_n 87 hK rfl rfl l3 ?_
        refine x_iload_n 88 hK rfl rfl l2 ?_
        refine x_iastore 89 hK rfl rfl (sp_25 (h := h4) hG4) (by omega) (by omega) (by omega) ?_
        refine x_aload_n 90 hK rfl rfl l0 ?_
        refine x_dup 91 hK rfl rfl rfl ?_
        have g301 := gri (0) (12) hG (a := 23) (r := 17) (k := 4) rfl rfl
        refine x_getE 94 hK rfl (Or.inl rfl) rfl (sp_23 (h := h4) hG4) (e := (gi h 23 4)) ((gi_a (by decide) _).trans ((gi_a (by decide) _).trans (n44))) ?_
        refine x_iconst 95 hK rfl rfl ?_
        refine x_iadd 96 hK rfl rfl ?_
        refine x_putI 99 hK rfl rfl (sp_23 (h := h4) hG4) ?_
        refine x_aload_n 100 hK rfl rfl l0 ?_
        refine x_aload_n 101 hK rfl rfl l0 ?_
        refine x_getE 104 hK rfl (Or.inl rfl) rfl (sp_23 (h := h4) hG4) (e := (gi h 23 0)) ((gi_k (by decide) _).trans ((gi_a (by decide) _).trans ((gi_a (by decide) _).trans (n4)))) ?_
        refine x_putI 107 hK rfl rfl (sp_23 (h := h4) hG4) ?_
        have sl : ∀ j : Nat, (j : Int) < k → gi h 24 j ≤ (gi h 23 0 + l) := fun j hj => by
          have y : gi h 24 (k - 1).toNat ≤ (gi h 23 0 + l) := by omega
          exact Int.le_trans (SRT_le (c := 23) hs (show j ≤ (k - 1).toNat by omega) (by omega)) y
        have e5 : kO (wI (wI (wI (wI h4 24 k.toNat ((gi h 23 0) + l)) 25 k.toNat v) 23 4 ((gi h 23 4) + 1)) 23 3 (gi h 23 0)) 23 ((gi h 23 4).toNat + 1) = insO ((gi h 23 0 + l), v) (kO h 23 (gi h 23 4).toNat) := by
          refine kO_ins (k := k.toNat) (by omega) (fun j hj => ?_) ((gi_a (by decide) _).trans ((gi_a (by decide) _).trans ((gi_a (by decide) _).trans (gi_same (by omega))))) ((gi_a (by decide) _).trans ((gi_a (by decide) _).trans (gi_same (by omega)))) (fun j h1 h2 => ?_) (fun j hj => sl j (by omega)) (fun j h1 h2 => bg j (by omega) (by omega))
          · have z := lo j (by omega)
            exact ⟨(gi_a (by decide) _).trans ((gi_a (by decide) _).trans ((gi_a (by decide) _).trans ((gi_k (by omega) _).trans (z.1)))), (gi_a (by decide) _).trans ((gi_a (by decide) _).trans ((gi_k (by omega) _).trans ((gi_a (by decide) _).trans (z.2))))⟩
          · have z := hi j (by omega) (by omega)
            exact ⟨(gi_a (by decide) _).trans ((gi_a (by decide) _).trans ((gi_a (by decide) _).trans ((gi_k (by omega) _).trans (z.1)))), (gi_a (by decide) _).trans ((gi_a (by decide) _).trans ((gi_k (by omega) _).trans ((gi_a (by decide) _).trans (z.2))))⟩
        have ew : kS (wI (wI (wI (wI h4 24 k.toNat ((gi h 23 0) + l)) 25 k.toNat v) 23 4 ((gi h 23 4) + 1)) 23 3 (gi h 23 0)) 23 = ((kS h 23).1, (kS h 23).2.1, (kS h 23).2.2.1, (kS h 23).1, insO ((kS h 23).1 + l, v) (kS h 23).2.2.2.2.1, (kS h 23).2.2.2.2.2) := by
          unfold kS
          rw [show gi (wI (wI (wI (wI h4 24 k.toNat ((gi h 23 0) + l)) 25 k.toNat v) 23 4 ((gi h 23 4) + 1)) 23 3 (gi h 23 0)) 23 0 = gi h 23 0 from (gi_k (by decide) _).trans ((gi_k (by decide) _).trans ((gi_a (by decide) _).trans ((gi_a (by decide) _).trans (n4)))), show gi (wI (wI (wI (wI h4 24 k.toNat ((gi h 23 0) + l)) 25 k.toNat v) 23 4 ((gi h 23 4) + 1)) 23 3 (gi h 23 0)) 23 1 = gi h 23 1 from (gi_k (by decide) _).trans ((gi_k (by decide) _).trans ((gi_a (by decide) _).trans ((gi_a (by decide) _).trans (FRM_gi hF4 (r := 17) rfl rfl)))), show gi (wI (wI (wI (wI h4 24 k.toNat ((gi h 23 0) + l)) 25 k.toNat v) 23 4 ((gi h 23 4) + 1)) 23 3 (gi h 23 0)) 23 2 = gi h 23 2 from (gi_k (by decide) _).trans ((gi_k (by decide) _).trans ((gi_a (by decide) _).trans ((gi_a (by decide) _).trans (FRM_gi hF4 (r := 17) rfl rfl)))), show gi (wI (wI (wI (wI h4 24 k.toNat ((gi h 23 0) + l)) 25 k.toNat v) 23 4 ((gi h 23 4) + 1)) 23 3 (gi h 23 0)) 23 3 = gi h 23 0 from gi_same (by omega), show gi (wI (wI (wI (wI h4 24 k.toNat ((gi h 23 0) + l)) 25 k.toNat v) 23 4 ((gi h 23 4) + 1)) 23 3 (gi h 23 0)) 23 4 = (gi h 23 4) + 1 from (gi_k (by decide) _).trans (gi_same (by omega)), tn_s g4.1, e5]
          rw [show gi (wI (wI (wI (wI h4 24 k.toNat ((gi h 23 0) + l)) 25 k.toNat v) 23 4 ((gi h 23 4) + 1)) 23 3 (gi h 23 0)) (23 + 3) = gi h (23 + 3) from funext fun j => (gi_a (by decide) _).trans ((gi_a (by decide) _).trans ((gi_a (by decide) _).trans ((gi_a (by decide) _).trans (FRM_gi hF4 (r := 20) rfl rfl)))), show gi (wI (wI (wI (wI h4 24 k.toNat ((gi h 23 0) + l)) 25 k.toNat v) 23 4 ((gi h 23 4) + 1)) 23 3 (gi h 23 0)) (23 + 4) = gi h (23 + 4) from funext fun j => (gi_a (by decide) _).trans ((gi_a (by decide) _).trans ((gi_a (by decide) _).trans ((gi_a (by decide) _).trans (FRM_gi hF4 (r := 21) rfl rfl))))]
        exact x_vret hK rfl ⟨rfl, GD_w0 (GD_w1 (GD_wn (GD_wn (hG4) (r := 18) rfl rfl) (r := 19) rfl rfl) (r := 17) rfl (by omega) rfl (by omega) (by omega)) (r := 17) rfl rfl, FRM_w (FRM_w (FRM_wn 0 11 (FRM_wn 0 11 ((hF4).mono rfl) (r := 18) rfl rfl rfl (by omega) (by omega)) (r := 19) rfl rfl rfl (by omega) (by omega)) (r := 17) rfl rfl) (r := 17) rfl rfl, ew⟩
      · refine x_aload_n 37 hK rfl rfl l0 ?_
        refine x_getR 40 hK rfl rfl (sp_23 (h := h4) hG4) (rf_23_5 (h := h4) hG4) ?_
        refine x_iload_n 41 hK rfl rfl l3 ?_
        refine x_aload_n 42 hK rfl rfl l0 ?_
        refine x_getR 45 hK rfl rfl (sp_23 (h := h4) hG4) (rf_23_5 (h := h4) hG4) ?_
        refine x_iload_n 46 hK rfl rfl l3 ?_
        refine x_iconst 47 hK rfl rfl ?_
        refine x_isub 48 hK rfl rfl ?_
        refine x_ialoadE 49 hK rfl rfl (sp_24 (h := h4) hG4) (by omega) (by omega) (by omega) (e' := (gi h 24 (k - 1).toNat)) ((lk (by omega)).1) ?_
        refine x_iastore 50 hK rfl rfl (sp_24 (h := h4) hG4) (by omega) (by omega) (by omega) ?_
        refine x_aload_n 51 hK rfl rfl l0 ?_
        refine x_getR 54 hK rfl rfl (sp_23 (h := h4) hG4) (rf_23_6 (h := h4) hG4) ?_
        refine x_iload_n 55 hK rfl rfl l3 ?_
        refine x_aload_n 56 hK rfl rfl l0 ?_
        refine x_getR 59 hK rfl rfl (sp_23 (h := h4) hG4) (rf_23_6 (h := h4) hG4) ?_
        refine x_iload_n 60 hK rfl rfl l3 ?_
        refine x_iconst 61 hK rfl rfl ?_
        refine x_isub 62 hK rfl rfl ?_
        have g302 := gi_r h 25 (k - 1).toNat
        refine x_ialoadE 63 hK rfl rfl (sp_25 (h := h4) hG4) (by omega) (by omega) (by omega) (e' := (gi h 25 (k - 1).toNat)) ((gi_a (by decide) _).trans ((lk (by omega)).2)) ?_
        refine x_iastore 64 hK rfl rfl (sp_25 (h := h4) hG4) (by omega) (by omega) (by omega) ?_
        refine x_iinc 67 hK rfl rfl l3 _ rfl ?_
        refine x_goto 15 hK rfl rfl ?_
        have ln : ∀ j : Nat, (j : Int) < k - 1 → gi (wI (wI h4 24 k.toNat (gi h 24 (k - 1).toNat)) 25 k.toNat (gi h 25 (k - 1).toNat)) 24 j = gi h 24 j ∧ gi (wI (wI h4 24 k.toNat (gi h 24 (k - 1).toNat)) 25 k.toNat (gi h 25 (k - 1).toNat)) 25 j = gi h 25 j := fun j hj => by
          have z := lo j (by omega)
          exact ⟨((gi_a (by decide) _).trans (gi_k (by omega) _)).trans z.1, ((gi_k (by omega) _).trans (gi_a (by decide) _)).trans z.2⟩
        have hn : ∀ j : Nat, k - 1 ≤ (j : Int) → (j : Int) < (gi h 23 4) → gi (wI (wI h4 24 k.toNat (gi h 24 (k - 1).toNat)) 25 k.toNat (gi h 25 (k - 1).toNat)) 24 (j + 1) = gi h 24 j ∧ gi (wI (wI h4 24 k.toNat (gi h 24 (k - 1).toNat)) 25 k.toNat (gi h 25 (k - 1).toNat)) 25 (j + 1) = gi h 25 j := fun j h1 h2 => by
          by_cases c : (j : Int) = k - 1
          · have e1 : j + 1 = k.toNat := by omega
            have e2 : j = (k - 1).toNat := by omega
            rw [e1, e2]
            exact ⟨(gi_a (by decide) _).trans (gi_same (by omega)), gi_same (by omega)⟩
          · have z := hi j (by omega) h2
            exact ⟨((gi_a (by decide) _).trans (gi_k (by omega) _)).trans z.1, ((gi_k (by omega) _).trans (gi_a (by decide) _)).trans z.2⟩
        have bn : ∀ j : Nat, k - 1 ≤ (j : Int) → (j : Int) < (gi h 23 4) → (gi h 23 0 + l) < gi h 24 j := fun j h1 h2 => by
          by_cases c : (j : Int) = k - 1
          · rw [show j = (k - 1).toNat by omega]; omega
          · exact bg j (by omega) h2
        exact ih _ (by omega) (k + (-1)) _ _ rfl (by omega) (ln) (hn) (bn) (lk1_n l0 (by decide) (Or.inl rfl)) (lk1_n l1 (by decide) (Or.inl rfl)) (lk1_n l2 (by decide) (Or.inl rfl)) lk1_s (GD_wn (GD_wn (hG4) (r := 18) rfl rfl) (r := 19) rfl rfl) (FRM_wn 0 11 (FRM_wn 0 11 (hF4) (r := 18) rfl rfl rfl (by omega) (by omega)) (r := 19) rfl rfl rfl (by omega) (by omega))
  refine x_aload_n 1 hK rfl rfl rfl ?_
  have g303 := gri (0) (12) hG (a := 23) (r := 17) (k := 4) rfl rfl
  refine x_getE 4 hK rfl (Or.inl rfl) rfl (sp_23 (h := h) hG) (e := (gi h 23 4)) (rfl) ?_
  refine x_bipush 6 hK rfl rfl rfl ?_
  refine x_if_icmp_lt 10 9 hK rfl rfl rfl (by omega) (by omega) (fun c4 => ?_) (fun c4 => ?_)
  · refine x_aload_n 11 hK rfl rfl rfl ?_
    refine x_getE 14 hK rfl (Or.inl rfl) rfl (sp_23 (h := h) hG) (e := (gi h 23 4)) (rfl) ?_
    refine x_istore_n 15 hK rfl rfl [(3, .int (I (gi h 23 4))), (0, .ref 23), (1, .int (I l)), (2, .int (I v))] rfl ?_
    exact loop _ (gi h 23 4) _ _ rfl (by omega) (fun _ _ => ⟨rfl, rfl⟩) (fun j h1 h2 => absurd h1 (by omega)) (fun j h1 h2 => absurd h1 (by omega)) rfl rfl rfl rfl (hG) ((FRM.rf : FRM gRL [(0, 18, 0, 11), (0, 19, 0, 11)] h h))
  · exact absurd hn (by omega)
set_option maxRecDepth 4000 in
theorem ctX8_doDueOrders {SP : CT} (hSP : MONO SP) {sh : List (Nat × Nat)} {h : aH} (hG : GD gE gRL sh h) (hb : ∀ j : Nat, (j : Int) < gi h 23 4 → (-1 ≤ gi h 25 j ∧ gi h 25 j ≤ 1) ∧ 0 ≤ gi h 24 j ∧ gi h 24 j ≤ 2000000) (hw : 0 ≤ gi h 23 0 ∧ gi h 23 0 ≤ 1000000) : CLd SP 3 mX8_doDueOrders [.ref 23] h 0 0 (fun rv h' => rv = none ∧ GD gE gRL sh h' ∧ FRM gRL [(0, 17, 1, 1), (0, 17, 4, 4), (0, 18, 0, 11), (0, 19, 0, 11)] h h' ∧ kS h' 23 = ((kS h 23).1, ((kO h 23 (gi h 23 4).toNat).takeWhile (fun q => decide (q.1 ≤ gi h 23 0))).foldl cpt (kS h 23).2.1, (kS h 23).2.2.1, (kS h 23).2.2.2.1, (kO h 23 (gi h 23 4).toNat).dropWhile (fun q => decide (q.1 ≤ gi h 23 0)), (kS h 23).2.2.2.2.2)) := by
  refine x_met _ rfl (Nat.le_of_ble_eq_true rfl) (fun K hK => ?_)
  have hmono := MONO_CLd hSP 2
  have g4 := gri 0 12 hG (a := 23) (r := 17) (k := 4) rfl rfl
  have g1 := gri 0 8 hG (a := 23) (r := 17) (k := 1) rfl rfl
  have loop : ∀ (mz : Nat) (k : Int) (h4 : aH) (ls : List (Nat × Value)), (((gi h 23 4) - k).toNat = mz) → (0 ≤ k ∧ k ≤ (gi h 23 4)) → (gi h4 23 1 = (kO h 23 k.toNat).foldl cpt (gi h 23 1)) → (∀ j : Nat, (j : Int) < k → gi h 24 j ≤ gi h 23 0) → lk ls 0 = some (.ref 23) → lk ls 1 = some (.int (I k)) → GD gE gRL sh h4 → FRM gRL [(0, 17, 1, 1)] h h4 → K 2 ls [] h4 0 0 := by
    intro mz
    induction mz using Nat.strongRecOn with
    | ind mz ih =>
    intro k h4 ls hm k0 ln al l0 l1 hG4 hF4
    have lb := cpF_b g1 (kO h 23 k.toNat)
    have hbk := fun z : k < gi h 23 4 => hb k.toNat (by omega)
    refine x_iload_n 3 hK rfl rfl l1 ?_
    refine x_aload_n 4 hK rfl rfl l0 ?_
    have g304 := gri (0) (12) hG (a := 23) (r := 17) (k := 4) rfl rfl
    refine x_getE 7 hK rfl (Or.inl rfl) rfl (sp_23 (h := h4) hG4) (e := (gi h 23 4)) (FRM_gi hF4 (r := 17) rfl rfl) ?_
    refine x_if_icmp_ge 47 10 hK rfl rfl rfl (by omega) (by omega) (fun c4 => ?_) (fun c4 => ?_)
    · refine x_aload_n 48 hK rfl rfl l0 ?_
      refine x_dup 49 hK rfl rfl rfl ?_
      refine x_getE 52 hK rfl (Or.inl rfl) rfl (sp_23 (h := h4) hG4) (e := (gi h 23 4)) (FRM_gi hF4 (r := 17) rfl rfl) ?_
      refine x_iload_n 53 hK rfl rfl l1 ?_
      refine x_isub 54 hK rfl rfl ?_
      refine x_putI 57 hK rfl rfl (sp_23 (h := h4) hG4) ?_
      refine x_aload_n 58 hK rfl rfl l0 ?_
      refine x_getR 61 hK rfl rfl (sp_23 (h := h4) hG4) (rf_23_5 (h := h4) hG4) ?_
      refine x_iload_n 62 hK rfl rfl l1 ?_
      refine x_aload_n 63 hK rfl rfl l0 ?_
      refine x_getR 66 hK rfl rfl (sp_23 (h := h4) hG4) (rf_23_5 (h := h4) hG4) ?_
      refine x_iconst 67 hK rfl rfl ?_
      refine x_aload_n 68 hK rfl rfl l0 ?_
      refine x_getE 71 hK rfl (Or.inl rfl) rfl (sp_23 (h := h4) hG4) (e := ((gi h 23 4) - k)) (gi_same (by omega)) ?_
      refine x_acp 74 hK rfl rfl (by decide) (sp_24 (h := h4) hG4) (sp_24 (h := h4) hG4) (by omega) (by omega) (by omega) (by omega) (by omega) ?_
      obtain ⟨h305, e305⟩ : ∃ z, z = sC (wI h4 23 4 ((gi h 23 4) - k)) 24 (Int.toNat k) 24 (Int.toNat 0) (Int.toNat ((gi h 23 4) - k)) := ⟨_, rfl⟩
      rw [← e305]
      have hG305 : GD gE gRL sh h305 := by rw [e305]; exact GD_C (GD_w1 (hG4) (r := 17) rfl (by omega) rfl (by omega) (by omega)) (r := 18) rfl rfl
      have hF305 : FRM gRL [(0, 18, 0, 11)] (wI h4 23 4 ((gi h 23 4) - k)) h305 := by rw [e305]; exact FRM_C FRM.rf (r := 18) rfl fun k k1 k2 => mIn_r (x := 0) (y := 11) (by decide) k (by omega) (by omega)
      have oc305 : ∀ a9 k9, a9 ≠ 24 → gi h305 a9 k9 = gi (wI h4 23 4 ((gi h 23 4) - k)) a9 k9 := fun a9 k9 ha => by rw [e305]; exact gi_sCn ha k9
      have cc305 : ∀ j9, gi h305 24 j9 = if (Int.toNat 0) ≤ j9 ∧ j9 < (Int.toNat 0) + (Int.toNat ((gi h 23 4) - k)) then gi (wI h4 23 4 ((gi h 23 4) - k)) 24 ((Int.toNat k) + (j9 - (Int.toNat 0))) else gi (wI h4 23 4 ((gi h 23 4) - k)) 24 j9 := fun j9 => by rw [e305]; exact gi_sC j9
      refine x_aload_n 75 hK rfl rfl l0 ?_
      refine x_getR 78 hK rfl rfl (sp_23 (h := h305) hG305) (rf_23_6 (h := h305) hG305) ?_
      refine x_iload_n 79 hK rfl rfl l1 ?_
      refine x_aload_n 80 hK rfl rfl l0 ?_
      refine x_getR 83 hK rfl rfl (sp_23 (h := h305) hG305) (rf_23_6 (h := h305) hG305) ?_
      refine x_iconst 84 hK rfl rfl ?_
      refine x_aload_n 85 hK rfl rfl l0 ?_
      refine x_getE 88 hK rfl (Or.inl rfl) rfl (sp_23 (h := h305) hG305) (e := ((gi h 23 4) - k)) ((FRM_gi hF305 (r := 17) rfl rfl).trans (gi_same (by omega))) ?_
      refine x_acp 91 hK rfl rfl (by decide) (sp_25 (h := h305) hG305) (sp_25 (h := h305) hG305) (by omega) (by omega) (by omega) (by omega) (by omega) ?_
      obtain ⟨h306, e306⟩ : ∃ z, z = sC h305 25 (Int.toNat k) 25 (Int.toNat 0) (Int.toNat ((gi h 23 4) - k)) := ⟨_, rfl⟩
      rw [← e306]
      have hG306 : GD gE gRL sh h306 := by rw [e306]; exact GD_C (hG305) (r := 19) rfl rfl
      have hF306 : FRM gRL [(0, 19, 0, 11)] h305 h306 := by rw [e306]; exact FRM_C FRM.rf (r := 19) rfl fun k k1 k2 => mIn_r (x := 0) (y := 11) (by decide) k (by omega) (by omega)
      have oc306 : ∀ a9 k9, a9 ≠ 25 → gi h306 a9 k9 = gi h305 a9 k9 := fun a9 k9 ha => by rw [e306]; exact gi_sCn ha k9
      have cc306 : ∀ j9, gi h306 25 j9 = if (Int.toNat 0) ≤ j9 ∧ j9 < (Int.toNat 0) + (Int.toNat ((gi h 23 4) - k)) then gi h305 25 ((Int.toNat k) + (j9 - (Int.toNat 0))) else gi h305 25 j9 := fun j9 => by rw [e306]; exact gi_sC j9
      have tw := tw_at (p := (fun q => decide (q.1 ≤ gi h 23 0))) (L := (kO h 23 (gi h 23 4).toNat)) (k := k.toNat) (by rw [kO_l]; omega) (fun j q hj hq => by rw [kO_at (by omega)] at hq; cases hq; exact decide_eq_true (al j (by omega))) (fun q hq => by
        by_cases c : k < (gi h 23 4)
        · rw [kO_at (by omega)] at hq; cases hq; exact decide_eq_false (by show ¬ gi h 24 k.toNat ≤ gi h 23 0; omega)
        · rw [List.getElem?_eq_none (by rw [kO_l]; omega)] at hq; cases hq)
      have c1 : ∀ j, j < ((gi h 23 4) - k).toNat → gi h306 24 j = gi h 24 (k.toNat + j) := fun j hj => (oc306 _ j (by decide)).trans ((cc305 j).trans ((if_pos (by omega)).trans ((gi_to (show Int.toNat k + (j - Int.toNat 0) = k.toNat + j by omega)).trans ((gi_a (by decide) _).trans (FRM_gi hF4 (r := 18) rfl rfl)))))
      have c2 : ∀ j, j < ((gi h 23 4) - k).toNat → gi h306 25 j = gi h 25 (k.toNat + j) := fun j hj => (cc306 j).trans ((if_pos (by omega)).trans ((gi_to (show Int.toNat k + (j - Int.toNat 0) = k.toNat + j by omega)).trans ((oc305 _ _ (by decide)).trans ((gi_a (by decide) _).trans (FRM_gi hF4 (r := 19) rfl rfl)))))
      have e5 : kO h306 23 ((gi h 23 4) - k).toNat = (kO h 23 (gi h 23 4).toNat).drop k.toNat := by
        rw [kO_drop h 23 k.toNat (gi h 23 4).toNat (by omega), show (gi h 23 4).toNat - k.toNat = ((gi h 23 4) - k).toNat by omega]
        unfold kO
        exact List.map_congr_left fun j hj => by rw [c1 j (List.mem_range.mp hj), c2 j (List.mem_range.mp hj)]
      have ew : kS h306 23 = ((kS h 23).1, ((kO h 23 (gi h 23 4).toNat).takeWhile (fun q => decide (q.1 ≤ gi h 23 0))).foldl cpt (kS h 23).2.1, (kS h 23).2.2.1, (kS h 23).2.2.2.1, (kO h 23 (gi h 23 4).toNat).dropWhile (fun q => decide (q.1 ≤ gi h 23 0)), (kS h 23).2.2.2.2.2) := by
        rw [tw.1, tw.2, kO_take h 23 k.toNat (gi h 23 4).toNat (by omega)]
        unfold kS
        rw [show gi h306 23 0 = gi h 23 0 from (FRM_gi hF306 (r := 17) rfl rfl).trans ((FRM_gi hF305 (r := 17) rfl rfl).trans ((gi_k (by decide) _).trans (FRM_gi hF4 (r := 17) rfl rfl))), show gi h306 23 1 = (kO h 23 k.toNat).foldl cpt (gi h 23 1) from (FRM_gi hF306 (r := 17) rfl rfl).trans ((FRM_gi hF305 (r := 17) rfl rfl).trans ((gi_k (by decide) _).trans (ln))), show gi h306 23 2 = gi h 23 2 from (FRM_gi hF306 (r := 17) rfl rfl).trans ((FRM_gi hF305 (r := 17) rfl rfl).trans ((gi_k (by decide) _).trans (FRM_gi hF4 (r := 17) rfl rfl))), show gi h306 23 3 = gi h 23 3 from (FRM_gi hF306 (r := 17) rfl rfl).trans ((FRM_gi hF305 (r := 17) rfl rfl).trans ((gi_k (by decide) _).trans (FRM_gi hF4 (r := 17) rfl rfl))), show gi h306 23 4 = (gi h 23 4) - k from (FRM_gi hF306 (r := 17) rfl rfl).trans ((FRM_gi hF305 (r := 17) rfl rfl).trans (gi_same (by omega))), e5]
        rw [show gi h306 (23 + 3) = gi h (23 + 3) from funext fun j => (FRM_gi hF306 (r := 20) rfl rfl).trans ((FRM_gi hF305 (r := 20) rfl rfl).trans ((gi_a (by decide) _).trans (FRM_gi hF4 (r := 20) rfl rfl))), show gi h306 (23 + 4) = gi h (23 + 4) from funext fun j => (FRM_gi hF306 (r := 21) rfl rfl).trans ((FRM_gi hF305 (r := 21) rfl rfl).trans ((gi_a (by decide) _).trans (FRM_gi hF4 (r := 21) rfl rfl)))]
      exact x_vret hK rfl ⟨rfl, hG306, ((FRM_w ((hF4).mono rfl) (r := 17) rfl rfl).trans ((hF305).mono rfl)).trans ((hF306).mono rfl), ew⟩
    · refine x_aload_n 11 hK rfl rfl l0 ?_
      refine x_getR 14 hK rfl rfl (sp_23 (h := h4) hG4) (rf_23_5 (h := h4) hG4) ?_
      refine x_iload_n 15 hK rfl rfl l1 ?_
      have g307 := gi_r h 24 k.toNat
      refine x_ialoadE 16 hK rfl rfl (sp_24 (h := h4) hG4) (by omega) (by omega) (by omega) (e' := (gi h 24 k.toNat)) (FRM_gi hF4 (r := 18) rfl rfl) ?_
      refine x_aload_n 17 hK rfl rfl l0 ?_
      have g308 := gi_r h 23 0
      refine x_getE 20 hK rfl (Or.inl rfl) rfl (sp_23 (h := h4) hG4) (e := (gi h 23 0)) (FRM_gi hF4 (r := 17) rfl rfl) ?_
      refine x_if_icmp_gt 47 23 hK rfl rfl rfl (by omega) (by omega) (fun c36 => ?_) (fun c36 => ?_)
      · refine x_aload_n 48 hK rfl rfl l0 ?_
        refine x_dup 49 hK rfl rfl rfl ?_
        refine x_getE 52 hK rfl (Or.inl rfl) rfl (sp_23 (h := h4) hG4) (e := (gi h 23 4)) (FRM_gi hF4 (r := 17) rfl rfl) ?_
        refine x_iload_n 53 hK rfl rfl l1 ?_
        refine x_isub 54 hK rfl rfl ?_
        refine x_putI 57 hK rfl rfl (sp_23 (h := h4) hG4) ?_
        refine x_aload_n 58 hK rfl rfl l0 ?_
        refine x_getR 61 hK rfl rfl (sp_23 (h := h4) hG4) (rf_23_5 (h := h4) hG4) ?_
        refine x_iload_n 62 hK rfl rfl l1 ?_
        refine x_aload_n 63 hK rfl rfl l0 ?_
        refine x_getR 66 hK rfl rfl (sp_23 (h := h4) hG4) (rf_23_5 (h := h4) hG4) ?_
        refine x_iconst 67 hK rfl rfl ?_
        refine x_aload_n 68 hK rfl rfl l0 ?_
        refine x_getE 71 hK rfl (Or.inl rfl) rfl (sp_23 (h := h4) hG4) (e := ((gi h 23 4) - k)) (gi_same (by omega)) ?_
        refine x_acp 74 hK rfl rfl (by decide) (sp_24 (h := h4) hG4) (sp_24 (h := h4) hG4) (by omega) (by omega) (by omega) (by omega) (by omega) ?_
        obtain ⟨h309, e309⟩ : ∃ z, z = sC (wI h4 23 4 ((gi h 23 4) - k)) 24 (Int.toNat k) 24 (Int.toNat 0) (Int.toNat ((gi h 23 4) - k)) := ⟨_, rfl⟩
        rw [← e309]
        have hG309 : GD gE gRL sh h309 := by rw [e309]; exact GD_C (GD_w1 (hG4) (r := 17) rfl (by omega) rfl (by omega) (by omega)) (r := 18) rfl rfl
        have hF309 : FRM gRL [(0, 18, 0, 11)] (wI h4 23 4 ((gi h 23 4) - k)) h309 := by rw [e309]; exact FRM_C FRM.rf (r := 18) rfl fun k k1 k2 => mIn_r (x := 0) (y := 11) (by decide) k (by omega) (by omega)
        have oc309 : ∀ a9 k9, a9 ≠ 24 → gi h309 a9 k9 = gi (wI h4 23 4 ((gi h 23 4) - k)) a9 k9 := fun a9 k9 ha => by rw [e309]; exact gi_sCn ha k9
        have cc309 : ∀ j9, gi h309 24 j9 = if (Int.toNat 0) ≤ j9 ∧ j9 < (Int.toNat 0) + (Int.toNat ((gi h 23 4) - k)) then gi (wI h4 23 4 ((gi h 23 4) - k)) 24 ((Int.toNat k) + (j9 - (Int.toNat 0))) else gi (wI h4 23 4 ((gi h 23 4) - k)) 24 j9 := fun j9 => by rw [e309]; exact gi_sC j9
        refine x_aload_n 75 hK rfl rfl l0 ?_
        refine x_getR 78 hK rfl rfl (sp_23 (h := h309) hG309) (rf_23_6 (h := h309) hG309) ?_
        refine x_iload_n 79 hK rfl rfl l1 ?_
        refine x_aload_n 80 hK rfl rfl l0 ?_
        refine x_getR 83 hK rfl rfl (sp_23 (h := h309) hG309) (rf_23_6 (h := h309) hG309) ?_
        refine x_iconst 84 hK rfl rfl ?_
        refine x_aload_n 85 hK rfl rfl l0 ?_
        refine x_getE 88 hK rfl (Or.inl rfl) rfl (sp_23 (h := h309) hG309) (e := ((gi h 23 4) - k)) ((FRM_gi hF309 (r := 17) rfl rfl).trans (gi_same (by omega))) ?_
        refine x_acp 91 hK rfl rfl (by decide) (sp_25 (h := h309) hG309) (sp_25 (h := h309) hG309) (by omega) (by omega) (by omega) (by omega) (by omega) ?_
        obtain ⟨h310, e310⟩ : ∃ z, z = sC h309 25 (Int.toNat k) 25 (Int.toNat 0) (Int.toNat ((gi h 23 4) - k)) := ⟨_, rfl⟩
        rw [← e310]
        have hG310 : GD gE gRL sh h310 := by rw [e310]; exact GD_C (hG309) (r := 19) rfl rfl
        have hF310 : FRM gRL [(0, 19, 0, 11)] h309 h310 := by rw [e310]; exact FRM_C FRM.rf (r := 19) rfl fun k k1 k2 => mIn_r (x := 0) (y := 11) (by decide) k (by omega) (by omega)
        have oc310 : ∀ a9 k9, a9 ≠ 25 → gi h310 a9 k9 = gi h309 a9 k9 := fun a9 k9 ha => by rw [e310]; exact gi_sCn ha k9
        have cc310 : ∀ j9, gi h310 25 j9 = if (Int.toNat 0) ≤ j9 ∧ j9 < (Int.toNat 0) + (Int.toNat ((gi h 23 4) - k)) then gi h309 25 ((Int.toNat k) + (j9 - (Int.toNat 0))) else gi h309 25 j9 := fun j9 => by rw [e310]; exact gi_sC j9
        have tw := tw_at (p := (fun q => decide (q.1 ≤ gi h 23 0))) (L := (kO h 23 (gi h 23 4).toNat)) (k := k.toNat) (by rw [kO_l]; omega) (fun j q hj hq => by rw [kO_at (by omega)] at hq; cases hq; exact decide_eq_true (al j (by omega))) (fun q hq => by
          by_cases c : k < (gi h 23 4)
          · rw [kO_at (by omega)] at hq; cases hq; exact decide_eq_false (by show ¬ gi h 24 k.toNat ≤ gi h 23 0; omega)
          · rw [List.getElem?_eq_none (by rw [kO_l]; omega)] at hq; cases hq)
        have c1 : ∀ j, j < ((gi h 23 4) - k).toNat → gi h310 24 j = gi h 24 (k.toNat + j) := fun j hj => (oc310 _ j (by decide)).trans ((cc309 j).trans ((if_pos (by omega)).trans ((gi_to (show Int.toNat k + (j - Int.toNat 0) = k.toNat + j by omega)).trans ((gi_a (by decide) _).trans (FRM_gi hF4 (r := 18) rfl rfl)))))
        have c2 : ∀ j, j < ((gi h 23 4) - k).toNat → gi h310 25 j = gi h 25 (k.toNat + j) := fun j hj => (cc310 j).trans ((if_pos (by omega)).trans ((gi_to (show Int.toNat k + (j - Int.toNat 0) = k.toNat + j by omega)).trans ((oc309 _ _ (by decide)).trans ((gi_a (by decide) _).trans (FRM_gi hF4 (r := 19) rfl rfl)))))
        have e5 : kO h310 23 ((gi h 23 4) - k).toNat = (kO h 23 (gi h 23 4).toNat).drop k.toNat := by
          rw [kO_drop h 23 k.toNat (gi h 23 4).toNat (by omega), show (gi h 23 4).toNat - k.toNat = ((gi h 23 4) - k).toNat by omega]
          unfold kO
          exact List.map_congr_left fun j hj => by rw [c1 j (List.mem_range.mp hj), c2 j (List.mem_range.mp hj)]
        have ew : kS h310 23 = ((kS h 23).1, ((kO h 23 (gi h 23 4).toNat).takeWhile (fun q => decide (q.1 ≤ gi h 23 0))).foldl cpt (kS h 23).2.1, (kS h 23).2.2.1, (kS h 23).2.2.2.1, (kO h 23 (gi h 23 4).toNat).dropWhile (fun q => decide (q.1 ≤ gi h 23 0)), (kS h 23).2.2.2.2.2) := by
          rw [tw.1, tw.2, kO_take h 23 k.toNat (gi h 23 4).toNat (by omega)]
          unfold kS
          rw [show gi h310 23 0 = gi h 23 0 from (FRM_gi hF310 (r := 17) rfl rfl).trans ((FRM_gi hF309 (r := 17) rfl rfl).trans ((gi_k (by decide) _).trans (FRM_gi hF4 (r := 17) rfl rfl))), show gi h310 23 1 = (kO h 23 k.toNat).foldl cpt (gi h 23 1) from (FRM_gi hF310 (r := 17) rfl rfl).trans ((FRM_gi hF309 (r := 17) rfl rfl).trans ((gi_k (by decide) _).trans (ln))), show gi h310 23 2 = gi h 23 2 from (FRM_gi hF310 (r := 17) rfl rfl).trans ((FRM_gi hF309 (r := 17) rfl rfl).trans ((gi_k (by decide) _).trans (FRM_gi hF4 (r := 17) rfl rfl))), show gi h310 23 3 = gi h 23 3 from (FRM_gi hF310 (r := 17) rfl rfl).trans ((FRM_gi hF309 (r := 17) rfl rfl).trans ((gi_k (by decide) _).trans (FRM_gi hF4 (r := 17) rfl rfl))), show gi h310 23 4 = (gi h 23 4) - k from (FRM_gi hF310 (r := 17) rfl rfl).trans ((FRM_gi hF309 (r := 17) rfl rfl).trans (gi_same (by omega))), e5]
          rw [show gi h310 (23 + 3) = gi h (23 + 3) from funext fun j => (FRM_gi hF310 (r := 20) rfl rfl).trans ((FRM_gi hF309 (r := 20) rfl rfl).trans ((gi_a (by decide) _).trans (FRM_gi hF4 (r := 20) rfl rfl))), show gi h310 (23 + 4) = gi h (23 + 4) from funext fun j => (FRM_gi hF310 (r := 21) rfl rfl).trans ((FRM_gi hF309 (r := 21) rfl rfl).trans ((gi_a (by decide) _).trans (FRM_gi hF4 (r := 21) rfl rfl)))]
        exact x_vret hK rfl ⟨rfl, hG310, ((FRM_w ((hF4).mono rfl) (r := 17) rfl rfl).trans ((hF309).mono rfl)).trans ((hF310).mono rfl), ew⟩
      · refine x_aload_n 24 hK rfl rfl l0 ?_
        refine x_aload_n 25 hK rfl rfl l0 ?_
        refine x_getE 28 hK rfl (Or.inl rfl) rfl (sp_23 (h := h4) hG4) (e := ((kO h 23 k.toNat).foldl cpt (gi h 23 1))) (ln) ?_
        refine x_aload_n 29 hK rfl rfl l0 ?_
        refine x_getR 32 hK rfl rfl (sp_23 (h := h4) hG4) (rf_23_6 (h := h4) hG4) ?_
        refine x_iload_n 33 hK rfl rfl l1 ?_
        have g311 := gi_r h 25 k.toNat
        refine x_ialoadE 34 hK rfl rfl (sp_25 (h := h4) hG4) (by omega) (by omega) (by omega) (e' := (gi h 25 k.toNat)) (FRM_gi hF4 (r := 19) rfl rfl) ?_
        refine x_iadd 35 hK rfl rfl ?_
        refine x_callS 38 hK hmono rfl (Or.inr rfl) rfl [.int (I (((kO h 23 k.toNat).foldl cpt (gi h 23 1)) + (gi h 25 k.toNat)))] [.ref 23] rfl rfl (Nat.le_of_ble_eq_true rfl) (Nat.le_of_ble_eq_true rfl) (CLd_le (Nat.le_of_ble_eq_true rfl) (ctX10_keepOnSea hSP (v := (((kO h 23 k.toNat).foldl cpt (gi h 23 1)) + (gi h 25 k.toNat))) (by omega))) ?_
        rintro v9 h9 ⟨e9, rfl⟩
        rw [e9]
        clear e9
        refine x_putI 41 hK rfl rfl (sp_23 (h := h4) hG4) ?_
        refine x_iinc 44 hK rfl rfl l1 _ rfl ?_
        refine x_goto 2 hK rfl rfl ?_
        exact ih _ (by omega) (k + 1) _ _ rfl (by omega) ((by rw [tn_s k0.1, kO_s, List.foldl_append]; exact gi_same (by omega))) (fun j hj => by
          by_cases c : (j : Int) = k
          · rw [show j = k.toNat by omega]; omega
          · exact al j (by omega)) (lk1_n l0 (by decide) (Or.inl rfl)) lk1_s (GD_w1 (hG4) (r := 17) rfl (by omega) rfl (by omega) (by omega)) (FRM_w (hF4) (r := 17) rfl rfl)
  refine x_iconst 1 hK rfl rfl ?_
  refine x_istore_n 2 hK rfl rfl [(1, .int (I 0)), (0, .ref 23)] rfl ?_
  exact loop _ 0 _ _ rfl (by omega) (rfl) (fun j h1 => absurd h1 (by omega)) rfl rfl (hG) ((FRM.rf : FRM gRL [(0, 17, 1, 1)] h h))
set_option maxRecDepth 4000 in
theorem ctX8_laneIn {SP : CT} (hSP : MONO SP) {sh : List (Nat × Nat)} {h : aH} (hG : GD gE gRL sh h) {n : Int} (rn : r32 n) (hb : ∀ j : Nat, (j : Int) < gi h 23 4 → (-1 ≤ gi h 25 j ∧ gi h 25 j ≤ 1) ∧ 0 ≤ gi h 24 j ∧ gi h 24 j ≤ 2000000) (hw : 0 ≤ gi h 23 0 ∧ gi h 23 0 ≤ 1000000) : CLd SP 3 mX8_laneIn [.ref 23, .int (I n)] h 0 0 (fun rv h' => h' = h ∧ rv = some (.int (I (((kO h 23 (gi h 23 4).toNat).takeWhile (fun q => decide (q.1 - gi h 23 0 ≤ n))).foldl cpt (gi h 23 1))))) := by
  refine x_met _ rfl (Nat.le_of_ble_eq_true rfl) (fun K hK => ?_)
  have hmono := MONO_CLd hSP 2
  have g4 := gri 0 12 hG (a := 23) (r := 17) (k := 4) rfl rfl
  have g1 := gri 0 8 hG (a := 23) (r := 17) (k := 1) rfl rfl
  have loop : ∀ (mz : Nat) (l k : Int) (ls : List (Nat × Value)), (((gi h 23 4) - k).toNat = mz) → (0 ≤ k ∧ k ≤ (gi h 23 4)) → (l = (kO h 23 k.toNat).foldl cpt (gi h 23 1)) → (∀ j : Nat, (j : Int) < k → gi h 24 j - gi h 23 0 ≤ n) → lk ls 0 = some (.ref 23) → lk ls 1 = some (.int (I n)) → lk ls 2 = some (.int (I l)) → lk ls 3 = some (.int (I k)) → K 7 ls [] h 0 0 := by
    intro mz
    induction mz using Nat.strongRecOn with
    | ind mz ih =>
    intro l k ls hm k0 ln al l0 l1 l2 l3
    have lb := cpF_b g1 (kO h 23 k.toNat)
    have hbk := fun z : k < gi h 23 4 => hb k.toNat (by omega)
    refine x_iload_n 8 hK rfl rfl l3 ?_
    refine x_aload_n 9 hK rfl rfl l0 ?_
    have g312 := gri (0) (12) hG (a := 23) (r := 17) (k := 4) rfl rfl
    refine x_getE 12 hK rfl (Or.inl rfl) rfl (sp_23 (h := h) hG) (e := (gi h 23 4)) (rfl) ?_
    refine x_if_icmp_ge 48 15 hK rfl rfl rfl (by omega) (by omega) (fun c4 => ?_) (fun c4 => ?_)
    · refine x_iload_n 49 hK rfl rfl l2 ?_
      have tw := tw_at (p := (fun q => decide (q.1 - gi h 23 0 ≤ n))) (L := (kO h 23 (gi h 23 4).toNat)) (k := k.toNat) (by rw [kO_l]; omega) (fun j q hj hq => by rw [kO_at (by omega)] at hq; cases hq; exact decide_eq_true (al j (by omega))) (fun q hq => by
        by_cases c : k < (gi h 23 4)
        · rw [kO_at (by omega)] at hq; cases hq; exact decide_eq_false (by show ¬ gi h 24 k.toNat - gi h 23 0 ≤ n; omega)
        · rw [List.getElem?_eq_none (by rw [kO_l]; omega)] at hq; cases hq)
      exact x_iret hK rfl ⟨rfl, by rw [tw.1, kO_take h 23 k.toNat (gi h 23 4).toNat (by omega), ln]⟩
    · refine x_aload_n 16 hK rfl rfl l0 ?_
      refine x_getR 19 hK rfl rfl (sp_23 (h := h) hG) (rf_23_5 (h := h) hG) ?_
      refine x_iload_n 20 hK rfl rfl l3 ?_
      have g313 := gi_r h 24 k.toNat
      refine x_ialoadE 21 hK rfl rfl (sp_24 (h := h) hG) (by omega) (by omega) (by omega) (e' := (gi h 24 k.toNat)) (rfl) ?_
      refine x_aload_n 22 hK rfl rfl l0 ?_
      have g314 := gi_r h 23 0
      refine x_getE 25 hK rfl (Or.inl rfl) rfl (sp_23 (h := h) hG) (e := (gi h 23 0)) (rfl) ?_
      refine x_isub 26 hK rfl rfl ?_
      refine x_iload_n 27 hK rfl rfl l1 ?_
      refine x_if_icmp_gt 48 30 hK rfl rfl rfl (by omega) (by omega) (fun c15 => ?_) (fun c15 => ?_)
      · refine x_iload_n 49 hK rfl rfl l2 ?_
        have tw := tw_at (p := (fun q => decide (q.1 - gi h 23 0 ≤ n))) (L := (kO h 23 (gi h 23 4).toNat)) (k := k.toNat) (by rw [kO_l]; omega) (fun j q hj hq => by rw [kO_at (by omega)] at hq; cases hq; exact decide_eq_true (al j (by omega))) (fun q hq => by
          by_cases c : k < (gi h 23 4)
          · rw [kO_at (by omega)] at hq; cases hq; exact decide_eq_false (by show ¬ gi h 24 k.toNat - gi h 23 0 ≤ n; omega)
          · rw [List.getElem?_eq_none (by rw [kO_l]; omega)] at hq; cases hq)
        exact x_iret hK rfl ⟨rfl, by rw [tw.1, kO_take h 23 k.toNat (gi h 23 4).toNat (by omega), ln]⟩
      · refine x_iload_n 31 hK rfl rfl l2 ?_
        refine x_aload_n 32 hK rfl rfl l0 ?_
        refine x_getR 35 hK rfl rfl (sp_23 (h := h) hG) (rf_23_6 (h := h) hG) ?_
        refine x_iload_n 36 hK rfl rfl l3 ?_
        have g315 := gi_r h 25 k.toNat
        refine x_ialoadE 37 hK rfl rfl (sp_25 (h := h) hG) (by omega) (by omega) (by omega) (e' := (gi h 25 k.toNat)) (rfl) ?_
        refine x_iadd 38 hK rfl rfl ?_
        refine x_callS 41 hK hmono rfl (Or.inr rfl) rfl [.int (I (l + (gi h 25 k.toNat)))] [] rfl rfl (Nat.le_of_ble_eq_true rfl) (Nat.le_of_ble_eq_true rfl) (CLd_le (Nat.le_of_ble_eq_true rfl) (ctX10_keepOnSea hSP (v := (l + (gi h 25 k.toNat))) (by omega))) ?_
        rintro v9 h9 ⟨e9, rfl⟩
        rw [e9]
        clear e9
        refine x_istore_n 42 hK rfl rfl _ rfl ?_
        refine x_iinc 45 hK rfl rfl (lk1_n l3 (by decide) (Or.inl rfl)) _ rfl ?_
        refine x_goto 7 hK rfl rfl ?_
        exact ih _ (by omega) (max 0 (min 8 (l + (gi h 25 k.toNat)))) (k + 1) _ rfl (by omega) ((by rw [tn_s k0.1, kO_s, List.foldl_append, ← ln]; rfl)) (fun j hj => by
          by_cases c : (j : Int) = k
          · rw [show j = k.toNat by omega]; omega
          · exact al j (by omega)) (lk1_n (lk1_n l0 (by decide) (Or.inl rfl)) (by decide) (Or.inl rfl)) (lk1_n (lk1_n l1 (by decide) (Or.inl rfl)) (by decide) (Or.inl rfl)) (lk1_n lk1_s (by decide) (Or.inl rfl)) lk1_s
  refine x_aload_n 1 hK rfl rfl rfl ?_
  have g316 := gri (0) (8) hG (a := 23) (r := 17) (k := 1) rfl rfl
  refine x_getE 4 hK rfl (Or.inl rfl) rfl (sp_23 (h := h) hG) (e := (gi h 23 1)) (rfl) ?_
  refine x_istore_n 5 hK rfl rfl [(2, .int (I (gi h 23 1))), (0, .ref 23), (1, .int (I n))] rfl ?_
  refine x_iconst 6 hK rfl rfl ?_
  refine x_istore_n 7 hK rfl rfl [(3, .int (I 0)), (2, .int (I (gi h 23 1))), (0, .ref 23), (1, .int (I n))] rfl ?_
  exact loop _ (gi h 23 1) 0 _ rfl (by omega) (rfl) (fun j h1 => absurd h1 (by omega)) rfl rfl rfl rfl
set_option maxRecDepth 4000 in
theorem ctX8_eat {SP : CT} (hSP : MONO SP) {sh : List (Nat × Nat)} {h : aH} (hG : GD gE gRL sh h) {m e : Int} (hm : 0 ≤ m ∧ m < 8) (he : 0 ≤ e ∧ e ≤ 9) (hf : 0 ≤ gi h 26 m.toNat ∧ gi h 26 m.toNat ≤ 99) (hu : 0 ≤ gi h 27 m.toNat ∧ gi h 27 m.toNat ≤ 1000000) : CLd SP 1 mX8_eat [.ref 23, .int (I m), .int (I e)] h 0 0 (fun rv h' => rv = some (.int (I (if gi h 26 m.toNat < e then 0 else 1))) ∧ GD gE gRL sh h' ∧ FRM gRL [(0, 20, 0, 7), (0, 21, 0, 7)] h h' ∧ (∀ j, gi h' 26 j = if j = m.toNat then fdS (gi h 26 m.toNat) e else gi h 26 j) ∧ ∀ j, gi h' 27 j = if j = m.toNat then huS (gi h 27 m.toNat) (gi h 26 m.toNat) e else gi h 27 j) := by
  refine x_met _ rfl (Nat.le_of_ble_eq_true rfl) (fun K hK => ?_)
  have hmono := MONO_CLd hSP 0
  refine x_aload_n 1 hK rfl rfl rfl ?_
  refine x_getR 4 hK rfl rfl (sp_23 (h := h) hG) (rf_23_7 (h := h) hG) ?_
  refine x_iload_n 5 hK rfl rfl rfl ?_
  have g317 := gi_r h 26 m.toNat
  refine x_ialoadE 6 hK rfl rfl (sp_26 (h := h) hG) (by omega) (by omega) (by omega) (e' := (gi h 26 m.toNat)) (rfl) ?_
  refine x_iload_n 7 hK rfl rfl rfl ?_
  refine x_if_icmp_ge 29 10 hK rfl rfl rfl (by omega) (by omega) (fun c6 => ?_) (fun c6 => ?_)
  · refine x_aload_n 30 hK rfl rfl rfl ?_
    refine x_getR 33 hK rfl rfl (sp_23 (h := h) hG) (rf_23_7 (h := h) hG) ?_
    refine x_iload_n 34 hK rfl rfl rfl ?_
    refine x_dup2 35 hK rfl rfl rfl rfl ?_
    refine x_ialoadE 36 hK rfl rfl (sp_26 (h := h) hG) (by omega) (by omega) (by omega) (e' := (gi h 26 m.toNat)) (rfl) ?_
    refine x_iload_n 37 hK rfl rfl rfl ?_
    refine x_isub 38 hK rfl rfl ?_
    refine x_iastore 39 hK rfl rfl (sp_26 (h := h) hG) (by omega) (by omega) (by omega) ?_
    refine x_iconst 40 hK rfl rfl ?_
    have f1 : ∀ j, gi (wI h 26 m.toNat ((gi h 26 m.toNat) - e)) 26 j = if j = m.toNat then fdS (gi h 26 m.toNat) e else gi h 26 j := fun j => by
      by_cases c : j = m.toNat
      · rw [if_pos c, c]
        unfold fdS
        rw [if_neg (by omega)]
        exact gi_same (by omega)
      · rw [if_neg c]
        exact gi_k c _
    have f2 : ∀ j, gi (wI h 26 m.toNat ((gi h 26 m.toNat) - e)) 27 j = if j = m.toNat then huS (gi h 27 m.toNat) (gi h 26 m.toNat) e else gi h 27 j := fun j => by
      by_cases c : j = m.toNat
      · rw [if_pos c, c]
        unfold huS
        rw [if_neg (by omega)]
        exact gi_a (by decide) _
      · rw [if_neg c]
        exact gi_a (by decide) _
    exact x_zret hK rfl (by omega) ⟨by rw [if_neg (by omega)], GD_wn (hG) (r := 20) rfl rfl, FRM_wn 0 7 ((FRM.rf : FRM gRL [(0, 20, 0, 7), (0, 21, 0, 7)] h h)) (r := 20) rfl rfl rfl (by omega) (by omega), f1, f2⟩
  · refine x_aload_n 11 hK rfl rfl rfl ?_
    refine x_getR 14 hK rfl rfl (sp_23 (h := h) hG) (rf_23_7 (h := h) hG) ?_
    refine x_iload_n 15 hK rfl rfl rfl ?_
    refine x_iconst 16 hK rfl rfl ?_
    refine x_iastore 17 hK rfl rfl (sp_26 (h := h) hG) (by omega) (by omega) (by omega) ?_
    refine x_aload_n 18 hK rfl rfl rfl ?_
    refine x_getR 21 hK rfl rfl (sp_23 (h := h) hG) (rf_23_8 (h := h) hG) ?_
    refine x_iload_n 22 hK rfl rfl rfl ?_
    refine x_dup2 23 hK rfl rfl rfl rfl ?_
    have g318 := gi_r h 27 m.toNat
    refine x_ialoadE 24 hK rfl rfl (sp_27 (h := h) hG) (by omega) (by omega) (by omega) (e' := (gi h 27 m.toNat)) (gi_a (by decide) _) ?_
    refine x_iconst 25 hK rfl rfl ?_
    refine x_iadd 26 hK rfl rfl ?_
    refine x_iastore 27 hK rfl rfl (sp_27 (h := h) hG) (by omega) (by omega) (by omega) ?_
    refine x_iconst 28 hK rfl rfl ?_
    have f1 : ∀ j, gi (wI (wI h 26 m.toNat 0) 27 m.toNat ((gi h 27 m.toNat) + 1)) 26 j = if j = m.toNat then fdS (gi h 26 m.toNat) e else gi h 26 j := fun j => by
      by_cases c : j = m.toNat
      · rw [if_pos c, c]
        unfold fdS
        rw [if_pos (by omega)]
        exact (gi_a (by decide) _).trans (gi_same (by omega))
      · rw [if_neg c]
        exact (gi_a (by decide) _).trans (gi_k c _)
    have f2 : ∀ j, gi (wI (wI h 26 m.toNat 0) 27 m.toNat ((gi h 27 m.toNat) + 1)) 27 j = if j = m.toNat then huS (gi h 27 m.toNat) (gi h 26 m.toNat) e else gi h 27 j := fun j => by
      by_cases c : j = m.toNat
      · rw [if_pos c, c]
        unfold huS
        rw [if_pos (by omega)]
        exact gi_same (by omega)
      · rw [if_neg c]
        exact (gi_k c _).trans (gi_a (by decide) _)
    exact x_zret hK rfl (by omega) ⟨by rw [if_pos (by omega)], GD_wn (GD_wn (hG) (r := 20) rfl rfl) (r := 21) rfl rfl, FRM_wn 0 7 (FRM_wn 0 7 ((FRM.rf : FRM gRL [(0, 20, 0, 7), (0, 21, 0, 7)] h h)) (r := 20) rfl rfl rfl (by omega) (by omega)) (r := 21) rfl rfl rfl (by omega) (by omega), f1, f2⟩
set_option maxRecDepth 4000 in
theorem ctX8_gaveNow {SP : CT} (hSP : MONO SP) {sh : List (Nat × Nat)} {h : aH} (hG : GD gE gRL sh h) : CLd SP 1 mX8_gaveNow [.ref 23] h 0 0 (fun rv h' => h' = h ∧ rv = some (.int (I (if gi h 23 3 = gi h 23 0 then 1 else 0)))) := by
  refine x_met _ rfl (Nat.le_of_ble_eq_true rfl) (fun K hK => ?_)
  have hmono := MONO_CLd hSP 0
  refine x_aload_n 1 hK rfl rfl rfl ?_
  have g319 := gi_r h 23 3
  refine x_getE 4 hK rfl (Or.inl rfl) rfl (sp_23 (h := h) hG) (e := (gi h 23 3)) (rfl) ?_
  refine x_aload_n 5 hK rfl rfl rfl ?_
  have g320 := gi_r h 23 0
  refine x_getE 8 hK rfl (Or.inl rfl) rfl (sp_23 (h := h) hG) (e := (gi h 23 0)) (rfl) ?_
  refine x_if_icmp_ne 15 11 hK rfl rfl rfl (by omega) (by omega) (fun c5 => ?_) (fun c5 => ?_)
  · refine x_iconst 16 hK rfl rfl ?_
    exact x_zret hK rfl (by omega) ⟨rfl, by first | rw [if_pos (by omega)] | rw [if_neg (by omega)]⟩
  · refine x_iconst 12 hK rfl rfl ?_
    refine x_goto 16 hK rfl rfl ?_
    exact x_zret hK rfl (by omega) ⟨rfl, by first | rw [if_pos (by omega)] | rw [if_neg (by omega)]⟩
end
section
/-! THE PAST OF THE CLASS -/
noncomputable def PL (h : aH) : List CWS := (List.range (gi h 33 2).toNat).map fun i => kS h (37 + 5 * (((gi h 33 1).toNat + i) % 15))
noncomputable def pushC (l : List CWS) (x : CWS) : List CWS := if l.length < 15 then l ++ [x] else l.drop 1 ++ [x]
theorem PL_l (h : aH) : (PL h).length = (gi h 33 2).toNat := by unfold PL; rw [List.length_map, List.length_range]
theorem kS_ge {h h' : aH} {c : Nat} (e : ∀ a k : Nat, c ≤ a → a ≤ c + 4 → gi h' a k = gi h a k) : kS h' c = kS h c := by
  unfold kS
  have e0 : ∀ k, gi h' c k = gi h c k := fun k => e _ k (by omega) (by omega)
  rw [e0, e0, e0, e0, e0, kO_eq fun j _ => ⟨e (c + 1) j (by omega) (by omega), e (c + 2) j (by omega) (by omega)⟩]
  simp only [e (c + 3) _ (by omega) (by omega), e (c + 4) _ (by omega) (by omega)]
theorem PL_eq {h h' : aH} (e1 : gi h' 33 1 = gi h 33 1) (e2 : gi h' 33 2 = gi h 33 2) (e : ∀ i, i < 15 → kS h' (37 + 5 * i) = kS h (37 + 5 * i)) : PL h' = PL h := by
  unfold PL
  rw [e1, e2]
  exact List.map_congr_left fun i _ => e _ (Nat.mod_lt _ (by decide))
theorem PL_push {h h' : aH} {f n : Nat} {x : CWS} (hf : gi h 33 1 = (f : Int)) (hn : gi h 33 2 = (n : Int)) (f1 : f < 15) (n1 : n ≤ 15) (ex : kS h' (37 + 5 * ((f + n) % 15)) = x) (eo : ∀ i, i < 15 → i ≠ (f + n) % 15 → kS h' (37 + 5 * i) = kS h (37 + 5 * i))
    (hc : (n < 15 ∧ gi h' 33 1 = (f : Int) ∧ gi h' 33 2 = ((n + 1 : Nat) : Int)) ∨ (n = 15 ∧ gi h' 33 1 = (((f + 1) % 15 : Nat) : Int) ∧ gi h' 33 2 = 15)) : PL h' = pushC (PL h) x := by
  unfold pushC
  rw [PL_l, hn, Int.toNat_natCast]
  unfold PL
  rw [hf, hn, Int.toNat_natCast, Int.toNat_natCast]
  rcases hc with ⟨c, g1, g2⟩ | ⟨c, g1, g2⟩
  · rw [if_pos c, g1, g2, Int.toNat_natCast, Int.toNat_natCast, List.range_succ, List.map_append]
    congr 1
    · refine List.map_congr_left fun i hi => ?_
      have := List.mem_range.mp hi
      exact eo _ (Nat.mod_lt _ (by decide)) (by omega)
    · rw [List.map_cons, List.map_nil, ex]
  · subst c
    rw [if_neg (by omega), g1, g2, Int.toNat_natCast]
    show (List.range 15).map (fun i => kS h' (37 + 5 * (((f + 1) % 15 + i) % 15))) = ((List.range 15).map (fun i => kS h (37 + 5 * ((f + i) % 15)))).drop 1 ++ [x]
    have e1 : ∀ F : Nat → CWS, (List.range 15).map F = (List.range 14).map F ++ [F 14] := fun F => rfl
    have e2 : ∀ F : Nat → CWS, ((List.range 15).map F).drop 1 = (List.range 14).map fun i => F (1 + i) := fun F => rfl
    rw [e1, e2]
    congr 1
    · refine List.map_congr_left fun i hi => ?_
      have := List.mem_range.mp hi
      show kS h' (37 + 5 * (((f + 1) % 15 + i) % 15)) = kS h (37 + 5 * ((f + (1 + i)) % 15))
      rw [show ((f + 1) % 15 + i) % 15 = (f + (1 + i)) % 15 by omega]
      exact eo _ (Nat.mod_lt _ (by decide)) (by omega)
    · rw [show ((f + 1) % 15 + 14) % 15 = (f + 15) % 15 by omega, ex]
theorem PL_pop {h h' : aH} {f n : Nat} (hf : gi h 33 1 = (f : Int)) (hn : gi h 33 2 = ((n + 1 : Nat) : Int)) (g1 : gi h' 33 1 = (f : Int)) (g2 : gi h' 33 2 = (n : Int)) (eo : ∀ i, i < 15 → kS h' (37 + 5 * i) = kS h (37 + 5 * i)) : PL h = PL h' ++ [kS h (37 + 5 * ((f + n) % 15))] := by
  unfold PL
  rw [hf, hn, g1, g2, Int.toNat_natCast, Int.toNat_natCast, Int.toNat_natCast, List.range_succ, List.map_append]
  congr 1
  exact List.map_congr_left fun i _ => (eo _ (Nat.mod_lt _ (by decide))).symm
set_option maxRecDepth 4000 in
theorem ctX1_remember_23 {SP : CT} (hSP : MONO SP) {sh : List (Nat × Nat)} {h : aH} (hG : GD gE gRL sh h) (hP : PT h) : CLd SP 2 mX1_remember [.ref 33, .ref 23] h 0 0 (fun rv h' => rv = none ∧ GD gE gRL sh h' ∧ FRM gRL [(0, 27, 1, 2), (0, 31, 0, 4), (0, 32, 0, 11), (0, 33, 0, 11), (0, 34, 0, 7), (0, 35, 0, 7)] h h' ∧ PL h' = pushC (PL h) (kS h 23)) := by
  refine x_met _ rfl (Nat.le_of_ble_eq_true rfl) (fun K hK => ?_)
  have hmono := MONO_CLd hSP 1
  have g1 := gri 0 14 hG (a := 33) (r := 27) (k := 1) rfl rfl
  have g2 := gri 0 15 hG (a := 33) (r := 27) (k := 2) rfl rfl
  obtain ⟨f, hf⟩ : ∃ f : Nat, gi h 33 1 = f := ⟨(gi h 33 1).toNat, by omega⟩
  obtain ⟨n, hn⟩ : ∃ n : Nat, gi h 33 2 = n := ⟨(gi h 33 2).toNat, by omega⟩
  rw [hf] at g1
  rw [hn] at g2
  obtain ⟨c, hcd⟩ : ∃ c : Nat, c = 37 + 5 * ((f + n) % 15) := ⟨_, rfl⟩
  have hc : rgA c := ⟨_, Nat.mod_lt _ (by decide), hcd⟩
  have hcb := rg_b hc
  refine x_aload_n 1 hK rfl rfl rfl ?_
  refine x_getR 4 hK rfl rfl (sp_33 (h := h) hG) (rf_33_0 (h := h) hG) ?_
  refine x_aload_n 5 hK rfl rfl rfl ?_
  refine x_getE 8 hK rfl (Or.inl rfl) rfl (sp_33 (h := h) hG) (e := (f : Int)) (hf) ?_
  refine x_aload_n 9 hK rfl rfl rfl ?_
  refine x_getE 12 hK rfl (Or.inl rfl) rfl (sp_33 (h := h) hG) (e := (n : Int)) (hn) ?_
  refine x_iadd 13 hK rfl rfl ?_
  refine x_bipush 15 hK rfl rfl rfl ?_
  refine x_iremp 16 hK rfl rfl (by omega) (by omega) (by omega) (by omega) ?_
  refine x_aaload 17 hK rfl rfl (sp_34 (h := h) hG) (by decide) (by omega) (by omega) (by omega) (show aR h 34 (((((f : Int) + (n : Int)) % 15))).toNat = some c from by rw [hcd, show (((((f : Int) + (n : Int)) % 15))).toNat = (f + n) % 15 from by omega]; exact ((show PT h from hP).2.1 _ (Nat.mod_lt _ (by decide))).1) ?_
  refine x_aload_n 18 hK rfl rfl rfl ?_
  refine x_callV 21 hK hmono rfl rfl [.ref c, .ref 23] [] rfl rfl (Nat.le_of_ble_eq_true rfl) (Nat.le_of_ble_eq_true rfl) rfl (shx (h := h) hG (r := 31) (rg_r hc).1 rfl) (CLd_le (Nat.le_of_ble_eq_true rfl) (ctX8_copyFrom_rg_23 hSP hG (show PT h from hP) hc)) ?_
  rintro v297 h297 ⟨rfl, hG297, hF297, eS297, ot297⟩
  refine x_aload_n 22 hK rfl rfl rfl ?_
  refine x_getE 25 hK rfl (Or.inl rfl) rfl (sp_33 (h := h297) hG297) (e := (n : Int)) ((FRM_gi hF297 (r := 27) rfl rfl).trans (hn)) ?_
  refine x_bipush 27 hK rfl rfl rfl ?_
  refine x_if_icmp_ge 43 30 hK rfl rfl rfl (by omega) (by omega) (fun c16 => ?_) (fun c16 => ?_)
  · refine x_aload_n 44 hK rfl rfl rfl ?_
    refine x_aload_n 45 hK rfl rfl rfl ?_
    refine x_getE 48 hK rfl (Or.inl rfl) rfl (sp_33 (h := h297) hG297) (e := (f : Int)) ((FRM_gi hF297 (r := 27) rfl rfl).trans (hf)) ?_
    refine x_iconst 49 hK rfl rfl ?_
    refine x_iadd 50 hK rfl rfl ?_
    refine x_bipush 52 hK rfl rfl rfl ?_
    refine x_iremp 53 hK rfl rfl (by omega) (by omega) (by omega) (by omega) ?_
    refine x_putI 56 hK rfl rfl (sp_33 (h := h297) hG297) ?_
    have ex : kS (wI h297 33 1 (((f : Int) + 1) % 15)) (37 + 5 * ((f + n) % 15)) = kS h 23 := by
      rw [← hcd]
      refine (kS_ge (h := h297) fun a k k1 k2 => gi_a (by omega) _).trans ?_
      exact eS297
    have eo : ∀ i, i < 15 → i ≠ (f + n) % 15 → kS (wI h297 33 1 (((f : Int) + 1) % 15)) (37 + 5 * i) = kS h (37 + 5 * i) := fun i h1 h2 => by
      refine (kS_ge (h := h297) fun a k k1 k2 => gi_a (by omega) _).trans ?_
      exact oth_S ot297 (by omega)
    exact x_vret hK rfl ⟨rfl, GD_w1 (hG297) (r := 27) rfl (by omega) rfl (by omega) (by omega), FRM_w ((hF297).mono rfl) (r := 27) rfl rfl, PL_push hf hn (by omega) (by omega) ex eo (Or.inr ⟨by omega, (gi_same (by omega)).trans (by omega), ((gi_k (by decide) _).trans ((FRM_gi hF297 (r := 27) rfl rfl).trans (hn))).trans (by omega)⟩)⟩
  · refine x_aload_n 31 hK rfl rfl rfl ?_
    refine x_dup 32 hK rfl rfl rfl ?_
    refine x_getE 35 hK rfl (Or.inl rfl) rfl (sp_33 (h := h297) hG297) (e := (n : Int)) ((FRM_gi hF297 (r := 27) rfl rfl).trans (hn)) ?_
    refine x_iconst 36 hK rfl rfl ?_
    refine x_iadd 37 hK rfl rfl ?_
    refine x_putI 40 hK rfl rfl (sp_33 (h := h297) hG297) ?_
    refine x_goto 56 hK rfl rfl ?_
    have ex : kS (wI h297 33 2 ((n : Int) + 1)) (37 + 5 * ((f + n) % 15)) = kS h 23 := by
      rw [← hcd]
      refine (kS_ge (h := h297) fun a k k1 k2 => gi_a (by omega) _).trans ?_
      exact eS297
    have eo : ∀ i, i < 15 → i ≠ (f + n) % 15 → kS (wI h297 33 2 ((n : Int) + 1)) (37 + 5 * i) = kS h (37 + 5 * i) := fun i h1 h2 => by
      refine (kS_ge (h := h297) fun a k k1 k2 => gi_a (by omega) _).trans ?_
      exact oth_S ot297 (by omega)
    exact x_vret hK rfl ⟨rfl, GD_w1 (hG297) (r := 27) rfl (by omega) rfl (by omega) (by omega), FRM_w ((hF297).mono rfl) (r := 27) rfl rfl, PL_push hf hn (by omega) (by omega) ex eo (Or.inl ⟨by omega, ((gi_k (by decide) _).trans ((FRM_gi hF297 (r := 27) rfl rfl).trans (hf))).trans (by omega), (gi_same (by omega)).trans (by omega)⟩)⟩
set_option maxRecDepth 4000 in
theorem ctX1_remember_28 {SP : CT} (hSP : MONO SP) {sh : List (Nat × Nat)} {h : aH} (hG : GD gE gRL sh h) (hP : PT h) : CLd SP 2 mX1_remember [.ref 33, .ref 28] h 0 0 (fun rv h' => rv = none ∧ GD gE gRL sh h' ∧ FRM gRL [(0, 27, 1, 2), (0, 31, 0, 4), (0, 32, 0, 11), (0, 33, 0, 11), (0, 34, 0, 7), (0, 35, 0, 7)] h h' ∧ PL h' = pushC (PL h) (kS h 28)) := by
  refine x_met _ rfl (Nat.le_of_ble_eq_true rfl) (fun K hK => ?_)
  have hmono := MONO_CLd hSP 1
  have g1 := gri 0 14 hG (a := 33) (r := 27) (k := 1) rfl rfl
  have g2 := gri 0 15 hG (a := 33) (r := 27) (k := 2) rfl rfl
  obtain ⟨f, hf⟩ : ∃ f : Nat, gi h 33 1 = f := ⟨(gi h 33 1).toNat, by omega⟩
  obtain ⟨n, hn⟩ : ∃ n : Nat, gi h 33 2 = n := ⟨(gi h 33 2).toNat, by omega⟩
  rw [hf] at g1
  rw [hn] at g2
  obtain ⟨c, hcd⟩ : ∃ c : Nat, c = 37 + 5 * ((f + n) % 15) := ⟨_, rfl⟩
  have hc : rgA c := ⟨_, Nat.mod_lt _ (by decide), hcd⟩
  have hcb := rg_b hc
  refine x_aload_n 1 hK rfl rfl rfl ?_
  refine x_getR 4 hK rfl rfl (sp_33 (h := h) hG) (rf_33_0 (h := h) hG) ?_
  refine x_aload_n 5 hK rfl rfl rfl ?_
  refine x_getE 8 hK rfl (Or.inl rfl) rfl (sp_33 (h := h) hG) (e := (f : Int)) (hf) ?_
  refine x_aload_n 9 hK rfl rfl rfl ?_
  refine x_getE 12 hK rfl (Or.inl rfl) rfl (sp_33 (h := h) hG) (e := (n : Int)) (hn) ?_
  refine x_iadd 13 hK rfl rfl ?_
  refine x_bipush 15 hK rfl rfl rfl ?_
  refine x_iremp 16 hK rfl rfl (by omega) (by omega) (by omega) (by omega) ?_
  refine x_aaload 17 hK rfl rfl (sp_34 (h := h) hG) (by decide) (by omega) (by omega) (by omega) (show aR h 34 (((((f : Int) + (n : Int)) % 15))).toNat = some c from by rw [hcd, show (((((f : Int) + (n : Int)) % 15))).toNat = (f + n) % 15 from by omega]; exact ((show PT h from hP).2.1 _ (Nat.mod_lt _ (by decide))).1) ?_
  refine x_aload_n 18 hK rfl rfl rfl ?_
  refine x_callV 21 hK hmono rfl rfl [.ref c, .ref 28] [] rfl rfl (Nat.le_of_ble_eq_true rfl) (Nat.le_of_ble_eq_true rfl) rfl (shx (h := h) hG (r := 31) (rg_r hc).1 rfl) (CLd_le (Nat.le_of_ble_eq_true rfl) (ctX8_copyFrom_rg_28 hSP hG (show PT h from hP) hc)) ?_
  rintro v298 h298 ⟨rfl, hG298, hF298, eS298, ot298⟩
  refine x_aload_n 22 hK rfl rfl rfl ?_
  refine x_getE 25 hK rfl (Or.inl rfl) rfl (sp_33 (h := h298) hG298) (e := (n : Int)) ((FRM_gi hF298 (r := 27) rfl rfl).trans (hn)) ?_
  refine x_bipush 27 hK rfl rfl rfl ?_
  refine x_if_icmp_ge 43 30 hK rfl rfl rfl (by omega) (by omega) (fun c16 => ?_) (fun c16 => ?_)
  · refine x_aload_n 44 hK rfl rfl rfl ?_
    refine x_aload_n 45 hK rfl rfl rfl ?_
    refine x_getE 48 hK rfl (Or.inl rfl) rfl (sp_33 (h := h298) hG298) (e := (f : Int)) ((FRM_gi hF298 (r := 27) rfl rfl).trans (hf)) ?_
    refine x_iconst 49 hK rfl rfl ?_
    refine x_iadd 50 hK rfl rfl ?_
    refine x_bipush 52 hK rfl rfl rfl ?_
    refine x_iremp 53 hK rfl rfl (by omega) (by omega) (by omega) (by omega) ?_
    refine x_putI 56 hK rfl rfl (sp_33 (h := h298) hG298) ?_
    have ex : kS (wI h298 33 1 (((f : Int) + 1) % 15)) (37 + 5 * ((f + n) % 15)) = kS h 28 := by
      rw [← hcd]
      refine (kS_ge (h := h298) fun a k k1 k2 => gi_a (by omega) _).trans ?_
      exact eS298
    have eo : ∀ i, i < 15 → i ≠ (f + n) % 15 → kS (wI h298 33 1 (((f : Int) + 1) % 15)) (37 + 5 * i) = kS h (37 + 5 * i) := fun i h1 h2 => by
      refine (kS_ge (h := h298) fun a k k1 k2 => gi_a (by omega) _).trans ?_
      exact oth_S ot298 (by omega)
    exact x_vret hK rfl ⟨rfl, GD_w1 (hG298) (r := 27) rfl (by omega) rfl (by omega) (by omega), FRM_w ((hF298).mono rfl) (r := 27) rfl rfl, PL_push hf hn (by omega) (by omega) ex eo (Or.inr ⟨by omega, (gi_same (by omega)).trans (by omega), ((gi_k (by decide) _).trans ((FRM_gi hF298 (r := 27) rfl rfl).trans (hn))).trans (by omega)⟩)⟩
  · refine x_aload_n 31 hK rfl rfl rfl ?_
    refine x_dup 32 hK rfl rfl rfl ?_
    refine x_getE 35 hK rfl (Or.inl rfl) rfl (sp_33 (h := h298) hG298) (e := (n : Int)) ((FRM_gi hF298 (r := 27) rfl rfl).trans (hn)) ?_
    refine x_iconst 36 hK rfl rfl ?_
    refine x_iadd 37 hK rfl rfl ?_
    refine x_putI 40 hK rfl rfl (sp_33 (h := h298) hG298) ?_
    refine x_goto 56 hK rfl rfl ?_
    have ex : kS (wI h298 33 2 ((n : Int) + 1)) (37 + 5 * ((f + n) % 15)) = kS h 28 := by
      rw [← hcd]
      refine (kS_ge (h := h298) fun a k k1 k2 => gi_a (by omega) _).trans ?_
      exact eS298
    have eo : ∀ i, i < 15 → i ≠ (f + n) % 15 → kS (wI h298 33 2 ((n : Int) + 1)) (37 + 5 * i) = kS h (37 + 5 * i) := fun i h1 h2 => by
      refine (kS_ge (h := h298) fun a k k1 k2 => gi_a (by omega) _).trans ?_
      exact oth_S ot298 (by omega)
    exact x_vret hK rfl ⟨rfl, GD_w1 (hG298) (r := 27) rfl (by omega) rfl (by omega) (by omega), FRM_w ((hF298).mono rfl) (r := 27) rfl rfl, PL_push hf hn (by omega) (by omega) ex eo (Or.inl ⟨by omega, ((gi_k (by decide) _).trans ((FRM_gi hF298 (r := 27) rfl rfl).trans (hf))).trans (by omega), (gi_same (by omega)).trans (by omega)⟩)⟩
set_option maxRecDepth 4000 in
theorem ctX1_bringBack {SP : CT} (hSP : MONO SP) {sh : List (Nat × Nat)} {h : aH} (hG : GD gE gRL sh h) (hP : PT h) : CLd SP 2 mX1_bringBack [.ref 33, .ref 23] h 0 0 (fun rv h' => ((gi h 33 2 = 0 ∧ rv = some (.int (I 0)) ∧ h' = h) ∨ (0 < gi h 33 2 ∧ rv = some (.int (I 1)) ∧ gi h' 33 2 = gi h 33 2 - 1 ∧ PL h = PL h' ++ [kS h' 23])) ∧ GD gE gRL sh h' ∧ FRM gRL [(0, 17, 0, 4), (0, 18, 0, 11), (0, 19, 0, 11), (0, 20, 0, 7), (0, 21, 0, 7), (0, 27, 2, 2)] h h') := by
  refine x_met _ rfl (Nat.le_of_ble_eq_true rfl) (fun K hK => ?_)
  have hmono := MONO_CLd hSP 1
  have g1 := gri 0 14 hG (a := 33) (r := 27) (k := 1) rfl rfl
  have g2 := gri 0 15 hG (a := 33) (r := 27) (k := 2) rfl rfl
  obtain ⟨f, hf⟩ : ∃ f : Nat, gi h 33 1 = f := ⟨(gi h 33 1).toNat, by omega⟩
  obtain ⟨n, hn⟩ : ∃ n : Nat, (gi h 33 2 - 1).toNat = n := ⟨_, rfl⟩
  rw [hf] at g1
  obtain ⟨c, hcd⟩ : ∃ c : Nat, c = 37 + 5 * ((f + n) % 15) := ⟨_, rfl⟩
  have hc : rgA c := ⟨_, Nat.mod_lt _ (by decide), hcd⟩
  have hcb := rg_b hc
  refine x_aload_n 1 hK rfl rfl rfl ?_
  have g299 := gri (0) (15) hG (a := 33) (r := 27) (k := 2) rfl rfl
  refine x_getE 4 hK rfl (Or.inl rfl) rfl (sp_33 (h := h) hG) (e := (gi h 33 2)) (rfl) ?_
  refine x_if_gt 9 7 hK rfl rfl rfl (by omega) (fun c3 => ?_) (fun c3 => ?_)
  · refine x_aload_n 10 hK rfl rfl rfl ?_
    refine x_dup 11 hK rfl rfl rfl ?_
    refine x_getE 14 hK rfl (Or.inl rfl) rfl (sp_33 (h := h) hG) (e := (gi h 33 2)) (rfl) ?_
    refine x_iconst 15 hK rfl rfl ?_
    refine x_isub 16 hK rfl rfl ?_
    refine x_putI 19 hK rfl rfl (sp_33 (h := h) hG) ?_
    refine x_aload_n 20 hK rfl rfl rfl ?_
    refine x_aload_n 21 hK rfl rfl rfl ?_
    refine x_getR 24 hK rfl rfl (sp_33 (h := h) hG) (rf_33_0 (h := h) hG) ?_
    refine x_aload_n 25 hK rfl rfl rfl ?_
    refine x_getE 28 hK rfl (Or.inl rfl) rfl (sp_33 (h := h) hG) (e := (f : Int)) ((gi_k (by decide) _).trans (hf)) ?_
    refine x_aload_n 29 hK rfl rfl rfl ?_
    refine x_getE 32 hK rfl (Or.inl rfl) rfl (sp_33 (h := h) hG) (e := ((gi h 33 2) - 1)) (gi_same (by omega)) ?_
    refine x_iadd 33 hK rfl rfl ?_
    refine x_bipush 35 hK rfl rfl rfl ?_
    refine x_iremp 36 hK rfl rfl (by omega) (by omega) (by omega) (by omega) ?_
    refine x_aaload 37 hK rfl rfl (sp_34 (h := h) hG) (by decide) (by omega) (by omega) (by omega) (show aR h 34 (((((f : Int) + ((gi h 33 2) - 1)) % 15))).toNat = some c from by rw [hcd, show (((((f : Int) + ((gi h 33 2) - 1)) % 15))).toNat = (f + n) % 15 from by omega]; exact ((show PT h from hP).2.1 _ (Nat.mod_lt _ (by decide))).1) ?_
    have hGp300 : GD gE gRL sh (wI h 33 2 ((gi h 33 2) - 1)) := GD_w1 (hG) (r := 27) rfl (by omega) rfl (by omega) (by omega)
    refine x_callV 40 hK hmono rfl rfl [.ref 23, .ref c] [] rfl rfl (Nat.le_of_ble_eq_true rfl) (Nat.le_of_ble_eq_true rfl) rfl (sp_23 (h := h) hG) (CLd_le (Nat.le_of_ble_eq_true rfl) (ctX8_copyFrom_23_rg hSP hGp300 (show PT h from hP) hc)) ?_
    rintro v301 h301 ⟨rfl, hG301, hF301, eS301, ot301⟩
    refine x_iconst 41 hK rfl rfl ?_
    have e2 : gi h301 33 2 = gi h 33 2 - 1 := (FRM_gi hF301 (r := 27) rfl rfl).trans (gi_same (by omega))
    have ep : PL h = PL h301 ++ [kS h (37 + 5 * ((f + n) % 15))] := PL_pop hf (by omega) ((FRM_gi hF301 (r := 27) rfl rfl).trans ((gi_k (by decide) _).trans (hf))) (e2.trans (by omega)) fun i hi => (oth_S ot301 (by omega)).trans (kS_ge fun a k k1 k2 => gi_a (by omega) _)
    have es : kS h301 23 = kS h (37 + 5 * ((f + n) % 15)) := by rw [eS301, ← hcd]; exact kS_ge fun a k k1 k2 => gi_a (by omega) _
    exact x_zret hK rfl (by omega) ⟨Or.inr ⟨by omega, rfl, e2, by rw [es]; exact ep⟩, hG301, (FRM_w ((FRM.rf : FRM gRL [(0, 17, 0, 4), (0, 18, 0, 11), (0, 19, 0, 11), (0, 20, 0, 7), (0, 21, 0, 7), (0, 27, 2, 2)] h h)) (r := 27) rfl rfl).trans ((hF301).mono rfl)⟩
  · refine x_iconst 8 hK rfl rfl ?_
    exact x_zret hK rfl (by omega) ⟨Or.inl ⟨by omega, rfl, rfl⟩, hG, FRM.rf⟩
set_option maxRecDepth 4000 in
theorem ctX10_keepF {SP : CT} (hSP : MONO SP) {sh : List (Nat × Nat)} {h : aH} (hG : GD gE gRL sh h) {n : Int} (rn : r32 n) (hP : PT h) : CLd SP 3 mX10_keep [.ref 0, .int (I n)] h 0 0 (fun rv h' => (((0 ≤ n ∧ n ≤ 2) ∧ rv = some (.int (I 1)) ∧ kS h' (112 + 5 * n.toNat) = kS h 23 ∧ (∀ i : Nat, i < 3 → i ≠ n.toNat → kS h' (112 + 5 * i) = kS h (112 + 5 * i)) ∧ ∀ i : Nat, gi h' 36 i = if i = n.toNat then 1 else gi h 36 i) ∨ (¬ (0 ≤ n ∧ n ≤ 2) ∧ rv = some (.int (I 0)) ∧ h' = h)) ∧ GD gE gRL sh h' ∧ FRM gRL [(0, 30, 0, 2), (0, 36, 0, 4), (0, 37, 0, 11), (0, 38, 0, 11), (0, 39, 0, 7), (0, 40, 0, 7)] h h') := by
  refine x_met _ rfl (Nat.le_of_ble_eq_true rfl) (fun K hK => ?_)
  have hmono := MONO_CLd hSP 2
  obtain ⟨c, hcd⟩ : ∃ c : Nat, c = 112 + 5 * n.toNat := ⟨_, rfl⟩
  have hc : 0 ≤ n ∧ n ≤ 2 → kpA c := fun z => ⟨n.toNat, by omega, hcd⟩
  refine x_iload_n 1 hK rfl rfl rfl ?_
  refine x_if_lt 9 4 hK rfl rfl rfl (by omega) (fun c2 => ?_) (fun c2 => ?_)
  · refine x_iconst 10 hK rfl rfl ?_
    exact x_zret hK rfl (by omega) ⟨Or.inr ⟨by omega, rfl, rfl⟩, hG, FRM.rf⟩
  · refine x_iload_n 5 hK rfl rfl rfl ?_
    refine x_iconst 6 hK rfl rfl ?_
    refine x_if_icmp_lt 11 9 hK rfl rfl rfl (by omega) (by omega) (fun c7 => ?_) (fun c7 => ?_)
    · refine x_aload_n 12 hK rfl rfl rfl ?_
      refine x_getR 15 hK rfl rfl (sp_0 (h := h) hG) (rf_0_12 (h := h) hG) ?_
      refine x_getR 18 hK rfl rfl (sp_33 (h := h) hG) (rf_33_3 (h := h) hG) ?_
      refine x_iload_n 19 hK rfl rfl rfl ?_
      replace hc := hc (by omega)
      have hcb := kp_b hc
      refine x_aaload 20 hK rfl rfl (sp_35 (h := h) hG) (by decide) (by omega) (by omega) (by omega) (show aR h 35 (n).toNat = some c from by rw [hcd]; exact ((show PT h from hP).2.2.1 _ (by omega)).1) ?_
      refine x_aload_n 21 hK rfl rfl rfl ?_
      refine x_getR 24 hK rfl rfl (sp_0 (h := h) hG) (rf_0_10 (h := h) hG) ?_
      refine x_callV 27 hK hmono rfl rfl [.ref c, .ref 23] [] rfl rfl (Nat.le_of_ble_eq_true rfl) (Nat.le_of_ble_eq_true rfl) rfl (shx (h := h) hG (r := 36) (kp_r hc).1 rfl) (CLd_le (Nat.le_of_ble_eq_true rfl) (ctX8_copyFrom_kp_23 hSP hG (show PT h from hP) hc)) ?_
      rintro v302 h302 ⟨rfl, hG302, hF302, eS302, ot302⟩
      refine x_aload_n 28 hK rfl rfl rfl ?_
      refine x_getR 31 hK rfl rfl (sp_0 (h := h302) hG302) (rf_0_12 (h := h302) hG302) ?_
      refine x_getR 34 hK rfl rfl (sp_33 (h := h302) hG302) (rf_33_4 (h := h302) hG302) ?_
      refine x_iload_n 35 hK rfl rfl rfl ?_
      refine x_iconst 36 hK rfl rfl ?_
      refine x_bastore 37 hK rfl rfl (sp_36 (h := h302) hG302) (by omega) (by omega) (by omega) (by omega) ?_
      refine x_iconst 38 hK rfl rfl ?_
      have ex : kS (wI h302 36 n.toNat 1) (112 + 5 * n.toNat) = kS h 23 := by
        rw [← hcd]
        exact (kS_ge (h := h302) fun a k k1 k2 => gi_a (by omega) _).trans eS302
      have eo : ∀ i : Nat, i < 3 → i ≠ n.toNat → kS (wI h302 36 n.toNat 1) (112 + 5 * i) = kS h (112 + 5 * i) := fun i h1 h2 => (kS_ge (h := h302) fun a k k1 k2 => gi_a (by omega) _).trans (oth_S ot302 (by omega))
      have ek : ∀ i : Nat, gi (wI h302 36 n.toNat 1) 36 i = if i = n.toNat then 1 else gi h 36 i := fun i => by
        by_cases q : i = n.toNat
        · rw [if_pos q, q]; exact gi_same (by omega)
        · rw [if_neg q]; exact (gi_k q _).trans (FRM_gi hF302 (r := 30) rfl rfl)
      exact x_zret hK rfl (by omega) ⟨Or.inl ⟨by omega, rfl, ex, eo, ek⟩, GD_wu (hG302) (r := 30) rfl (by omega) rfl (by omega) (by omega), FRM_wn 0 2 ((hF302).mono rfl) (r := 30) rfl rfl rfl (by omega) (by omega)⟩
    · refine x_iconst 10 hK rfl rfl ?_
      exact x_zret hK rfl (by omega) ⟨Or.inr ⟨by omega, rfl, rfl⟩, hG, FRM.rf⟩
set_option maxRecDepth 4000 in
theorem ctX10_againF {SP : CT} (hSP : MONO SP) {sh : List (Nat × Nat)} {h : aH} (hG : GD gE gRL sh h) {n : Int} (rn : r32 n) (hP : PT h) : CLd SP 3 mX10_again [.ref 0, .int (I n)] h 0 0 (fun rv h' => ((((0 ≤ n ∧ n ≤ 2) ∧ gi h 36 n.toNat = 1) ∧ rv = some (.int (I 1)) ∧ kS h' 23 = kS h (112 + 5 * n.toNat) ∧ gi h' 33 2 = 0) ∨ (¬ ((0 ≤ n ∧ n ≤ 2) ∧ gi h 36 n.toNat = 1) ∧ rv = some (.int (I 0)) ∧ h' = h)) ∧ GD gE gRL sh h' ∧ FRM gRL [(0, 17, 0, 4), (0, 18, 0, 11), (0, 19, 0, 11), (0, 20, 0, 7), (0, 21, 0, 7), (0, 27, 2, 2)] h h') := by
  refine x_met _ rfl (Nat.le_of_ble_eq_true rfl) (fun K hK => ?_)
  have hmono := MONO_CLd hSP 2
  obtain ⟨c, hcd⟩ : ∃ c : Nat, c = 112 + 5 * n.toNat := ⟨_, rfl⟩
  have hc : 0 ≤ n ∧ n ≤ 2 → kpA c := fun z => ⟨n.toNat, by omega, hcd⟩
  have gk : ∀ k, k < 3 → 0 ≤ gi h 36 k ∧ gi h 36 k ≤ 1 := fun k hk => grn 0 1 hG (a := 36) (r := 30) rfl rfl (by omega)
  refine x_iload_n 1 hK rfl rfl rfl ?_
  refine x_if_lt 21 4 hK rfl rfl rfl (by omega) (fun c2 => ?_) (fun c2 => ?_)
  · refine x_iconst 22 hK rfl rfl ?_
    exact x_zret hK rfl (by omega) ⟨Or.inr ⟨by omega, rfl, rfl⟩, hG, FRM.rf⟩
  · refine x_iload_n 5 hK rfl rfl rfl ?_
    refine x_iconst 6 hK rfl rfl ?_
    refine x_if_icmp_ge 21 9 hK rfl rfl rfl (by omega) (by omega) (fun c7 => ?_) (fun c7 => ?_)
    · refine x_iconst 22 hK rfl rfl ?_
      exact x_zret hK rfl (by omega) ⟨Or.inr ⟨by omega, rfl, rfl⟩, hG, FRM.rf⟩
    · refine x_aload_n 10 hK rfl rfl rfl ?_
      refine x_getR 13 hK rfl rfl (sp_0 (h := h) hG) (rf_0_12 (h := h) hG) ?_
      refine x_getR 16 hK rfl rfl (sp_33 (h := h) hG) (rf_33_4 (h := h) hG) ?_
      refine x_iload_n 17 hK rfl rfl rfl ?_
      have g303 := grn (0) (1) hG (a := 36) (r := 30) (k := n.toNat) rfl rfl (by omega)
      refine x_baloadE 18 hK rfl rfl (sp_36 (h := h) hG) (by omega) (by omega) (by omega) (e' := (gi h 36 n.toNat)) (rfl) ?_
      refine x_if_ne 23 21 hK rfl rfl rfl (by omega) (fun c15 => ?_) (fun c15 => ?_)
      · refine x_aload_n 24 hK rfl rfl rfl ?_
        refine x_getR 27 hK rfl rfl (sp_0 (h := h) hG) (rf_0_10 (h := h) hG) ?_
        refine x_aload_n 28 hK rfl rfl rfl ?_
        refine x_getR 31 hK rfl rfl (sp_0 (h := h) hG) (rf_0_12 (h := h) hG) ?_
        refine x_getR 34 hK rfl rfl (sp_33 (h := h) hG) (rf_33_3 (h := h) hG) ?_
        refine x_iload_n 35 hK rfl rfl rfl ?_
        replace hc := hc (by omega)
        have hcb := kp_b hc
        refine x_aaload 36 hK rfl rfl (sp_35 (h := h) hG) (by decide) (by omega) (by omega) (by omega) (show aR h 35 (n).toNat = some c from by rw [hcd]; exact ((show PT h from hP).2.2.1 _ (by omega)).1) ?_
        refine x_callV 39 hK hmono rfl rfl [.ref 23, .ref c] [] rfl rfl (Nat.le_of_ble_eq_true rfl) (Nat.le_of_ble_eq_true rfl) rfl (sp_23 (h := h) hG) (CLd_le (Nat.le_of_ble_eq_true rfl) (ctX8_copyFrom_23_kp hSP hG (show PT h from hP) hc)) ?_
        rintro v304 h304 ⟨rfl, hG304, hF304, eS304, ot304⟩
        refine x_aload_n 40 hK rfl rfl rfl ?_
        refine x_getR 43 hK rfl rfl (sp_0 (h := h304) hG304) (rf_0_12 (h := h304) hG304) ?_
        refine x_iconst 44 hK rfl rfl ?_
        refine x_putI 47 hK rfl rfl (sp_33 (h := h304) hG304) ?_
        refine x_iconst 48 hK rfl rfl ?_
        have ex : kS (wI h304 33 2 0) 23 = kS h (112 + 5 * n.toNat) := by
          rw [← hcd]
          exact (kS_ge (h := h304) fun a k k1 k2 => gi_a (by omega) _).trans eS304
        exact x_zret hK rfl (by omega) ⟨Or.inl ⟨by omega, rfl, ex, gi_same (by omega)⟩, GD_w1 (hG304) (r := 27) rfl (by omega) rfl (by omega) (by omega), FRM_w ((hF304).mono rfl) (r := 27) rfl rfl⟩
      · refine x_iconst 22 hK rfl rfl ?_
        exact x_zret hK rfl (by omega) ⟨Or.inr ⟨by omega, rfl, rfl⟩, hG, FRM.rf⟩
set_option maxRecDepth 4000 in
theorem ctX10_undoF {SP : CT} (hSP : MONO SP) {sh : List (Nat × Nat)} {h : aH} (hG : GD gE gRL sh h) (hP : PT h) : CLd SP 3 mX10_undo [.ref 0] h 0 0 (fun rv h' => ((gi h 33 2 = 0 ∧ rv = some (.int (I (-1))) ∧ h' = h) ∨ (0 < gi h 33 2 ∧ rv = some (.int (I (gi h 33 2 - 1))) ∧ gi h' 33 2 = gi h 33 2 - 1 ∧ PL h = PL h' ++ [kS h' 23])) ∧ GD gE gRL sh h' ∧ FRM gRL [(0, 17, 0, 4), (0, 18, 0, 11), (0, 19, 0, 11), (0, 20, 0, 7), (0, 21, 0, 7), (0, 27, 2, 2)] h h') := by
  refine x_met _ rfl (Nat.le_of_ble_eq_true rfl) (fun K hK => ?_)
  have hmono := MONO_CLd hSP 2
  refine x_aload_n 1 hK rfl rfl rfl ?_
  refine x_getR 4 hK rfl rfl (sp_0 (h := h) hG) (rf_0_12 (h := h) hG) ?_
  refine x_aload_n 5 hK rfl rfl rfl ?_
  refine x_getR 8 hK rfl rfl (sp_0 (h := h) hG) (rf_0_10 (h := h) hG) ?_
  refine x_callV 11 hK hmono rfl rfl [.ref 33, .ref 23] [] rfl rfl (Nat.le_of_ble_eq_true rfl) (Nat.le_of_ble_eq_true rfl) rfl (sp_33 (h := h) hG) (CLd_le (Nat.le_of_ble_eq_true rfl) (ctX1_bringBack hSP hG hP)) ?_
  rintro v305 h305 ⟨⟨n0, rfl, e9⟩ | ⟨n0, rfl, e2, ep⟩, hG305, hF305⟩
  · rw [e9]
    refine x_if_eq 24 14 hK rfl rfl rfl (by omega) (fun _ => ?_) (fun c => by omega)
    refine x_iconst 25 hK rfl rfl ?_
    exact x_iret hK rfl ⟨Or.inl ⟨n0, rfl, rfl⟩, hG, FRM.rf⟩
  · refine x_if_eq 24 14 hK rfl rfl rfl (by omega) (fun c => by omega) (fun _ => ?_)
    refine x_aload_n 15 hK rfl rfl rfl ?_
    refine x_getR 18 hK rfl rfl (sp_0 (h := h305) hG305) (rf_0_12 (h := h305) hG305) ?_
    refine x_getE 21 hK rfl (Or.inl rfl) rfl (sp_33 (h := h305) hG305) (e := (gi h 33 2 - 1)) (e2) ?_
    refine x_goto 25 hK rfl rfl ?_
    exact x_iret hK rfl ⟨Or.inr ⟨n0, rfl, e2, ep⟩, hG305, hF305⟩
end
