/-! SHEET -/
noncomputable def bI2b (a : Int) : Int := ((I a).toInt8.toInt32).toInt
theorem x_i2bF {CL : CT} {ac : AC} {ret : Option FieldType} {Q : QT} {K : KT} {pc : Nat} {ls : List (Nat × Value)} {st : List Value} {h : aH} {bc bs : Nat} {r1 r2 : Nat} {r3 : Int} {a : Int} (p : Nat) (hK : CLO CL ac ret Q K) (hf : fr ac pc = some (.i2b, r1, r2, r3)) (hp : pc + 1 = p) (hk : K p ls (.int (I (bI2b a)) :: st) h bc bs) : K pc ls (.int (I a) :: st) h bc bs := by
  subst hp
  rw [show I (bI2b a) = (I a).toInt8.toInt32 from t_I _] at hk
  exact x_row hK hf hk
noncomputable def bI2s (a : Int) : Int := ((I a).toInt16.toInt32).toInt
theorem x_i2sF {CL : CT} {ac : AC} {ret : Option FieldType} {Q : QT} {K : KT} {pc : Nat} {ls : List (Nat × Value)} {st : List Value} {h : aH} {bc bs : Nat} {r1 r2 : Nat} {r3 : Int} {a : Int} (p : Nat) (hK : CLO CL ac ret Q K) (hf : fr ac pc = some (.i2s, r1, r2, r3)) (hp : pc + 1 = p) (hk : K p ls (.int (I (bI2s a)) :: st) h bc bs) : K pc ls (.int (I a) :: st) h bc bs := by
  subst hp
  rw [show I (bI2s a) = (I a).toInt16.toInt32 from t_I _] at hk
  exact x_row hK hf hk
theorem bI2b_r (a : Int) : -128 ≤ bI2b a ∧ bI2b a ≤ 127 := i2b_int (I a)
theorem bI2s_r (a : Int) : -32768 ≤ bI2s a ∧ bI2s a ≤ 32767 := i2s_int (I a)
/-- an entry, cut to its kind -/
noncomputable def entF (k x : Int) : Int := if k = 0 then bI2b x else if k = 1 then bI2s x else w32 x
theorem entF_r (k x : Int) : r32 (entF k x) := by
  have a := bI2b_r x
  have b := bI2s_r x
  have c := w32_r x
  unfold entF
  (repeat' split) <;> omega
noncomputable def shE (k n f s i : Int) : Int := if k ≠ 3 ∧ i < n then max 0 (min 9 (entF k (f + i * s))) else 0
theorem shE_r (k n f s i : Int) : 0 ≤ shE k n f s i ∧ shE k n f s i ≤ 9 := by
  unfold shE
  split <;> omega
noncomputable def shS (k n f s : Int) : Nat → Int
  | 0 => 0
  | i + 1 => shS k n f s i + shE k n f s i
theorem shS_r (k n f s : Int) : ∀ i : Nat, 0 ≤ shS k n f s i ∧ shS k n f s i ≤ 9 * i
  | 0 => ⟨Int.le_refl _, Int.le_refl _⟩
  | i + 1 => by
    have a := shS_r k n f s i
    have b := shE_r k n f s i
    show 0 ≤ shS k n f s i + shE k n f s i ∧ shS k n f s i + shE k n f s i ≤ 9 * ((i + 1 : Nat) : Int)
    omega
theorem shS_s {k n f s i : Int} (h : 0 ≤ i) : shS k n f s (i + 1).toNat = shS k n f s i.toNat + shE k n f s i := by
  rw [tn_s h]
  show shS k n f s i.toNat + shE k n f s (i.toNat : Int) = _
  rw [show ((i.toNat : Nat) : Int) = i by omega]
noncomputable def shA (k n f s m : Int) : Int := if (0 ≤ k ∧ k ≤ 3) ∧ n ≤ 8 then (if k ≠ 3 ∧ n < 0 then -2 else if k = 3 then -3 else shS k n f s m.toNat) else -1
set_option maxRecDepth 4000 in
theorem ctX10_putG {SP : CT} (hSP : MONO SP) {h : aH} {v a b : Int} (rv : r32 v) (ra : r32 a) (rb : r32 b) : CLd SP 1 mX10_put [.int (I v), .int (I a), .int (I b)] h 0 0 (fun rv h' => h' = h ∧ rv = some (.int (I (max a (min b v))))) := by
  refine x_met _ rfl (Nat.le_of_ble_eq_true rfl) (fun K hK => ?_)
  have hmono := MONO_CLd hSP 0
  refine x_iload_n 1 hK rfl rfl rfl ?_
  refine x_iload_n 2 hK rfl rfl rfl ?_
  refine x_iload_n 3 hK rfl rfl rfl ?_
  refine x_min 6 hK rfl rfl (Nat.le_of_ble_eq_true rfl) (by omega) (by omega) ?_
  refine x_max 9 hK rfl rfl (Nat.le_of_ble_eq_true rfl) (by omega) (by omega) ?_
  exact x_iret hK rfl ⟨rfl, rfl⟩
set_option maxRecDepth 4000 in
theorem ctX10_entry {SP : CT} (hSP : MONO SP) {h : aH} {k v : Int} (rk : r32 k) : CLd SP 1 mX10_entry [.int (I k), .int (I v)] h 0 0 (fun rv h' => h' = h ∧ rv = some (.int (I (entF k v)))) := by
  refine x_met _ rfl (Nat.le_of_ble_eq_true rfl) (fun K hK => ?_)
  have hmono := MONO_CLd hSP 0
  refine x_iload_n 1 hK rfl rfl rfl ?_
  refine x_if_ne 7 4 hK rfl rfl rfl (by omega) (fun c2 => ?_) (fun c2 => ?_)
  · refine x_iload_n 8 hK rfl rfl rfl ?_
    refine x_iconst 9 hK rfl rfl ?_
    refine x_if_icmp_ne 17 12 hK rfl rfl rfl (by omega) (by omega) (fun c5 => ?_) (fun c5 => ?_)
    · refine x_iload_n 18 hK rfl rfl rfl ?_
      exact x_iret hK rfl ⟨rfl, by rw [show entF k v = w32 v from by unfold entF; first | rw [if_pos (by omega)] | rw [if_neg (by omega), if_pos (by omega)] | rw [if_neg (by omega), if_neg (by omega)]]; rw [I_w]⟩
    · refine x_iload_n 13 hK rfl rfl rfl ?_
      refine x_i2sF 14 hK rfl rfl ?_
      refine x_goto 18 hK rfl rfl ?_
      exact x_iret hK rfl ⟨rfl, by rw [show entF k v = (bI2s v) from by unfold entF; first | rw [if_pos (by omega)] | rw [if_neg (by omega), if_pos (by omega)] | rw [if_neg (by omega), if_neg (by omega)]]⟩
  · refine x_iload_n 5 hK rfl rfl rfl ?_
    refine x_i2bF 6 hK rfl rfl ?_
    exact x_iret hK rfl ⟨rfl, by rw [show entF k v = (bI2b v) from by unfold entF; first | rw [if_pos (by omega)] | rw [if_neg (by omega), if_pos (by omega)] | rw [if_neg (by omega), if_neg (by omega)]]⟩
set_option maxRecDepth 4000 in
theorem ctX10_sheetF {SP : CT} (hSP : MONO SP) {sh : List (Nat × Nat)} {h : aH} (hG : GD gE gRL sh h) {x y z u : Int} (rx : r32 x) (ry : r32 y) (rz : r32 z) (ru : r32 u) : CLd SP 4 mX10_sheet [.ref 0, .int (I x), .int (I y), .int (I z), .int (I u)] h 0 0 (fun rv h' => rv = some (.int (I (shA x y z u (gi h 0 9)))) ∧ GD gE gRL sh h' ∧ FRM gRL [(0, 16, 0, 7)] h h' ∧ ∀ j : Nat, gi h' 22 j = if ((0 ≤ x ∧ x ≤ 3) ∧ y ≤ 8 ∧ ¬ (x ≠ 3 ∧ y < 0)) ∧ (j : Int) < (gi h 0 9) then shE x y z u j else gi h 22 j) := by
  refine x_met _ rfl (Nat.le_of_ble_eq_true rfl) (fun K hK => ?_)
  have hmono := MONO_CLd hSP 3
  have gm := gri 0 8 hG (a := 0) (r := 0) (k := 9) rfl rfl
  have loop : ∀ (mz : Nat) (e w i : Int) (h4 : aH) (ls : List (Nat × Value)), (((gi h 0 9) - i).toNat = mz) → (e = (if x = 3 then 0 else y)) → (0 ≤ i ∧ i ≤ (gi h 0 9)) → ((0 ≤ x ∧ x ≤ 3) ∧ y ≤ 8 ∧ ¬ (x ≠ 3 ∧ y < 0)) → (w = shS x y z u i.toNat) → (∀ j : Nat, gi h4 22 j = if (j : Int) < i then shE x y z u j else gi h 22 j) → lk ls 0 = some (.ref 0) → lk ls 1 = some (.int (I x)) → lk ls 2 = some (.int (I y)) → lk ls 3 = some (.int (I z)) → lk ls 4 = some (.int (I u)) → lk ls 5 = some (.int (I e)) → lk ls 6 = some (.int (I w)) → lk ls 7 = some (.int (I i)) → GD gE gRL sh h4 → FRM gRL [(0, 16, 0, 7)] h h4 → K 47 ls [] h4 0 0 := by
    intro mz
    induction mz using Nat.strongRecOn with
    | ind mz ih =>
    intro e w i h4 ls hm e0 i0 x0 w0 ev l0 l1 l2 l3 l4 l5 l6 l7 hG4 hF4
    have m4 : gi h4 0 9 = gi h 0 9 := FRM_gi hF4 (r := 0) rfl rfl
    have ws := shS_r x y z u i.toNat
    have se := shE_r x y z u i
    have eb : -2147483648 ≤ e ∧ e ≤ 8 := by rw [e0]; split <;> omega
    have sE : shE x y z u i = if i < e then max 0 (min 9 (entF x (z + i * u))) else 0 := by
      unfold shE
      rw [e0]
      by_cases c : x = 3
      · rw [if_pos c, if_neg (by omega), if_neg (by omega)]
      · rw [if_neg c]
        exact if_c (by omega)
    refine x_iload 49 hK rfl rfl l7 ?_
    refine x_aload_n 50 hK rfl rfl l0 ?_
    have g226 := gri (0) (8) hG (a := 0) (r := 0) (k := 9) rfl rfl
    refine x_getE 53 hK rfl (Or.inl rfl) rfl (sp_0 (h := h4) hG4) (e := (gi h 0 9)) (m4) ?_
    refine x_if_icmp_ge 109 56 hK rfl rfl rfl (by omega) (by omega) (fun c4 => ?_) (fun c4 => ?_)
    · refine x_iload_n 110 hK rfl rfl l1 ?_
      refine x_iconst 111 hK rfl rfl ?_
      refine x_if_icmp_ne 119 114 hK rfl rfl rfl (by omega) (by omega) (fun c7 => ?_) (fun c7 => ?_)
      · refine x_iload 121 hK rfl rfl l6 ?_
        have ee : ∀ j : Nat, gi h4 22 j = if ((0 ≤ x ∧ x ≤ 3) ∧ y ≤ 8 ∧ ¬ (x ≠ 3 ∧ y < 0)) ∧ (j : Int) < (gi h 0 9) then shE x y z u j else gi h 22 j := fun j => by
          rw [ev j, show i = (gi h 0 9) by omega]
          by_cases q : (j : Int) < (gi h 0 9)
          · rw [if_pos q, if_pos ⟨x0, q⟩]
          · rw [if_neg q, if_neg (fun z => q z.2)]
        exact x_iret hK rfl ⟨by unfold shA; rw [if_pos (by omega), if_neg (by omega), if_neg (by omega), w0, show i.toNat = (gi h 0 9).toNat by omega], hG4, hF4, ee⟩
      · refine x_bipush 116 hK rfl rfl rfl ?_
        refine x_goto 121 hK rfl rfl ?_
        have ee : ∀ j : Nat, gi h4 22 j = if ((0 ≤ x ∧ x ≤ 3) ∧ y ≤ 8 ∧ ¬ (x ≠ 3 ∧ y < 0)) ∧ (j : Int) < (gi h 0 9) then shE x y z u j else gi h 22 j := fun j => by
          rw [ev j, show i = (gi h 0 9) by omega]
          by_cases q : (j : Int) < (gi h 0 9)
          · rw [if_pos q, if_pos ⟨x0, q⟩]
          · rw [if_neg q, if_neg (fun z => q z.2)]
        exact x_iret hK rfl ⟨by unfold shA; rw [if_pos (by omega), if_neg (by omega), if_pos (by omega)], hG4, hF4, ee⟩
    · refine x_aload_n 57 hK rfl rfl l0 ?_
      refine x_getR 60 hK rfl rfl (sp_0 (h := h4) hG4) (rf_0_8 (h := h4) hG4) ?_
      refine x_iload 62 hK rfl rfl l7 ?_
      refine x_iload 64 hK rfl rfl l7 ?_
      refine x_iload 66 hK rfl rfl l5 ?_
      refine x_if_icmp_ge 89 69 hK rfl rfl rfl (by omega) (by omega) (fun c18 => ?_) (fun c18 => ?_)
      · refine x_iconst 90 hK rfl rfl ?_
        refine x_iastore 91 hK rfl rfl (sp_22 (h := h4) hG4) (by omega) (by omega) (by omega) ?_
        refine x_iload 93 hK rfl rfl l6 ?_
        refine x_aload_n 94 hK rfl rfl l0 ?_
        refine x_getR 97 hK rfl rfl (sp_0 (h := h4) hG4) (rf_0_8 (h := h4) hG4) ?_
        refine x_iload 99 hK rfl rfl l7 ?_
        refine x_ialoadE 100 hK rfl rfl (sp_22 (h := h4) hG4) (by omega) (by omega) (by omega) (e' := 0) (gi_same (by omega)) ?_
        refine x_iadd 101 hK rfl rfl ?_
        refine x_istore 103 hK rfl rfl _ rfl ?_
        refine x_iinc 106 hK rfl rfl (lk1_n l7 (by decide) (Or.inl rfl)) _ rfl ?_
        refine x_goto 47 hK rfl rfl ?_
        exact ih _ (by omega) e (w + 0) (i + 1) _ _ rfl (e0) (by omega) (x0) (by rw [shS_s i0.1, sE, w0]; first | rw [if_pos (by omega)] | rw [if_neg (by omega)]) (fun j => by
          by_cases q : j = i.toNat
          · rw [if_pos (by omega), q]
            exact (gi_same (by omega)).trans (by rw [show ((i.toNat : Nat) : Int) = i by omega, sE]; first | rw [if_pos (by omega)] | rw [if_neg (by omega)])
          · refine (gi_k (by omega) _).trans ((ev j).trans ?_)
            by_cases y : (j : Int) < i
            · rw [if_pos y, if_pos (by omega)]
            · rw [if_neg y, if_neg (by omega)]) (lk1_n (lk1_n l0 (by decide) (Or.inl rfl)) (by decide) (Or.inl rfl)) (lk1_n (lk1_n l1 (by decide) (Or.inl rfl)) (by decide) (Or.inl rfl)) (lk1_n (lk1_n l2 (by decide) (Or.inl rfl)) (by decide) (Or.inl rfl)) (lk1_n (lk1_n l3 (by decide) (Or.inl rfl)) (by decide) (Or.inl rfl)) (lk1_n (lk1_n l4 (by decide) (Or.inl rfl)) (by decide) (Or.inl rfl)) (lk1_n (lk1_n l5 (by decide) (Or.inl rfl)) (by decide) (Or.inl rfl)) (lk1_n lk1_s (by decide) (Or.inl rfl)) lk1_s (GD_wu (hG4) (r := 16) rfl (by omega) rfl (by omega) (by omega)) (FRM_wn 0 7 (hF4) (r := 16) rfl rfl rfl (by omega) (by omega))
      · refine x_iload_n 70 hK rfl rfl l1 ?_
        refine x_iload_n 71 hK rfl rfl l3 ?_
        refine x_iload 73 hK rfl rfl l7 ?_
        refine x_iload 75 hK rfl rfl l4 ?_
        refine x_imul 76 hK rfl rfl ?_
        refine x_iadd 77 hK rfl rfl ?_
        refine x_callS 80 hK hmono rfl (Or.inl rfl) rfl [.int (I x), .int (I (z + (i * u)))] [.int (I i), .ref 22] rfl rfl (Nat.le_of_ble_eq_true rfl) (Nat.le_of_ble_eq_true rfl) (CLd_le (Nat.le_of_ble_eq_true rfl) (ctX10_entry hSP (k := x) (v := (z + (i * u))) (by omega))) ?_
        rintro v9 h9 ⟨e9, rfl⟩
        rw [e9]
        clear e9
        have g227 := entF_r x (z + (i * u))
        refine x_iconst 81 hK rfl rfl ?_
        refine x_bipush 83 hK rfl rfl rfl ?_
        refine x_callS 86 hK hmono rfl (Or.inl rfl) rfl [.int (I (entF x (z + (i * u)))), .int (I 0), .int (I 9)] [.int (I i), .ref 22] rfl rfl (Nat.le_of_ble_eq_true rfl) (Nat.le_of_ble_eq_true rfl) (CLd_le (Nat.le_of_ble_eq_true rfl) (ctX10_putG hSP (v := (entF x (z + (i * u)))) (a := 0) (b := 9) (by omega) (by omega) (by omega))) ?_
        rintro v9 h9 ⟨e9, rfl⟩
        rw [e9]
        clear e9
        refine x_goto 90 hK rfl rfl ?_
        refine x_iastore 91 hK rfl rfl (sp_22 (h := h4) hG4) (by omega) (by omega) (by omega) ?_
        refine x_iload 93 hK rfl rfl l6 ?_
        refine x_aload_n 94 hK rfl rfl l0 ?_
        refine x_getR 97 hK rfl rfl (sp_0 (h := h4) hG4) (rf_0_8 (h := h4) hG4) ?_
        refine x_iload 99 hK rfl rfl l7 ?_
        refine x_ialoadE 100 hK rfl rfl (sp_22 (h := h4) hG4) (by omega) (by omega) (by omega) (e' := (max 0 (min 9 (entF x (z + (i * u)))))) (gi_same (by omega)) ?_
        refine x_iadd 101 hK rfl rfl ?_
        refine x_istore 103 hK rfl rfl _ rfl ?_
        refine x_iinc 106 hK rfl rfl (lk1_n l7 (by decide) (Or.inl rfl)) _ rfl ?_
        refine x_goto 47 hK rfl rfl ?_
        exact ih _ (by omega) e (w + (max 0 (min 9 (entF x (z + (i * u)))))) (i + 1) _ _ rfl (e0) (by omega) (x0) (by rw [shS_s i0.1, sE, w0]; first | rw [if_pos (by omega)] | rw [if_neg (by omega)]) (fun j => by
          by_cases q : j = i.toNat
          · rw [if_pos (by omega), q]
            exact (gi_same (by omega)).trans (by rw [show ((i.toNat : Nat) : Int) = i by omega, sE]; first | rw [if_pos (by omega)] | rw [if_neg (by omega)])
          · refine (gi_k (by omega) _).trans ((ev j).trans ?_)
            by_cases y : (j : Int) < i
            · rw [if_pos y, if_pos (by omega)]
            · rw [if_neg y, if_neg (by omega)]) (lk1_n (lk1_n l0 (by decide) (Or.inl rfl)) (by decide) (Or.inl rfl)) (lk1_n (lk1_n l1 (by decide) (Or.inl rfl)) (by decide) (Or.inl rfl)) (lk1_n (lk1_n l2 (by decide) (Or.inl rfl)) (by decide) (Or.inl rfl)) (lk1_n (lk1_n l3 (by decide) (Or.inl rfl)) (by decide) (Or.inl rfl)) (lk1_n (lk1_n l4 (by decide) (Or.inl rfl)) (by decide) (Or.inl rfl)) (lk1_n (lk1_n l5 (by decide) (Or.inl rfl)) (by decide) (Or.inl rfl)) (lk1_n lk1_s (by decide) (Or.inl rfl)) lk1_s (GD_wu (hG4) (r := 16) rfl (by omega) rfl (by omega) (by omega)) (FRM_wn 0 7 (hF4) (r := 16) rfl rfl rfl (by omega) (by omega))
  refine x_iload_n 1 hK rfl rfl rfl ?_
  refine x_if_lt 15 4 hK rfl rfl rfl (by omega) (fun c2 => ?_) (fun c2 => ?_)
  · refine x_iconst 16 hK rfl rfl ?_
    exact x_iret hK rfl ⟨by unfold shA; rw [if_neg (by omega)], hG, FRM.rf, fun j => (if_neg (fun z => by have z1 := z.1; omega)).symm⟩
  · refine x_iload_n 5 hK rfl rfl rfl ?_
    refine x_iconst 6 hK rfl rfl ?_
    refine x_if_icmp_gt 15 9 hK rfl rfl rfl (by omega) (by omega) (fun c7 => ?_) (fun c7 => ?_)
    · refine x_iconst 16 hK rfl rfl ?_
      exact x_iret hK rfl ⟨by unfold shA; rw [if_neg (by omega)], hG, FRM.rf, fun j => (if_neg (fun z => by have z1 := z.1; omega)).symm⟩
    · refine x_iload_n 10 hK rfl rfl rfl ?_
      refine x_bipush 12 hK rfl rfl rfl ?_
      refine x_if_icmp_le 17 15 hK rfl rfl rfl (by omega) (by omega) (fun c12 => ?_) (fun c12 => ?_)
      · refine x_iload_n 18 hK rfl rfl rfl ?_
        refine x_iconst 19 hK rfl rfl ?_
        refine x_if_icmp_ge 29 22 hK rfl rfl rfl (by omega) (by omega) (fun c15 => ?_) (fun c15 => ?_)
        · refine x_iload_n 30 hK rfl rfl rfl ?_
          refine x_iconst 31 hK rfl rfl ?_
          refine x_if_icmp_ne 38 34 hK rfl rfl rfl (by omega) (by omega) (fun c => by omega) (fun _ => ?_)
          refine x_iconst 35 hK rfl rfl ?_
          refine x_goto 39 hK rfl rfl ?_
          refine x_istore 41 hK rfl rfl [(5, .int (I 0)), (0, .ref 0), (1, .int (I x)), (2, .int (I y)), (3, .int (I z)), (4, .int (I u))] rfl ?_
          refine x_iconst 42 hK rfl rfl ?_
          refine x_istore 44 hK rfl rfl [(6, .int (I 0)), (5, .int (I 0)), (0, .ref 0), (1, .int (I x)), (2, .int (I y)), (3, .int (I z)), (4, .int (I u))] rfl ?_
          refine x_iconst 45 hK rfl rfl ?_
          refine x_istore 47 hK rfl rfl [(7, .int (I 0)), (6, .int (I 0)), (5, .int (I 0)), (0, .ref 0), (1, .int (I x)), (2, .int (I y)), (3, .int (I z)), (4, .int (I u))] rfl ?_
          exact loop _ 0 0 0 _ _ rfl (by first | rw [if_pos (by omega)] | rw [if_neg (by omega)]) (by omega) (by omega) (rfl) (fun j => (if_neg (by omega)).symm) rfl rfl rfl rfl rfl rfl rfl rfl (hG) ((FRM.rf : FRM gRL [(0, 16, 0, 7)] h h))
        · refine x_iload_n 23 hK rfl rfl rfl ?_
          refine x_if_ge 29 26 hK rfl rfl rfl (by omega) (fun c28 => ?_) (fun c28 => ?_)
          · refine x_iload_n 30 hK rfl rfl rfl ?_
            refine x_iconst 31 hK rfl rfl ?_
            refine x_if_icmp_ne 38 34 hK rfl rfl rfl (by omega) (by omega) (fun _ => ?_) (fun c => by omega)
            refine x_iload_n 39 hK rfl rfl rfl ?_
            refine x_istore 41 hK rfl rfl [(5, .int (I y)), (0, .ref 0), (1, .int (I x)), (2, .int (I y)), (3, .int (I z)), (4, .int (I u))] rfl ?_
            refine x_iconst 42 hK rfl rfl ?_
            refine x_istore 44 hK rfl rfl [(6, .int (I 0)), (5, .int (I y)), (0, .ref 0), (1, .int (I x)), (2, .int (I y)), (3, .int (I z)), (4, .int (I u))] rfl ?_
            refine x_iconst 45 hK rfl rfl ?_
            refine x_istore 47 hK rfl rfl [(7, .int (I 0)), (6, .int (I 0)), (5, .int (I y)), (0, .ref 0), (1, .int (I x)), (2, .int (I y)), (3, .int (I z)), (4, .int (I u))] rfl ?_
            exact loop _ y 0 0 _ _ rfl (by first | rw [if_pos (by omega)] | rw [if_neg (by omega)]) (by omega) (by omega) (rfl) (fun j => (if_neg (by omega)).symm) rfl rfl rfl rfl rfl rfl rfl rfl (hG) ((FRM.rf : FRM gRL [(0, 16, 0, 7)] h h))
          · refine x_bipush 28 hK rfl rfl rfl ?_
            exact x_iret hK rfl ⟨by unfold shA; rw [if_pos (by omega), if_pos (by omega)], hG, FRM.rf, fun j => (if_neg (fun z => by have z1 := z.1; omega)).symm⟩
      · refine x_iconst 16 hK rfl rfl ?_
        exact x_iret hK rfl ⟨by unfold shA; rw [if_neg (by omega)], hG, FRM.rf, fun j => (if_neg (fun z => by have z1 := z.1; omega)).symm⟩
set_option maxRecDepth 4000 in
theorem ctX11_sheetF {SP : CT} (hSP : MONO SP) {sh : List (Nat × Nat)} {h : aH} (hG : GD gE gRL sh h) {x y z u : Int} (rx : r32 x) (ry : r32 y) (rz : r32 z) (ru : r32 u) : CLd SP 4 mX11_sheet [.ref 171, .int (I x), .int (I y), .int (I z), .int (I u)] h 0 0 (fun rv h' => rv = some (.int (I (shA x y z u (gi h 171 7)))) ∧ GD gE gRL sh h' ∧ FRM gRL [(0, 54, 0, 0), (0, 60, 0, 7)] h h' ∧ ∀ j : Nat, gi h' 177 j = if ((0 ≤ x ∧ x ≤ 3) ∧ y ≤ 8 ∧ ¬ (x ≠ 3 ∧ y < 0)) ∧ (j : Int) < (gi h 171 7) then shE x y z u j else gi h 177 j) := by
  refine x_met _ rfl (Nat.le_of_ble_eq_true rfl) (fun K hK => ?_)
  have hmono := MONO_CLd hSP 3
  have gm := gri 0 8 hG (a := 171) (r := 54) (k := 7) rfl rfl
  have loop : ∀ (mz : Nat) (w v i : Int) (h4 : aH) (ls : List (Nat × Value)), (((gi h 171 7) - i).toNat = mz) → (0 ≤ i ∧ i ≤ (gi h 171 7)) → ((0 ≤ x ∧ x ≤ 3) ∧ y ≤ 8 ∧ ¬ (x ≠ 3 ∧ y < 0)) → (w = shS x y z u i.toNat) → (v = z + i * u) → (∀ j : Nat, gi h4 177 j = if (j : Int) < i then shE x y z u j else gi h 177 j) → lk ls 0 = some (.ref 171) → lk ls 1 = some (.int (I x)) → lk ls 2 = some (.int (I y)) → lk ls 3 = some (.int (I z)) → lk ls 4 = some (.int (I u)) → lk ls 5 = some (.int (I w)) → lk ls 6 = some (.int (I v)) → lk ls 7 = some (.int (I i)) → GD gE gRL sh h4 → FRM gRL [(0, 54, 0, 0), (0, 60, 0, 7)] h h4 → K 46 ls [] h4 0 0 := by
    intro mz
    induction mz using Nat.strongRecOn with
    | ind mz ih =>
    intro w v i h4 ls hm i0 x0 w0 v0 ev l0 l1 l2 l3 l4 l5 l6 l7 hG4 hF4
    have m4 : gi h4 171 7 = gi h 171 7 := FRM_gi hF4 (r := 54) rfl rfl
    have ws := shS_r x y z u i.toNat
    have se := shE_r x y z u i
    have b1 := bI2b_r v
    have b2 := bI2s_r v
    have b3 := w32_r v
    refine x_iload 48 hK rfl rfl l7 ?_
    refine x_aload_n 49 hK rfl rfl l0 ?_
    have g228 := gri (0) (8) hG (a := 171) (r := 54) (k := 7) rfl rfl
    refine x_getE 52 hK rfl (Or.inl rfl) rfl (sp_171 (h := h4) hG4) (e := (gi h 171 7)) (m4) ?_
    refine x_if_icmp_ge 138 55 hK rfl rfl rfl (by omega) (by omega) (fun c4 => ?_) (fun c4 => ?_)
    · refine x_iload_n 139 hK rfl rfl l1 ?_
      refine x_iconst 140 hK rfl rfl ?_
      refine x_if_icmp_ne 148 143 hK rfl rfl rfl (by omega) (by omega) (fun c7 => ?_) (fun c7 => ?_)
      · refine x_iload 150 hK rfl rfl l5 ?_
        have ee : ∀ j : Nat, gi h4 177 j = if ((0 ≤ x ∧ x ≤ 3) ∧ y ≤ 8 ∧ ¬ (x ≠ 3 ∧ y < 0)) ∧ (j : Int) < (gi h 171 7) then shE x y z u j else gi h 177 j := fun j => by
          rw [ev j, show i = (gi h 171 7) by omega]
          by_cases q : (j : Int) < (gi h 171 7)
          · rw [if_pos q, if_pos ⟨x0, q⟩]
          · rw [if_neg q, if_neg (fun z => q z.2)]
        exact x_iret hK rfl ⟨by unfold shA; rw [if_pos (by omega), if_neg (by omega), if_neg (by omega), w0, show i.toNat = (gi h 171 7).toNat by omega], hG4, hF4, ee⟩
      · refine x_bipush 145 hK rfl rfl rfl ?_
        refine x_goto 150 hK rfl rfl ?_
        have ee : ∀ j : Nat, gi h4 177 j = if ((0 ≤ x ∧ x ≤ 3) ∧ y ≤ 8 ∧ ¬ (x ≠ 3 ∧ y < 0)) ∧ (j : Int) < (gi h 171 7) then shE x y z u j else gi h 177 j := fun j => by
          rw [ev j, show i = (gi h 171 7) by omega]
          by_cases q : (j : Int) < (gi h 171 7)
          · rw [if_pos q, if_pos ⟨x0, q⟩]
          · rw [if_neg q, if_neg (fun z => q z.2)]
        exact x_iret hK rfl ⟨by unfold shA; rw [if_pos (by omega), if_neg (by omega), if_pos (by omega)], hG4, hF4, ee⟩
    · refine x_iload_n 56 hK rfl rfl l1 ?_
      refine x_if_ne 65 59 hK rfl rfl rfl (by omega) (fun c14 => ?_) (fun c14 => ?_)
      · refine x_iload_n 66 hK rfl rfl l1 ?_
        refine x_iconst 67 hK rfl rfl ?_
        refine x_if_icmp_ne 76 70 hK rfl rfl rfl (by omega) (by omega) (fun c17 => ?_) (fun c17 => ?_)
        · refine x_iload 78 hK rfl rfl l6 ?_
          rw [← I_w v]
          have en : entF x (z + i * u) = (w32 v) := by rw [← v0]; unfold entF; first | rw [if_pos (by omega)] | rw [if_neg (by omega), if_pos (by omega)] | rw [if_neg (by omega), if_neg (by omega)]
          refine x_istore 80 hK rfl rfl _ rfl ?_
          refine x_aload_n 81 hK rfl rfl (lk1_n l0 (by decide) (Or.inl rfl)) ?_
          refine x_getR 84 hK rfl rfl (sp_171 (h := h4) hG4) (rf_171_13 (h := h4) hG4) ?_
          refine x_iload 86 hK rfl rfl (lk1_n l7 (by decide) (Or.inl rfl)) ?_
          refine x_iload_n 87 hK rfl rfl (lk1_n l1 (by decide) (Or.inl rfl)) ?_
          refine x_iconst 88 hK rfl rfl ?_
          refine x_if_icmp_eq 97 91 hK rfl rfl rfl (by omega) (by omega) (fun c26 => ?_) (fun c26 => ?_)
          · refine x_iconst 98 hK rfl rfl ?_
            refine x_goto 112 hK rfl rfl ?_
            refine x_iastore 113 hK rfl rfl (sp_177 (h := h4) hG4) (by omega) (by omega) (by omega) ?_
            refine x_iload 115 hK rfl rfl (lk1_n l5 (by decide) (Or.inl rfl)) ?_
            refine x_aload_n 116 hK rfl rfl (lk1_n l0 (by decide) (Or.inl rfl)) ?_
            refine x_getR 119 hK rfl rfl (sp_171 (h := h4) hG4) (rf_171_13 (h := h4) hG4) ?_
            refine x_iload 121 hK rfl rfl (lk1_n l7 (by decide) (Or.inl rfl)) ?_
            refine x_ialoadE 122 hK rfl rfl (sp_177 (h := h4) hG4) (by omega) (by omega) (by omega) (e' := 0) (gi_same (by omega)) ?_
            refine x_iadd 123 hK rfl rfl ?_
            refine x_istore 125 hK rfl rfl _ rfl ?_
            refine x_iload 127 hK rfl rfl (lk1_n (lk1_n l6 (by decide) (Or.inl rfl)) (by decide) (Or.inl rfl)) ?_
            refine x_iload 129 hK rfl rfl (lk1_n (lk1_n l4 (by decide) (Or.inl rfl)) (by decide) (Or.inl rfl)) ?_
            refine x_iadd 130 hK rfl rfl ?_
            refine x_istore 132 hK rfl rfl _ rfl ?_
            refine x_iinc 135 hK rfl rfl (lk1_n (lk1_n (lk1_n l7 (by decide) (Or.inl rfl)) (by decide) (Or.inl rfl)) (by decide) (Or.inl rfl)) _ rfl ?_
            refine x_goto 46 hK rfl rfl ?_
            exact ih _ (by omega) (w + 0) (v + u) (i + 1) _ _ rfl (by omega) (x0) (by rw [shS_s i0.1, w0]; unfold shE; rw [en]; first | rw [if_pos (by omega)] | rw [if_neg (by omega)]) (by rw [v0, Int.add_mul, Int.one_mul, Int.add_assoc]) (fun j => by
              by_cases q : j = i.toNat
              · rw [if_pos (by omega), q]
                exact (gi_same (by omega)).trans (by rw [show ((i.toNat : Nat) : Int) = i by omega]; unfold shE; rw [en]; first | rw [if_pos (by omega)] | rw [if_neg (by omega)])
              · refine (gi_k (by omega) _).trans ((ev j).trans ?_)
                by_cases y : (j : Int) < i
                · rw [if_pos y, if_pos (by omega)]
                · rw [if_neg y, if_neg (by omega)]) (lk1_n (lk1_n (lk1_n (lk1_n l0 (by decide) (Or.inl rfl)) (by decide) (Or.inl rfl)) (by decide) (Or.inl rfl)) (by decide) (Or.inl rfl)) (lk1_n (lk1_n (lk1_n (lk1_n l1 (by decide) (Or.inl rfl)) (by decide) (Or.inl rfl)) (by decide) (Or.inl rfl)) (by decide) (Or.inl rfl)) (lk1_n (lk1_n (lk1_n (lk1_n l2 (by decide) (Or.inl rfl)) (by decide) (Or.inl rfl)) (by decide) (Or.inl rfl)) (by decide) (Or.inl rfl)) (lk1_n (lk1_n (lk1_n (lk1_n l3 (by decide) (Or.inl rfl)) (by decide) (Or.inl rfl)) (by decide) (Or.inl rfl)) (by decide) (Or.inl rfl)) (lk1_n (lk1_n (lk1_n (lk1_n l4 (by decide) (Or.inl rfl)) (by decide) (Or.inl rfl)) (by decide) (Or.inl rfl)) (by decide) (Or.inl rfl)) (lk1_n (lk1_n lk1_s (by decide) (Or.inl rfl)) (by decide) (Or.inl rfl)) (lk1_n lk1_s (by decide) (Or.inl rfl)) lk1_s (GD_wu (hG4) (r := 60) rfl (by omega) rfl (by omega) (by omega)) (FRM_wn 0 7 (hF4) (r := 60) rfl rfl rfl (by omega) (by omega))
          · refine x_iload 93 hK rfl rfl (lk1_n l7 (by decide) (Or.inl rfl)) ?_
            refine x_iload_n 94 hK rfl rfl (lk1_n l2 (by decide) (Or.inl rfl)) ?_
            refine x_if_icmp_lt 101 97 hK rfl rfl rfl (by omega) (by omega) (fun c46 => ?_) (fun c46 => ?_)
            · refine x_iconst 102 hK rfl rfl ?_
              refine x_bipush 104 hK rfl rfl rfl ?_
              refine x_iload 106 hK rfl rfl lk1_s ?_
              refine x_min 109 hK rfl rfl (Nat.le_of_ble_eq_true rfl) (by omega) (by omega) ?_
              refine x_max 112 hK rfl rfl (Nat.le_of_ble_eq_true rfl) (by omega) (by omega) ?_
              refine x_iastore 113 hK rfl rfl (sp_177 (h := h4) hG4) (by omega) (by omega) (by omega) ?_
              refine x_iload 115 hK rfl rfl (lk1_n l5 (by decide) (Or.inl rfl)) ?_
              refine x_aload_n 116 hK rfl rfl (lk1_n l0 (by decide) (Or.inl rfl)) ?_
              refine x_getR 119 hK rfl rfl (sp_171 (h := h4) hG4) (rf_171_13 (h := h4) hG4) ?_
              refine x_iload 121 hK rfl rfl (lk1_n l7 (by decide) (Or.inl rfl)) ?_
              refine x_ialoadE 122 hK rfl rfl (sp_177 (h := h4) hG4) (by omega) (by omega) (by omega) (e' := (max 0 (min 9 (w32 v)))) (gi_same (by omega)) ?_
              refine x_iadd 123 hK rfl rfl ?_
              refine x_istore 125 hK rfl rfl _ rfl ?_
              refine x_iload 127 hK rfl rfl (lk1_n (lk1_n l6 (by decide) (Or.inl rfl)) (by decide) (Or.inl rfl)) ?_
              refine x_iload 129 hK rfl rfl (lk1_n (lk1_n l4 (by decide) (Or.inl rfl)) (by decide) (Or.inl rfl)) ?_
              refine x_iadd 130 hK rfl rfl ?_
              refine x_istore 132 hK rfl rfl _ rfl ?_
              refine x_iinc 135 hK rfl rfl (lk1_n (lk1_n (lk1_n l7 (by decide) (Or.inl rfl)) (by decide) (Or.inl rfl)) (by decide) (Or.inl rfl)) _ rfl ?_
              refine x_goto 46 hK rfl rfl ?_
              exact ih _ (by omega) (w + (max 0 (min 9 (w32 v)))) (v + u) (i + 1) _ _ rfl (by omega) (x0) (by rw [shS_s i0.1, w0]; unfold shE; rw [en]; first | rw [if_pos (by omega)] | rw [if_neg (by omega)]) (by rw [v0, Int.add_mul, Int.one_mul, Int.add_assoc]) (fun j => by
                by_cases q : j = i.toNat
                · rw [if_pos (by omega), q]
                  exact (gi_same (by omega)).trans (by rw [show ((i.toNat : Nat) : Int) = i by omega]; unfold shE; rw [en]; first | rw [if_pos (by omega)] | rw [if_neg (by omega)])
                · refine (gi_k (by omega) _).trans ((ev j).trans ?_)
                  by_cases y : (j : Int) < i
                  · rw [if_pos y, if_pos (by omega)]
                  · rw [if_neg y, if_neg (by omega)]) (lk1_n (lk1_n (lk1_n (lk1_n l0 (by decide) (Or.inl rfl)) (by decide) (Or.inl rfl)) (by decide) (Or.inl rfl)) (by decide) (Or.inl rfl)) (lk1_n (lk1_n (lk1_n (lk1_n l1 (by decide) (Or.inl rfl)) (by decide) (Or.inl rfl)) (by decide) (Or.inl rfl)) (by decide) (Or.inl rfl)) (lk1_n (lk1_n (lk1_n (lk1_n l2 (by decide) (Or.inl rfl)) (by decide) (Or.inl rfl)) (by decide) (Or.inl rfl)) (by decide) (Or.inl rfl)) (lk1_n (lk1_n (lk1_n (lk1_n l3 (by decide) (Or.inl rfl)) (by decide) (Or.inl rfl)) (by decide) (Or.inl rfl)) (by decide) (Or.inl rfl)) (lk1_n (lk1_n (lk1_n (lk1_n l4 (by decide) (Or.inl rfl)) (by decide) (Or.inl rfl)) (by decide) (Or.inl rfl)) (by decide) (Or.inl rfl)) (lk1_n (lk1_n lk1_s (by decide) (Or.inl rfl)) (by decide) (Or.inl rfl)) (lk1_n lk1_s (by decide) (Or.inl rfl)) lk1_s (GD_wu (hG4) (r := 60) rfl (by omega) rfl (by omega) (by omega)) (FRM_wn 0 7 (hF4) (r := 60) rfl rfl rfl (by omega) (by omega))
            · refine x_iconst 98 hK rfl rfl ?_
              refine x_goto 112 hK rfl rfl ?_
              refine x_iastore 113 hK rfl rfl (sp_177 (h := h4) hG4) (by omega) (by omega) (by omega) ?_
              refine x_iload 115 hK rfl rfl (lk1_n l5 (by decide) (Or.inl rfl)) ?_
              refine x_aload_n 116 hK rfl rfl (lk1_n l0 (by decide) (Or.inl rfl)) ?_
              refine x_getR 119 hK rfl rfl (sp_171 (h := h4) hG4) (rf_171_13 (h := h4) hG4) ?_
              refine x_iload 121 hK rfl rfl (lk1_n l7 (by decide) (Or.inl rfl)) ?_
              refine x_ialoadE 122 hK rfl rfl (sp_177 (h := h4) hG4) (by omega) (by omega) (by omega) (e' := 0) (gi_same (by omega)) ?_
              refine x_iadd 123 hK rfl rfl ?_
              refine x_istore 125 hK rfl rfl _ rfl ?_
              refine x_iload 127 hK rfl rfl (lk1_n (lk1_n l6 (by decide) (Or.inl rfl)) (by decide) (Or.inl rfl)) ?_
              refine x_iload 129 hK rfl rfl (lk1_n (lk1_n l4 (by decide) (Or.inl rfl)) (by decide) (Or.inl rfl)) ?_
              refine x_iadd 130 hK rfl rfl ?_
              refine x_istore 132 hK rfl rfl _ rfl ?_
              refine x_iinc 135 hK rfl rfl (lk1_n (lk1_n (lk1_n l7 (by decide) (Or.inl rfl)) (by decide) (Or.inl rfl)) (by decide) (Or.inl rfl)) _ rfl ?_
              refine x_goto 46 hK rfl rfl ?_
              exact ih _ (by omega) (w + 0) (v + u) (i + 1) _ _ rfl (by omega) (x0) (by rw [shS_s i0.1, w0]; unfold shE; rw [en]; first | rw [if_pos (by omega)] | rw [if_neg (by omega)]) (by rw [v0, Int.add_mul, Int.one_mul, Int.add_assoc]) (fun j => by
                by_cases q : j = i.toNat
                · rw [if_pos (by omega), q]
                  exact (gi_same (by omega)).trans (by rw [show ((i.toNat : Nat) : Int) = i by omega]; unfold shE; rw [en]; first | rw [if_pos (by omega)] | rw [if_neg (by omega)])
                · refine (gi_k (by omega) _).trans ((ev j).trans ?_)
                  by_cases y : (j : Int) < i
                  · rw [if_pos y, if_pos (by omega)]
                  · rw [if_neg y, if_neg (by omega)]) (lk1_n (lk1_n (lk1_n (lk1_n l0 (by decide) (Or.inl rfl)) (by decide) (Or.inl rfl)) (by decide) (Or.inl rfl)) (by decide) (Or.inl rfl)) (lk1_n (lk1_n (lk1_n (lk1_n l1 (by decide) (Or.inl rfl)) (by decide) (Or.inl rfl)) (by decide) (Or.inl rfl)) (by decide) (Or.inl rfl)) (lk1_n (lk1_n (lk1_n (lk1_n l2 (by decide) (Or.inl rfl)) (by decide) (Or.inl rfl)) (by decide) (Or.inl rfl)) (by decide) (Or.inl rfl)) (lk1_n (lk1_n (lk1_n (lk1_n l3 (by decide) (Or.inl rfl)) (by decide) (Or.inl rfl)) (by decide) (Or.inl rfl)) (by decide) (Or.inl rfl)) (lk1_n (lk1_n (lk1_n (lk1_n l4 (by decide) (Or.inl rfl)) (by decide) (Or.inl rfl)) (by decide) (Or.inl rfl)) (by decide) (Or.inl rfl)) (lk1_n (lk1_n lk1_s (by decide) (Or.inl rfl)) (by decide) (Or.inl rfl)) (lk1_n lk1_s (by decide) (Or.inl rfl)) lk1_s (GD_wu (hG4) (r := 60) rfl (by omega) rfl (by omega) (by omega)) (FRM_wn 0 7 (hF4) (r := 60) rfl rfl rfl (by omega) (by omega))
        · refine x_iload 72 hK rfl rfl l6 ?_
          refine x_i2sF 73 hK rfl rfl ?_
          refine x_goto 78 hK rfl rfl ?_
          have en : entF x (z + i * u) = (bI2s v) := by rw [← v0]; unfold entF; first | rw [if_pos (by omega)] | rw [if_neg (by omega), if_pos (by omega)] | rw [if_neg (by omega), if_neg (by omega)]
          refine x_istore 80 hK rfl rfl _ rfl ?_
          refine x_aload_n 81 hK rfl rfl (lk1_n l0 (by decide) (Or.inl rfl)) ?_
          refine x_getR 84 hK rfl rfl (sp_171 (h := h4) hG4) (rf_171_13 (h := h4) hG4) ?_
          refine x_iload 86 hK rfl rfl (lk1_n l7 (by decide) (Or.inl rfl)) ?_
          refine x_iload_n 87 hK rfl rfl (lk1_n l1 (by decide) (Or.inl rfl)) ?_
          refine x_iconst 88 hK rfl rfl ?_
          refine x_if_icmp_eq 97 91 hK rfl rfl rfl (by omega) (by omega) (fun c => by omega) (fun _ => ?_)
          refine x_iload 93 hK rfl rfl (lk1_n l7 (by decide) (Or.inl rfl)) ?_
          refine x_iload_n 94 hK rfl rfl (lk1_n l2 (by decide) (Or.inl rfl)) ?_
          refine x_if_icmp_lt 101 97 hK rfl rfl rfl (by omega) (by omega) (fun c97 => ?_) (fun c97 => ?_)
          · refine x_iconst 102 hK rfl rfl ?_
            refine x_bipush 104 hK rfl rfl rfl ?_
            refine x_iload 106 hK rfl rfl lk1_s ?_
            refine x_min 109 hK rfl rfl (Nat.le_of_ble_eq_true rfl) (by omega) (by omega) ?_
            refine x_max 112 hK rfl rfl (Nat.le_of_ble_eq_true rfl) (by omega) (by omega) ?_
            refine x_iastore 113 hK rfl rfl (sp_177 (h := h4) hG4) (by omega) (by omega) (by omega) ?_
            refine x_iload 115 hK rfl rfl (lk1_n l5 (by decide) (Or.inl rfl)) ?_
            refine x_aload_n 116 hK rfl rfl (lk1_n l0 (by decide) (Or.inl rfl)) ?_
            refine x_getR 119 hK rfl rfl (sp_171 (h := h4) hG4) (rf_171_13 (h := h4) hG4) ?_
            refine x_iload 121 hK rfl rfl (lk1_n l7 (by decide) (Or.inl rfl)) ?_
            refine x_ialoadE 122 hK rfl rfl (sp_177 (h := h4) hG4) (by omega) (by omega) (by omega) (e' := (max 0 (min 9 (bI2s v)))) (gi_same (by omega)) ?_
            refine x_iadd 123 hK rfl rfl ?_
            refine x_istore 125 hK rfl rfl _ rfl ?_
            refine x_iload 127 hK rfl rfl (lk1_n (lk1_n l6 (by decide) (Or.inl rfl)) (by decide) (Or.inl rfl)) ?_
            refine x_iload 129 hK rfl rfl (lk1_n (lk1_n l4 (by decide) (Or.inl rfl)) (by decide) (Or.inl rfl)) ?_
            refine x_iadd 130 hK rfl rfl ?_
            refine x_istore 132 hK rfl rfl _ rfl ?_
            refine x_iinc 135 hK rfl rfl (lk1_n (lk1_n (lk1_n l7 (by decide) (Or.inl rfl)) (by decide) (Or.inl rfl)) (by decide) (Or.inl rfl)) _ rfl ?_
            refine x_goto 46 hK rfl rfl ?_
            exact ih _ (by omega) (w + (max 0 (min 9 (bI2s v)))) (v + u) (i + 1) _ _ rfl (by omega) (x0) (by rw [shS_s i0.1, w0]; unfold shE; rw [en]; first | rw [if_pos (by omega)] | rw [if_neg (by omega)]) (by rw [v0, Int.add_mul, Int.one_mul, Int.add_assoc]) (fun j => by
              by_cases q : j = i.toNat
              · rw [if_pos (by omega), q]
                exact (gi_same (by omega)).trans (by rw [show ((i.toNat : Nat) : Int) = i by omega]; unfold shE; rw [en]; first | rw [if_pos (by omega)] | rw [if_neg (by omega)])
              · refine (gi_k (by omega) _).trans ((ev j).trans ?_)
                by_cases y : (j : Int) < i
                · rw [if_pos y, if_pos (by omega)]
                · rw [if_neg y, if_neg (by omega)]) (lk1_n (lk1_n (lk1_n (lk1_n l0 (by decide) (Or.inl rfl)) (by decide) (Or.inl rfl)) (by decide) (Or.inl rfl)) (by decide) (Or.inl rfl)) (lk1_n (lk1_n (lk1_n (lk1_n l1 (by decide) (Or.inl rfl)) (by decide) (Or.inl rfl)) (by decide) (Or.inl rfl)) (by decide) (Or.inl rfl)) (lk1_n (lk1_n (lk1_n (lk1_n l2 (by decide) (Or.inl rfl)) (by decide) (Or.inl rfl)) (by decide) (Or.inl rfl)) (by decide) (Or.inl rfl)) (lk1_n (lk1_n (lk1_n (lk1_n l3 (by decide) (Or.inl rfl)) (by decide) (Or.inl rfl)) (by decide) (Or.inl rfl)) (by decide) (Or.inl rfl)) (lk1_n (lk1_n (lk1_n (lk1_n l4 (by decide) (Or.inl rfl)) (by decide) (Or.inl rfl)) (by decide) (Or.inl rfl)) (by decide) (Or.inl rfl)) (lk1_n (lk1_n lk1_s (by decide) (Or.inl rfl)) (by decide) (Or.inl rfl)) (lk1_n lk1_s (by decide) (Or.inl rfl)) lk1_s (GD_wu (hG4) (r := 60) rfl (by omega) rfl (by omega) (by omega)) (FRM_wn 0 7 (hF4) (r := 60) rfl rfl rfl (by omega) (by omega))
          · refine x_iconst 98 hK rfl rfl ?_
            refine x_goto 112 hK rfl rfl ?_
            refine x_iastore 113 hK rfl rfl (sp_177 (h := h4) hG4) (by omega) (by omega) (by omega) ?_
            refine x_iload 115 hK rfl rfl (lk1_n l5 (by decide) (Or.inl rfl)) ?_
            refine x_aload_n 116 hK rfl rfl (lk1_n l0 (by decide) (Or.inl rfl)) ?_
            refine x_getR 119 hK rfl rfl (sp_171 (h := h4) hG4) (rf_171_13 (h := h4) hG4) ?_
            refine x_iload 121 hK rfl rfl (lk1_n l7 (by decide) (Or.inl rfl)) ?_
            refine x_ialoadE 122 hK rfl rfl (sp_177 (h := h4) hG4) (by omega) (by omega) (by omega) (e' := 0) (gi_same (by omega)) ?_
            refine x_iadd 123 hK rfl rfl ?_
            refine x_istore 125 hK rfl rfl _ rfl ?_
            refine x_iload 127 hK rfl rfl (lk1_n (lk1_n l6 (by decide) (Or.inl rfl)) (by decide) (Or.inl rfl)) ?_
            refine x_iload 129 hK rfl rfl (lk1_n (lk1_n l4 (by decide) (Or.inl rfl)) (by decide) (Or.inl rfl)) ?_
            refine x_iadd 130 hK rfl rfl ?_
            refine x_istore 132 hK rfl rfl _ rfl ?_
            refine x_iinc 135 hK rfl rfl (lk1_n (lk1_n (lk1_n l7 (by decide) (Or.inl rfl)) (by decide) (Or.inl rfl)) (by decide) (Or.inl rfl)) _ rfl ?_
            refine x_goto 46 hK rfl rfl ?_
            exact ih _ (by omega) (w + 0) (v + u) (i + 1) _ _ rfl (by omega) (x0) (by rw [shS_s i0.1, w0]; unfold shE; rw [en]; first | rw [if_pos (by omega)] | rw [if_neg (by omega)]) (by rw [v0, Int.add_mul, Int.one_mul, Int.add_assoc]) (fun j => by
              by_cases q : j = i.toNat
              · rw [if_pos (by omega), q]
                exact (gi_same (by omega)).trans (by rw [show ((i.toNat : Nat) : Int) = i by omega]; unfold shE; rw [en]; first | rw [if_pos (by omega)] | rw [if_neg (by omega)])
              · refine (gi_k (by omega) _).trans ((ev j).trans ?_)
                by_cases y : (j : Int) < i
                · rw [if_pos y, if_pos (by omega)]
                · rw [if_neg y, if_neg (by omega)]) (lk1_n (lk1_n (lk1_n (lk1_n l0 (by decide) (Or.inl rfl)) (by decide) (Or.inl rfl)) (by decide) (Or.inl rfl)) (by decide) (Or.inl rfl)) (lk1_n (lk1_n (lk1_n (lk1_n l1 (by decide) (Or.inl rfl)) (by decide) (Or.inl rfl)) (by decide) (Or.inl rfl)) (by decide) (Or.inl rfl)) (lk1_n (lk1_n (lk1_n (lk1_n l2 (by decide) (Or.inl rfl)) (by decide) (Or.inl rfl)) (by decide) (Or.inl rfl)) (by decide) (Or.inl rfl)) (lk1_n (lk1_n (lk1_n (lk1_n l3 (by decide) (Or.inl rfl)) (by decide) (Or.inl rfl)) (by decide) (Or.inl rfl)) (by decide) (Or.inl rfl)) (lk1_n (lk1_n (lk1_n (lk1_n l4 (by decide) (Or.inl rfl)) (by decide) (Or.inl rfl)) (by decide) (Or.inl rfl)) (by decide) (Or.inl rfl)) (lk1_n (lk1_n lk1_s (by decide) (Or.inl rfl)) (by decide) (Or.inl rfl)) (lk1_n lk1_s (by decide) (Or.inl rfl)) lk1_s (GD_wu (hG4) (r := 60) rfl (by omega) rfl (by omega) (by omega)) (FRM_wn 0 7 (hF4) (r := 60) rfl rfl rfl (by omega) (by omega))
      · refine x_iload 61 hK rfl rfl l6 ?_
        refine x_i2bF 62 hK rfl rfl ?_
        refine x_goto 78 hK rfl rfl ?_
        have en : entF x (z + i * u) = (bI2b v) := by rw [← v0]; unfold entF; first | rw [if_pos (by omega)] | rw [if_neg (by omega), if_pos (by omega)] | rw [if_neg (by omega), if_neg (by omega)]
        refine x_istore 80 hK rfl rfl _ rfl ?_
        refine x_aload_n 81 hK rfl rfl (lk1_n l0 (by decide) (Or.inl rfl)) ?_
        refine x_getR 84 hK rfl rfl (sp_171 (h := h4) hG4) (rf_171_13 (h := h4) hG4) ?_
        refine x_iload 86 hK rfl rfl (lk1_n l7 (by decide) (Or.inl rfl)) ?_
        refine x_iload_n 87 hK rfl rfl (lk1_n l1 (by decide) (Or.inl rfl)) ?_
        refine x_iconst 88 hK rfl rfl ?_
        refine x_if_icmp_eq 97 91 hK rfl rfl rfl (by omega) (by omega) (fun c => by omega) (fun _ => ?_)
        refine x_iload 93 hK rfl rfl (lk1_n l7 (by decide) (Or.inl rfl)) ?_
        refine x_iload_n 94 hK rfl rfl (lk1_n l2 (by decide) (Or.inl rfl)) ?_
        refine x_if_icmp_lt 101 97 hK rfl rfl rfl (by omega) (by omega) (fun c148 => ?_) (fun c148 => ?_)
        · refine x_iconst 102 hK rfl rfl ?_
          refine x_bipush 104 hK rfl rfl rfl ?_
          refine x_iload 106 hK rfl rfl lk1_s ?_
          refine x_min 109 hK rfl rfl (Nat.le_of_ble_eq_true rfl) (by omega) (by omega) ?_
          refine x_max 112 hK rfl rfl (Nat.le_of_ble_eq_true rfl) (by omega) (by omega) ?_
          refine x_iastore 113 hK rfl rfl (sp_177 (h := h4) hG4) (by omega) (by omega) (by omega) ?_
          refine x_iload 115 hK rfl rfl (lk1_n l5 (by decide) (Or.inl rfl)) ?_
          refine x_aload_n 116 hK rfl rfl (lk1_n l0 (by decide) (Or.inl rfl)) ?_
          refine x_getR 119 hK rfl rfl (sp_171 (h := h4) hG4) (rf_171_13 (h := h4) hG4) ?_
          refine x_iload 121 hK rfl rfl (lk1_n l7 (by decide) (Or.inl rfl)) ?_
          refine x_ialoadE 122 hK rfl rfl (sp_177 (h := h4) hG4) (by omega) (by omega) (by omega) (e' := (max 0 (min 9 (bI2b v)))) (gi_same (by omega)) ?_
          refine x_iadd 123 hK rfl rfl ?_
          refine x_istore 125 hK rfl rfl _ rfl ?_
          refine x_iload 127 hK rfl rfl (lk1_n (lk1_n l6 (by decide) (Or.inl rfl)) (by decide) (Or.inl rfl)) ?_
          refine x_iload 129 hK rfl rfl (lk1_n (lk1_n l4 (by decide) (Or.inl rfl)) (by decide) (Or.inl rfl)) ?_
          refine x_iadd 130 hK rfl rfl ?_
          refine x_istore 132 hK rfl rfl _ rfl ?_
          refine x_iinc 135 hK rfl rfl (lk1_n (lk1_n (lk1_n l7 (by decide) (Or.inl rfl)) (by decide) (Or.inl rfl)) (by decide) (Or.inl rfl)) _ rfl ?_
          refine x_goto 46 hK rfl rfl ?_
          exact ih _ (by omega) (w + (max 0 (min 9 (bI2b v)))) (v + u) (i + 1) _ _ rfl (by omega) (x0) (by rw [shS_s i0.1, w0]; unfold shE; rw [en]; first | rw [if_pos (by omega)] | rw [if_neg (by omega)]) (by rw [v0, Int.add_mul, Int.one_mul, Int.add_assoc]) (fun j => by
            by_cases q : j = i.toNat
            · rw [if_pos (by omega), q]
              exact (gi_same (by omega)).trans (by rw [show ((i.toNat : Nat) : Int) = i by omega]; unfold shE; rw [en]; first | rw [if_pos (by omega)] | rw [if_neg (by omega)])
            · refine (gi_k (by omega) _).trans ((ev j).trans ?_)
              by_cases y : (j : Int) < i
              · rw [if_pos y, if_pos (by omega)]
              · rw [if_neg y, if_neg (by omega)]) (lk1_n (lk1_n (lk1_n (lk1_n l0 (by decide) (Or.inl rfl)) (by decide) (Or.inl rfl)) (by decide) (Or.inl rfl)) (by decide) (Or.inl rfl)) (lk1_n (lk1_n (lk1_n (lk1_n l1 (by decide) (Or.inl rfl)) (by decide) (Or.inl rfl)) (by decide) (Or.inl rfl)) (by decide) (Or.inl rfl)) (lk1_n (lk1_n (lk1_n (lk1_n l2 (by decide) (Or.inl rfl)) (by decide) (Or.inl rfl)) (by decide) (Or.inl rfl)) (by decide) (Or.inl rfl)) (lk1_n (lk1_n (lk1_n (lk1_n l3 (by decide) (Or.inl rfl)) (by decide) (Or.inl rfl)) (by decide) (Or.inl rfl)) (by decide) (Or.inl rfl)) (lk1_n (lk1_n (lk1_n (lk1_n l4 (by decide) (Or.inl rfl)) (by decide) (Or.inl rfl)) (by decide) (Or.inl rfl)) (by decide) (Or.inl rfl)) (lk1_n (lk1_n lk1_s (by decide) (Or.inl rfl)) (by decide) (Or.inl rfl)) (lk1_n lk1_s (by decide) (Or.inl rfl)) lk1_s (GD_wu (hG4) (r := 60) rfl (by omega) rfl (by omega) (by omega)) (FRM_wn 0 7 (hF4) (r := 60) rfl rfl rfl (by omega) (by omega))
        · refine x_iconst 98 hK rfl rfl ?_
          refine x_goto 112 hK rfl rfl ?_
          refine x_iastore 113 hK rfl rfl (sp_177 (h := h4) hG4) (by omega) (by omega) (by omega) ?_
          refine x_iload 115 hK rfl rfl (lk1_n l5 (by decide) (Or.inl rfl)) ?_
          refine x_aload_n 116 hK rfl rfl (lk1_n l0 (by decide) (Or.inl rfl)) ?_
          refine x_getR 119 hK rfl rfl (sp_171 (h := h4) hG4) (rf_171_13 (h := h4) hG4) ?_
          refine x_iload 121 hK rfl rfl (lk1_n l7 (by decide) (Or.inl rfl)) ?_
          refine x_ialoadE 122 hK rfl rfl (sp_177 (h := h4) hG4) (by omega) (by omega) (by omega) (e' := 0) (gi_same (by omega)) ?_
          refine x_iadd 123 hK rfl rfl ?_
          refine x_istore 125 hK rfl rfl _ rfl ?_
          refine x_iload 127 hK rfl rfl (lk1_n (lk1_n l6 (by decide) (Or.inl rfl)) (by decide) (Or.inl rfl)) ?_
          refine x_iload 129 hK rfl rfl (lk1_n (lk1_n l4 (by decide) (Or.inl rfl)) (by decide) (Or.inl rfl)) ?_
          refine x_iadd 130 hK rfl rfl ?_
          refine x_istore 132 hK rfl rfl _ rfl ?_
          refine x_iinc 135 hK rfl rfl (lk1_n (lk1_n (lk1_n l7 (by decide) (Or.inl rfl)) (by decide) (Or.inl rfl)) (by decide) (Or.inl rfl)) _ rfl ?_
          refine x_goto 46 hK rfl rfl ?_
          exact ih _ (by omega) (w + 0) (v + u) (i + 1) _ _ rfl (by omega) (x0) (by rw [shS_s i0.1, w0]; unfold shE; rw [en]; first | rw [if_pos (by omega)] | rw [if_neg (by omega)]) (by rw [v0, Int.add_mul, Int.one_mul, Int.add_assoc]) (fun j => by
            by_cases q : j = i.toNat
            · rw [if_pos (by omega), q]
              exact (gi_same (by omega)).trans (by rw [show ((i.toNat : Nat) : Int) = i by omega]; unfold shE; rw [en]; first | rw [if_pos (by omega)] | rw [if_neg (by omega)])
            · refine (gi_k (by omega) _).trans ((ev j).trans ?_)
              by_cases y : (j : Int) < i
              · rw [if_pos y, if_pos (by omega)]
              · rw [if_neg y, if_neg (by omega)]) (lk1_n (lk1_n (lk1_n (lk1_n l0 (by decide) (Or.inl rfl)) (by decide) (Or.inl rfl)) (by decide) (Or.inl rfl)) (by decide) (Or.inl rfl)) (lk1_n (lk1_n (lk1_n (lk1_n l1 (by decide) (Or.inl rfl)) (by decide) (Or.inl rfl)) (by decide) (Or.inl rfl)) (by decide) (Or.inl rfl)) (lk1_n (lk1_n (lk1_n (lk1_n l2 (by decide) (Or.inl rfl)) (by decide) (Or.inl rfl)) (by decide) (Or.inl rfl)) (by decide) (Or.inl rfl)) (lk1_n (lk1_n (lk1_n (lk1_n l3 (by decide) (Or.inl rfl)) (by decide) (Or.inl rfl)) (by decide) (Or.inl rfl)) (by decide) (Or.inl rfl)) (lk1_n (lk1_n (lk1_n (lk1_n l4 (by decide) (Or.inl rfl)) (by decide) (Or.inl rfl)) (by decide) (Or.inl rfl)) (by decide) (Or.inl rfl)) (lk1_n (lk1_n lk1_s (by decide) (Or.inl rfl)) (by decide) (Or.inl rfl)) (lk1_n lk1_s (by decide) (Or.inl rfl)) lk1_s (GD_wu (hG4) (r := 60) rfl (by omega) rfl (by omega) (by omega)) (FRM_wn 0 7 (hF4) (r := 60) rfl rfl rfl (by omega) (by omega))
  refine x_aload_n 1 hK rfl rfl rfl ?_
  refine x_iconst 2 hK rfl rfl ?_
  refine x_putI 5 hK rfl rfl (sp_171 (h := h) hG) ?_
  refine x_iload_n 6 hK rfl rfl rfl ?_
  refine x_i2l 7 hK rfl rfl (by omega) ?_
  refine x_lconstE 8 0 hK rfl rfl rfl ?_
  refine x_ldc2_w 11 hK rfl rfl ?_
  have hGp229 : GD gE gRL sh (wI h 171 0 0) := GD_w1 (hG) (r := 54) rfl (by omega) rfl (by omega) (by omega)
  refine x_callS 14 hK hmono rfl (Or.inl rfl) rfl [.long (J x), .long (J 0), .long (J 3)] [] rfl rfl (Nat.le_of_ble_eq_true rfl) (Nat.le_of_ble_eq_true rfl) (CLd_le (Nat.le_of_ble_eq_true rfl) (ctX11_in (by omega) (by omega) (by omega))) ?_
  rintro v9 h9 ⟨e9, ⟨rfl, i1230, i2230⟩ | ⟨rfl, i1230⟩⟩ <;> rw [e9] <;> clear e9
  · refine x_if_eq 23 17 hK rfl rfl rfl (by omega) (fun c => by omega) (fun _ => ?_)
    refine x_iload_n 18 hK rfl rfl rfl ?_
    refine x_bipush 20 hK rfl rfl rfl ?_
    refine x_if_icmp_le 25 23 hK rfl rfl rfl (by omega) (by omega) (fun c12 => ?_) (fun c12 => ?_)
    · refine x_iload_n 26 hK rfl rfl rfl ?_
      refine x_iconst 27 hK rfl rfl ?_
      refine x_if_icmp_eq 37 30 hK rfl rfl rfl (by omega) (by omega) (fun c15 => ?_) (fun c15 => ?_)
      · refine x_iconst 38 hK rfl rfl ?_
        refine x_istore 40 hK rfl rfl [(5, .int (I 0)), (0, .ref 171), (1, .int (I x)), (2, .int (I y)), (3, .int (I z)), (4, .int (I u))] rfl ?_
        refine x_iload_n 41 hK rfl rfl rfl ?_
        refine x_istore 43 hK rfl rfl [(6, .int (I z)), (5, .int (I 0)), (0, .ref 171), (1, .int (I x)), (2, .int (I y)), (3, .int (I z)), (4, .int (I u))] rfl ?_
        refine x_iconst 44 hK rfl rfl ?_
        refine x_istore 46 hK rfl rfl [(7, .int (I 0)), (6, .int (I z)), (5, .int (I 0)), (0, .ref 171), (1, .int (I x)), (2, .int (I y)), (3, .int (I z)), (4, .int (I u))] rfl ?_
        exact loop _ 0 z 0 _ _ rfl (by omega) (by omega) (rfl) (by rw [Int.zero_mul, Int.add_zero]) (fun j => (gi_a (by decide) _).trans (if_neg (by omega)).symm) rfl rfl rfl rfl rfl rfl rfl rfl (GD_w1 (hG) (r := 54) rfl (by omega) rfl (by omega) (by omega)) (FRM_w ((FRM.rf : FRM gRL [(0, 54, 0, 0), (0, 60, 0, 7)] h h)) (r := 54) rfl rfl)
      · refine x_iload_n 31 hK rfl rfl rfl ?_
        refine x_if_ge 37 34 hK rfl rfl rfl (by omega) (fun c24 => ?_) (fun c24 => ?_)
        · refine x_iconst 38 hK rfl rfl ?_
          refine x_istore 40 hK rfl rfl [(5, .int (I 0)), (0, .ref 171), (1, .int (I x)), (2, .int (I y)), (3, .int (I z)), (4, .int (I u))] rfl ?_
          refine x_iload_n 41 hK rfl rfl rfl ?_
          refine x_istore 43 hK rfl rfl [(6, .int (I z)), (5, .int (I 0)), (0, .ref 171), (1, .int (I x)), (2, .int (I y)), (3, .int (I z)), (4, .int (I u))] rfl ?_
          refine x_iconst 44 hK rfl rfl ?_
          refine x_istore 46 hK rfl rfl [(7, .int (I 0)), (6, .int (I z)), (5, .int (I 0)), (0, .ref 171), (1, .int (I x)), (2, .int (I y)), (3, .int (I z)), (4, .int (I u))] rfl ?_
          exact loop _ 0 z 0 _ _ rfl (by omega) (by omega) (rfl) (by rw [Int.zero_mul, Int.add_zero]) (fun j => (gi_a (by decide) _).trans (if_neg (by omega)).symm) rfl rfl rfl rfl rfl rfl rfl rfl (GD_w1 (hG) (r := 54) rfl (by omega) rfl (by omega) (by omega)) (FRM_w ((FRM.rf : FRM gRL [(0, 54, 0, 0), (0, 60, 0, 7)] h h)) (r := 54) rfl rfl)
        · refine x_bipush 36 hK rfl rfl rfl ?_
          exact x_iret hK rfl ⟨by unfold shA; rw [if_pos (by omega), if_pos (by omega)], GD_w1 (hG) (r := 54) rfl (by omega) rfl (by omega) (by omega), FRM_w ((FRM.rf : FRM gRL [(0, 54, 0, 0), (0, 60, 0, 7)] h h)) (r := 54) rfl rfl, fun j => (gi_a (by decide) _).trans (if_neg (fun z => by have z1 := z.1; omega)).symm⟩
    · refine x_iconst 24 hK rfl rfl ?_
      exact x_iret hK rfl ⟨by unfold shA; rw [if_neg (by omega)], GD_w1 (hG) (r := 54) rfl (by omega) rfl (by omega) (by omega), FRM_w ((FRM.rf : FRM gRL [(0, 54, 0, 0), (0, 60, 0, 7)] h h)) (r := 54) rfl rfl, fun j => (gi_a (by decide) _).trans (if_neg (fun z => by have z1 := z.1; omega)).symm⟩
  · refine x_if_eq 23 17 hK rfl rfl rfl (by omega) (fun _ => ?_) (fun c => by omega)
    refine x_iconst 24 hK rfl rfl ?_
    exact x_iret hK rfl ⟨by unfold shA; rw [if_neg (by omega)], GD_w1 (hG) (r := 54) rfl (by omega) rfl (by omega) (by omega), FRM_w ((FRM.rf : FRM gRL [(0, 54, 0, 0), (0, 60, 0, 7)] h h)) (r := 54) rfl rfl, fun j => (gi_a (by decide) _).trans (if_neg (fun z => by have z1 := z.1; omega)).symm⟩
