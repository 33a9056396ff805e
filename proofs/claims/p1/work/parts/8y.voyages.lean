/-! VOYAGES, both -/
theorem bUsh16 (a : Int) : 0 ≤ bUsh a 16 ∧ bUsh a 16 ≤ 65535 := by
  have h : ∀ x : UInt32, 0 ≤ (x >>> 16).toInt32.toInt ∧ (x >>> 16).toInt32.toInt ≤ 65535 := by
    intro x
    have e : (x >>> 16).toNat = x.toNat / 65536 := by
      rw [UInt32.toNat_shiftRight, Nat.shiftRight_eq_div_pow]
      rfl
    have l := UInt32.toNat_lt x
    have e2 : (x >>> 16).toInt32.toInt = ((x >>> 16).toNat : Int) := by
      show (x >>> 16).toBitVec.toInt = _
      rw [BitVec.toInt_eq_toNat_of_lt (by show 2 * (x >>> 16).toNat < 2 ^ 32; omega)]
      rfl
    omega
  have e16 : ((I 16).toUInt32 &&& Int32.toUInt32 31) = 16 := by decide
  unfold bUsh
  rw [e16]
  exact h _
/-- what is drawn -/
def drv (d : Int) : Int := (bUsh (d * 1103515245 + 12345) 16).tmod 4
theorem drv_b (d : Int) : 0 ≤ drv d ∧ drv d ≤ 3 := by
  have h := bUsh16 (d * 1103515245 + 12345)
  unfold drv
  rw [Int.tmod_eq_emod_of_nonneg h.1]
  omega
theorem WW_gv {b d v : Int} {w : WS} (hw : WW b w) : WW b (gvW d v w) := by
  obtain ⟨w0, w1, w2, w3, w4⟩ := hw
  exact ⟨w0, w1, w2, by show -1 ≤ w.1 ∧ w.1 ≤ b; omega, w4⟩
/-- a drawn voyage: n STEPS to go, what was drawn last, the state, how many ORDERS, HITS -/
def vgI (dl : Int → Int) (l : Int) (ml ln : Nat → Int) (nr : Nat) (ms : Int) (ea : Nat → Int) : Nat → Int → WS → Int → Int → WS × Int × Int
  | 0, _, w, g, k => (w, g, k)
  | n + 1, d, w, g, k => if drv d < 2 ∧ gvR 0 w = 0 then vgI dl l ml ln nr ms ea n (d * 1103515245 + 12345) (stW ml ln nr ms ea (gvW (dl w.1) (tvF l (2 * drv d - 1)) w)) (g + 1) (k + stH ml ln nr (gvW (dl w.1) (tvF l (2 * drv d - 1)) w)) else vgI dl l ml ln nr ms ea n (d * 1103515245 + 12345) (stW ml ln nr ms ea w) g (k + stH ml ln nr w)
theorem vg_h {dl : Int → Int} {l : Int} {ml ln : Nat → Int} {nr : Nat} {ms : Int} {ea : Nat → Int} : ∀ (n : Nat) (d : Int) (w : WS) (g k : Int), (vgI dl l ml ln nr ms ea n d w g k).1.2.2.1 - w.2.2.1 = (vgI dl l ml ln nr ms ea n d w g k).2.2 - k
  | 0, _, w, g, k => by
    show w.2.2.1 - w.2.2.1 = k - k
    omega
  | n + 1, d, w, g, k => by
    unfold vgI
    split
    · have ih := vg_h (dl := dl) (l := l) (ml := ml) (ln := ln) (nr := nr) (ms := ms) (ea := ea) n (d * 1103515245 + 12345) (stW ml ln nr ms ea (gvW (dl w.1) (tvF l (2 * drv d - 1)) w)) (g + 1) (k + stH ml ln nr (gvW (dl w.1) (tvF l (2 * drv d - 1)) w))
      have e : (stW ml ln nr ms ea (gvW (dl w.1) (tvF l (2 * drv d - 1)) w)).2.2.1 = w.2.2.1 + stH ml ln nr (gvW (dl w.1) (tvF l (2 * drv d - 1)) w) := rfl
      omega
    · have ih := vg_h (dl := dl) (l := l) (ml := ml) (ln := ln) (nr := nr) (ms := ms) (ea := ea) n (d * 1103515245 + 12345) (stW ml ln nr ms ea w) g (k + stH ml ln nr w)
      have e : (stW ml ln nr ms ea w).2.2.1 = w.2.2.1 + stH ml ln nr w := rfl
      omega
set_option maxRecDepth 4000 in
theorem ctX10_voyagesF {SP : CT} (hSP : MONO SP) {sh : List (Nat × Nat)} {h : aH} (hG : GD gE gRL sh h) {s u : Nat} (hP : PT h) (hX : XI h) (hD : DR h s u) {b : Int} {w : WS} (hS : STR (gi h 0 9) (kS h 23) w) (hw : WW b w) (hb : b ≤ 800000) {ml ln ea : Nat → Int} (hml : ∀ j : Nat, (j : Int) < gi h 19 0 → gi h 20 j = ml j ∧ gi h 21 j = ln j) (hea : ∀ m : Nat, (m : Int) < (gi h 0 9) → gi h 22 m = ea m ∧ 0 ≤ ea m ∧ ea m ≤ 9) {x n : Int} (rx : r32 x) (rn : r32 n) : CLd SP 12 mX10_voyages [.ref 0, .int (I x), .int (I n)] h 0 0 (fun rv h' => ((¬ (1 ≤ n ∧ n ≤ 60) ∧ rv = some (.int (I (-1))) ∧ h' = h) ∨ ((1 ≤ n ∧ n ≤ 60) ∧ rv = some (.int (I (vgI (dlA h) (gi h 171 5) ml ln (gi h 19 0).toNat (gi h 0 9) ea n.toNat x w 0 0).2.2)) ∧ kS h' 23 = kS h 23 ∧ gi h' 3 1 = 2 ∧ crow h' = [(vgI (dlA h) (gi h 171 5) ml ln (gi h 19 0).toNat (gi h 0 9) ea n.toNat x w 0 0).1.2.1, (vgI (dlA h) (gi h 171 5) ml ln (gi h 19 0).toNat (gi h 0 9) ea n.toNat x w 0 0).2.1])) ∧ GD gE gRL sh h' ∧ FRM gRL [(0, 3, 1, 1), (0, 8, 3, 3), (0, 10, 0, 39), (0, 17, 0, 4), (0, 18, 0, 11), (0, 19, 0, 11), (0, 20, 0, 7), (0, 21, 0, 7), (0, 22, 0, 4), (0, 23, 0, 11), (0, 24, 0, 11), (0, 25, 0, 7), (0, 26, 0, 7), (1, 4, 0, 29)] h h') := by
  refine x_met _ rfl (Nat.le_of_ble_eq_true rfl) (fun K hK => ?_)
  have hmono := MONO_CLd hSP 11
  obtain ⟨VV, hVV⟩ : ∃ VV, (vgI (dlA h) (gi h 171 5) ml ln (gi h 19 0).toNat (gi h 0 9) ea n.toNat x w 0 0) = VV := ⟨_, rfl⟩
  rw [hVV] at hK
  have g9 := gri 0 8 hG (a := 0) (r := 0) (k := 9) rfl rfl
  have g19 := gri 0 16 hG (a := 19) (r := 13) (k := 0) rfl rfl
  have k2 := (STR_to hG hS).2.2.1
  have wh := hw.2.2.1
  have vh := vg_h (dl := dlA h) (l := gi h 171 5) (ml := ml) (ln := ln) (nr := (gi h 19 0).toNat) (ms := gi h 0 9) (ea := ea) n.toNat x w 0 0
  rw [hVV] at vh
  have loop : ∀ (mz : Nat) (d g i : Int) (h4 : aH) (ls : List (Nat × Value)), ((n - i).toNat = mz) → (1 ≤ n ∧ n ≤ 60) → (0 ≤ i ∧ i ≤ n) → (0 ≤ g ∧ g ≤ i) → (∃ (x : WS) (k : Int), STR (gi h 0 9) (kS h4 23) x ∧ WW (b + i) x ∧ (vgI (dlA h) (gi h 171 5) ml ln (gi h 19 0).toNat (gi h 0 9) ea (n - i).toNat d x g k) = VV) → (kS h4 28 = kS h 23) → lk ls 0 = some (.ref 0) → lk ls 2 = some (.int (I n)) → lk ls 3 = some (.int (I d)) → lk ls 4 = some (.int (I g)) → lk ls 5 = some (.int (I i)) → GD gE gRL sh h4 → FRM gRL [(0, 8, 3, 3), (0, 10, 0, 39), (0, 17, 0, 4), (0, 18, 0, 11), (0, 19, 0, 11), (0, 20, 0, 7), (0, 21, 0, 7), (0, 22, 0, 4), (0, 23, 0, 11), (0, 24, 0, 11), (0, 25, 0, 7), (0, 26, 0, 7)] h h4 → K 32 ls [] h4 0 0 := by
    intro mz
    induction mz using Nat.strongRecOn with
    | ind mz ih =>
    intro d g i h4 ls hm n0 i0 g0 hx s28 l0 l2 l3 l4 l5 hG4 hF4
    obtain ⟨x, k, hs, wx, hv⟩ := hx
    have e28 : gi h4 28 2 = gi h 23 2 := congrArg (fun z : CWS => z.2.2.1) s28
    have n94 : gi h4 0 9 = (gi h 0 9) := FRM_gi hF4 (r := 0) rfl rfl
    have jx := STR_to hG4 hs
    have wx2 := wx.2.2.1
    have wx1 := wx.2.1
    have gb : -3 ≤ gvR 0 x ∧ gvR 0 x ≤ 0 := by unfold gvR; (repeat' split) <;> omega
    refine x_iload 34 hK rfl rfl l5 ?_
    refine x_iload_n 35 hK rfl rfl l2 ?_
    refine x_if_icmp_ge 98 38 hK rfl rfl rfl (by omega) (by omega) (fun c3 => ?_) (fun c3 => ?_)
    · refine x_aload_n 99 hK rfl rfl l0 ?_
      refine x_getR 102 hK rfl rfl (sp_0 (h := h4) hG4) (rf_0_10 (h := h4) hG4) ?_
      refine x_getE 105 hK rfl (Or.inl rfl) rfl (sp_23 (h := h4) hG4) (e := (x.2.2.1)) (jx.2.2.1) ?_
      refine x_aload_n 106 hK rfl rfl l0 ?_
      refine x_getR 109 hK rfl rfl (sp_0 (h := h4) hG4) (rf_0_11 (h := h4) hG4) ?_
      have g579 := gi_r h 23 2
      refine x_getE 112 hK rfl (Or.inl rfl) rfl (sp_28 (h := h4) hG4) (e := (gi h 23 2)) (e28) ?_
      refine x_isub 113 hK rfl rfl ?_
      refine x_istore 115 hK rfl rfl _ rfl ?_
      refine x_aload_n 116 hK rfl rfl (lk1_n l0 (by decide) (Or.inl rfl)) ?_
      refine x_getR 119 hK rfl rfl (sp_0 (h := h4) hG4) (rf_0_1 (h := h4) hG4) ?_
      refine x_aload_n 120 hK rfl rfl (lk1_n l0 (by decide) (Or.inl rfl)) ?_
      refine x_getR 123 hK rfl rfl (sp_0 (h := h4) hG4) (rf_0_10 (h := h4) hG4) ?_
      refine x_getE 126 hK rfl (Or.inl rfl) rfl (sp_23 (h := h4) hG4) (e := (x.2.1)) (jx.2.1) ?_
      refine x_i2l 127 hK rfl rfl (by omega) ?_
      refine x_iload 129 hK rfl rfl (lk1_n l4 (by decide) (Or.inl rfl)) ?_
      refine x_i2l 130 hK rfl rfl (by omega) ?_
      refine x_callV 133 hK hmono rfl rfl [.ref 3, .long (J (x.2.1)), .long (J g)] [] rfl rfl (Nat.le_of_ble_eq_true rfl) (Nat.le_of_ble_eq_true rfl) rfl (sp_3 (h := h4) hG4) (CLd_le (Nat.le_of_ble_eq_true rfl) (ctX3_tellTwo hSP hG4 (by omega) (by omega))) ?_
      rintro v580 h580 ⟨rfl, hG580, hF580, t580, s580⟩
      refine x_aload_n 134 hK rfl rfl (lk1_n l0 (by decide) (Or.inl rfl)) ?_
      refine x_getR 137 hK rfl rfl (sp_0 (h := h580) hG580) (rf_0_10 (h := h580) hG580) ?_
      refine x_aload_n 138 hK rfl rfl (lk1_n l0 (by decide) (Or.inl rfl)) ?_
      refine x_getR 141 hK rfl rfl (sp_0 (h := h580) hG580) (rf_0_11 (h := h580) hG580) ?_
      refine x_callV 144 hK hmono rfl rfl [.ref 23, .ref 28] [] rfl rfl (Nat.le_of_ble_eq_true rfl) (Nat.le_of_ble_eq_true rfl) rfl (sp_23 (h := h580) hG580) (CLd_le (Nat.le_of_ble_eq_true rfl) (ctX8_copyFrom_23_28 hSP hG580 (show PT h580 from (PT_F hF580 (by decide) (PT_F hF4 (by decide) hP))))) ?_
      rintro v581 h581 ⟨rfl, hG581, hF581, eS581, ot581⟩
      refine x_iload 146 hK rfl rfl lk1_s ?_
      have z0 : (n - i).toNat = 0 := by omega
      rw [z0] at hv
      have hv : (x, g, k) = VV := hv
      subst hv
      have vh2 : x.2.2.1 - gi h 23 2 = k := by have vh : x.2.2.1 - w.2.2.1 = k - 0 := vh; omega
      exact x_iret hK rfl ⟨Or.inr ⟨n0, by rw [vh2], (eS581).trans ((kS28_F hF580 (by decide)).trans (s28)), (FRM_gi hF581 (r := 3) rfl rfl).trans (t580), (crow_F hF581 rfl rfl).trans (s580)⟩, hG581, (((hF4).mono rfl).trans ((hF580).mono rfl)).trans ((hF581).mono rfl)⟩
    · refine x_iload_n 39 hK rfl rfl l3 ?_
      refine x_ldc_w 42 hK rfl rfl ?_
      refine x_imul 43 hK rfl rfl ?_
      refine x_sipush 46 hK rfl rfl rfl ?_
      refine x_iadd 47 hK rfl rfl ?_
      refine x_istore_n 48 hK rfl rfl _ rfl ?_
      refine x_iload_n 49 hK rfl rfl lk1_s ?_
      refine x_bipush 51 hK rfl rfl rfl ?_
      have g582 := bUsh_r ((d * 1103515245) + 12345) 16
      refine x_iushrF 52 hK rfl rfl ?_
      refine x_iconst 53 hK rfl rfl ?_
      refine x_irem 54 hK rfl rfl (by omega) (by omega) (by omega) (by omega) ?_
      have tm := drv_b d
      rw [show (bUsh (d * 1103515245 + 12345) 16).tmod 4 = drv d from rfl]
      refine x_istore 56 hK rfl rfl _ rfl ?_
      refine x_iload 58 hK rfl rfl lk1_s ?_
      refine x_iconst 59 hK rfl rfl ?_
      refine x_if_icmp_ge 87 62 hK rfl rfl rfl (by omega) (by omega) (fun c42 => ?_) (fun c42 => ?_)
      · refine x_aload_n 88 hK rfl rfl (lk1_n (lk1_n l0 (by decide) (Or.inl rfl)) (by decide) (Or.inl rfl)) ?_
        have n9583 : gi h4 0 9 = (gi h 0 9) := FRM_gi hF4 (r := 0) rfl rfl
        have n19583 : gi h4 19 0 = gi h 19 0 := FRM_gi hF4 (r := 13) rfl rfl
        refine x_callV 91 hK hmono rfl rfl [.ref 0] [] rfl rfl (Nat.le_of_ble_eq_true rfl) (Nat.le_of_ble_eq_true rfl) rfl (sp_0 (h := h4) hG4) (CLd_le (Nat.le_of_ble_eq_true rfl) (ctX10_goStepF hSP hG4 (b := b + i) (w := x) (ml := ml) (ln := ln) (ea := ea) (by rw [n9583]; exact hs) wx (by omega) (fun j hj => by rw [n19583] at hj; rw [show gi h4 20 j = gi h 20 j from FRM_gi hF4 (r := 14) rfl rfl, show gi h4 21 j = gi h 21 j from FRM_gi hF4 (r := 15) rfl rfl]; exact hml j hj) (fun m hm => by rw [n9583] at hm; rw [show gi h4 22 m = gi h 22 m from FRM_gi hF4 (r := 16) rfl rfl]; exact hea m hm))) ?_
        rw [n9583, n19583]
        rintro v583 h583 ⟨rfl, hG583, hF583, hS583⟩
        refine x_pop 92 hK rfl rfl rfl ?_
        refine x_iinc 95 hK rfl rfl (lk1_n (lk1_n l5 (by decide) (Or.inl rfl)) (by decide) (Or.inl rfl)) _ rfl ?_
        refine x_goto 32 hK rfl rfl ?_
        obtain ⟨q, hq⟩ : ∃ q : Nat, (n - i).toNat = q + 1 := ⟨(n - i).toNat - 1, by omega⟩
        rw [hq] at hv
        unfold vgI at hv
        rw [if_neg (by omega)] at hv
        have wd : WW (b + i + 1) (stW ml ln (gi h 19 0).toNat (gi h 0 9) ea x) := WW_st (by omega) g9.2 (fun m hm => (hea m hm).2) wx
        exact ih _ (by omega) ((d * 1103515245) + 12345) g (i + 1) _ _ rfl (n0) (by omega) (by omega) (⟨_, _, hS583, by rw [show b + (i + 1) = b + i + 1 by omega]; exact wd, by rw [show (n - (i + 1)).toNat = q by omega]; exact hv⟩) ((kS28_F hF583 (by decide)).trans (s28)) (lk1_n (lk1_n (lk1_n l0 (by decide) (Or.inl rfl)) (by decide) (Or.inl rfl)) (by decide) (Or.inl rfl)) (lk1_n (lk1_n (lk1_n l2 (by decide) (Or.inl rfl)) (by decide) (Or.inl rfl)) (by decide) (Or.inl rfl)) (lk1_n (lk1_n lk1_s (by decide) (Or.inl rfl)) (by decide) (Or.inl rfl)) (lk1_n (lk1_n (lk1_n l4 (by decide) (Or.inl rfl)) (by decide) (Or.inl rfl)) (by decide) (Or.inl rfl)) lk1_s (hG583) ((hF4).trans ((hF583).mono rfl))
      · refine x_aload_n 63 hK rfl rfl (lk1_n (lk1_n l0 (by decide) (Or.inl rfl)) (by decide) (Or.inl rfl)) ?_
        refine x_callV 66 hK hmono rfl rfl [.ref 0] [] rfl rfl (Nat.le_of_ble_eq_true rfl) (Nat.le_of_ble_eq_true rfl) rfl (sp_0 (h := h4) hG4) (CLd_le (Nat.le_of_ble_eq_true rfl) (ctX10_orderRefusalF hSP hG4 hs)) ?_
        rintro v9 h9 ⟨e9, rfl⟩
        rw [e9]
        clear e9
        refine x_if_ne 87 69 hK rfl rfl rfl (by omega) (fun c51 => ?_) (fun c51 => ?_)
        · refine x_aload_n 88 hK rfl rfl (lk1_n (lk1_n l0 (by decide) (Or.inl rfl)) (by decide) (Or.inl rfl)) ?_
          have n9584 : gi h4 0 9 = (gi h 0 9) := FRM_gi hF4 (r := 0) rfl rfl
          have n19584 : gi h4 19 0 = gi h 19 0 := FRM_gi hF4 (r := 13) rfl rfl
          refine x_callV 91 hK hmono rfl rfl [.ref 0] [] rfl rfl (Nat.le_of_ble_eq_true rfl) (Nat.le_of_ble_eq_true rfl) rfl (sp_0 (h := h4) hG4) (CLd_le (Nat.le_of_ble_eq_true rfl) (ctX10_goStepF hSP hG4 (b := b + i) (w := x) (ml := ml) (ln := ln) (ea := ea) (by rw [n9584]; exact hs) wx (by omega) (fun j hj => by rw [n19584] at hj; rw [show gi h4 20 j = gi h 20 j from FRM_gi hF4 (r := 14) rfl rfl, show gi h4 21 j = gi h 21 j from FRM_gi hF4 (r := 15) rfl rfl]; exact hml j hj) (fun m hm => by rw [n9584] at hm; rw [show gi h4 22 m = gi h 22 m from FRM_gi hF4 (r := 16) rfl rfl]; exact hea m hm))) ?_
          rw [n9584, n19584]
          rintro v584 h584 ⟨rfl, hG584, hF584, hS584⟩
          refine x_pop 92 hK rfl rfl rfl ?_
          refine x_iinc 95 hK rfl rfl (lk1_n (lk1_n l5 (by decide) (Or.inl rfl)) (by decide) (Or.inl rfl)) _ rfl ?_
          refine x_goto 32 hK rfl rfl ?_
          obtain ⟨q, hq⟩ : ∃ q : Nat, (n - i).toNat = q + 1 := ⟨(n - i).toNat - 1, by omega⟩
          rw [hq] at hv
          unfold vgI at hv
          rw [if_neg (by omega)] at hv
          have wd : WW (b + i + 1) (stW ml ln (gi h 19 0).toNat (gi h 0 9) ea x) := WW_st (by omega) g9.2 (fun m hm => (hea m hm).2) wx
          exact ih _ (by omega) ((d * 1103515245) + 12345) g (i + 1) _ _ rfl (n0) (by omega) (by omega) (⟨_, _, hS584, by rw [show b + (i + 1) = b + i + 1 by omega]; exact wd, by rw [show (n - (i + 1)).toNat = q by omega]; exact hv⟩) ((kS28_F hF584 (by decide)).trans (s28)) (lk1_n (lk1_n (lk1_n l0 (by decide) (Or.inl rfl)) (by decide) (Or.inl rfl)) (by decide) (Or.inl rfl)) (lk1_n (lk1_n (lk1_n l2 (by decide) (Or.inl rfl)) (by decide) (Or.inl rfl)) (by decide) (Or.inl rfl)) (lk1_n (lk1_n lk1_s (by decide) (Or.inl rfl)) (by decide) (Or.inl rfl)) (lk1_n (lk1_n (lk1_n l4 (by decide) (Or.inl rfl)) (by decide) (Or.inl rfl)) (by decide) (Or.inl rfl)) lk1_s (hG584) ((hF4).trans ((hF584).mono rfl))
        · refine x_aload_n 70 hK rfl rfl (lk1_n (lk1_n l0 (by decide) (Or.inl rfl)) (by decide) (Or.inl rfl)) ?_
          refine x_iload 72 hK rfl rfl lk1_s ?_
          refine x_if_ne 79 75 hK rfl rfl rfl (by omega) (fun c60 => ?_) (fun c60 => ?_)
          · refine x_iconst 80 hK rfl rfl ?_
            have dl4 : dlA h4 x.1 = dlA h x.1 := dlA_F hF4 rfl _
            have l54 : gi h4 171 5 = gi h 171 5 := FRM_gi hF4 (r := 54) rfl rfl
            refine x_callV 83 hK hmono rfl rfl [.ref 0, .int (I 1)] [] rfl rfl (Nat.le_of_ble_eq_true rfl) (Nat.le_of_ble_eq_true rfl) rfl (sp_0 (h := h4) hG4) (CLd_le (Nat.le_of_ble_eq_true rfl) (ctX10_giveOrderF hSP hG4 (show PT h4 from PT_F hF4 (by decide) hP) (show XI h4 from (xOk_ok rfl _ h4 hF4 hX)) (DR_F hF4 rfl hD) (w := x) (b := b + i) (by rw [n94]; exact hs) wx (by omega) (v := 1) (by omega) (by omega))) ?_
            rw [dl4, l54, n94]
            rintro v585 h585 ⟨rfl, hG585, hF585, hS585⟩
            have db := dlA_b h x.1
            have ev : 1 = 2 * drv d - 1 := by omega
            rw [ev] at hS585
            refine x_pop 84 hK rfl rfl rfl ?_
            refine x_iinc 87 hK rfl rfl (lk1_n (lk1_n l4 (by decide) (Or.inl rfl)) (by decide) (Or.inl rfl)) _ rfl ?_
            refine x_aload_n 88 hK rfl rfl (lk1_n (lk1_n (lk1_n l0 (by decide) (Or.inl rfl)) (by decide) (Or.inl rfl)) (by decide) (Or.inl rfl)) ?_
            have n9586 : gi h585 0 9 = (gi h 0 9) := (FRM_gi hF585 (r := 0) rfl rfl).trans (FRM_gi hF4 (r := 0) rfl rfl)
            have n19586 : gi h585 19 0 = gi h 19 0 := (FRM_gi hF585 (r := 13) rfl rfl).trans (FRM_gi hF4 (r := 13) rfl rfl)
            refine x_callV 91 hK hmono rfl rfl [.ref 0] [] rfl rfl (Nat.le_of_ble_eq_true rfl) (Nat.le_of_ble_eq_true rfl) rfl (sp_0 (h := h585) hG585) (CLd_le (Nat.le_of_ble_eq_true rfl) (ctX10_goStepF hSP hG585 (b := b + i) (w := (gvW (dlA h x.1) (tvF (gi h 171 5) (2 * drv d - 1)) x)) (ml := ml) (ln := ln) (ea := ea) (by rw [n9586]; exact hS585) (WW_gv wx) (by omega) (fun j hj => by rw [n19586] at hj; rw [show gi h585 20 j = gi h 20 j from (FRM_gi hF585 (r := 14) rfl rfl).trans (FRM_gi hF4 (r := 14) rfl rfl), show gi h585 21 j = gi h 21 j from (FRM_gi hF585 (r := 15) rfl rfl).trans (FRM_gi hF4 (r := 15) rfl rfl)]; exact hml j hj) (fun m hm => by rw [n9586] at hm; rw [show gi h585 22 m = gi h 22 m from (FRM_gi hF585 (r := 16) rfl rfl).trans (FRM_gi hF4 (r := 16) rfl rfl)]; exact hea m hm))) ?_
            rw [n9586, n19586]
            rintro v586 h586 ⟨rfl, hG586, hF586, hS586⟩
            refine x_pop 92 hK rfl rfl rfl ?_
            refine x_iinc 95 hK rfl rfl (lk1_n (lk1_n (lk1_n l5 (by decide) (Or.inl rfl)) (by decide) (Or.inl rfl)) (by decide) (Or.inl rfl)) _ rfl ?_
            refine x_goto 32 hK rfl rfl ?_
            obtain ⟨q, hq⟩ : ∃ q : Nat, (n - i).toNat = q + 1 := ⟨(n - i).toNat - 1, by omega⟩
            rw [hq] at hv
            unfold vgI at hv
            rw [if_pos (by omega)] at hv
            have wd : WW (b + i + 1) (stW ml ln (gi h 19 0).toNat (gi h 0 9) ea (gvW (dlA h x.1) (tvF (gi h 171 5) (2 * drv d - 1)) x)) := WW_st (by omega) g9.2 (fun m hm => (hea m hm).2) (WW_gv wx)
            exact ih _ (by omega) ((d * 1103515245) + 12345) (g + 1) (i + 1) _ _ rfl (n0) (by omega) (by omega) (⟨_, _, hS586, by rw [show b + (i + 1) = b + i + 1 by omega]; exact wd, by rw [show (n - (i + 1)).toNat = q by omega]; exact hv⟩) ((kS28_F hF586 (by decide)).trans ((kS28_F hF585 (by decide)).trans (s28))) (lk1_n (lk1_n (lk1_n (lk1_n l0 (by decide) (Or.inl rfl)) (by decide) (Or.inl rfl)) (by decide) (Or.inl rfl)) (by decide) (Or.inl rfl)) (lk1_n (lk1_n (lk1_n (lk1_n l2 (by decide) (Or.inl rfl)) (by decide) (Or.inl rfl)) (by decide) (Or.inl rfl)) (by decide) (Or.inl rfl)) (lk1_n (lk1_n (lk1_n lk1_s (by decide) (Or.inl rfl)) (by decide) (Or.inl rfl)) (by decide) (Or.inl rfl)) (lk1_n lk1_s (by decide) (Or.inl rfl)) lk1_s (hG586) (((hF4).trans ((hF585).mono rfl)).trans ((hF586).mono rfl))
          · refine x_iconst 76 hK rfl rfl ?_
            refine x_goto 80 hK rfl rfl ?_
            have dl4 : dlA h4 x.1 = dlA h x.1 := dlA_F hF4 rfl _
            have l54 : gi h4 171 5 = gi h 171 5 := FRM_gi hF4 (r := 54) rfl rfl
            refine x_callV 83 hK hmono rfl rfl [.ref 0, .int (I (-1))] [] rfl rfl (Nat.le_of_ble_eq_true rfl) (Nat.le_of_ble_eq_true rfl) rfl (sp_0 (h := h4) hG4) (CLd_le (Nat.le_of_ble_eq_true rfl) (ctX10_giveOrderF hSP hG4 (show PT h4 from PT_F hF4 (by decide) hP) (show XI h4 from (xOk_ok rfl _ h4 hF4 hX)) (DR_F hF4 rfl hD) (w := x) (b := b + i) (by rw [n94]; exact hs) wx (by omega) (v := (-1)) (by omega) (by omega))) ?_
            rw [dl4, l54, n94]
            rintro v587 h587 ⟨rfl, hG587, hF587, hS587⟩
            have db := dlA_b h x.1
            have ev : (-1) = 2 * drv d - 1 := by omega
            rw [ev] at hS587
            refine x_pop 84 hK rfl rfl rfl ?_
            refine x_iinc 87 hK rfl rfl (lk1_n (lk1_n l4 (by decide) (Or.inl rfl)) (by decide) (Or.inl rfl)) _ rfl ?_
            refine x_aload_n 88 hK rfl rfl (lk1_n (lk1_n (lk1_n l0 (by decide) (Or.inl rfl)) (by decide) (Or.inl rfl)) (by decide) (Or.inl rfl)) ?_
            have n9588 : gi h587 0 9 = (gi h 0 9) := (FRM_gi hF587 (r := 0) rfl rfl).trans (FRM_gi hF4 (r := 0) rfl rfl)
            have n19588 : gi h587 19 0 = gi h 19 0 := (FRM_gi hF587 (r := 13) rfl rfl).trans (FRM_gi hF4 (r := 13) rfl rfl)
            refine x_callV 91 hK hmono rfl rfl [.ref 0] [] rfl rfl (Nat.le_of_ble_eq_true rfl) (Nat.le_of_ble_eq_true rfl) rfl (sp_0 (h := h587) hG587) (CLd_le (Nat.le_of_ble_eq_true rfl) (ctX10_goStepF hSP hG587 (b := b + i) (w := (gvW (dlA h x.1) (tvF (gi h 171 5) (2 * drv d - 1)) x)) (ml := ml) (ln := ln) (ea := ea) (by rw [n9588]; exact hS587) (WW_gv wx) (by omega) (fun j hj => by rw [n19588] at hj; rw [show gi h587 20 j = gi h 20 j from (FRM_gi hF587 (r := 14) rfl rfl).trans (FRM_gi hF4 (r := 14) rfl rfl), show gi h587 21 j = gi h 21 j from (FRM_gi hF587 (r := 15) rfl rfl).trans (FRM_gi hF4 (r := 15) rfl rfl)]; exact hml j hj) (fun m hm => by rw [n9588] at hm; rw [show gi h587 22 m = gi h 22 m from (FRM_gi hF587 (r := 16) rfl rfl).trans (FRM_gi hF4 (r := 16) rfl rfl)]; exact hea m hm))) ?_
            rw [n9588, n19588]
            rintro v588 h588 ⟨rfl, hG588, hF588, hS588⟩
            refine x_pop 92 hK rfl rfl rfl ?_
            refine x_iinc 95 hK rfl rfl (lk1_n (lk1_n (lk1_n l5 (by decide) (Or.inl rfl)) (by decide) (Or.inl rfl)) (by decide) (Or.inl rfl)) _ rfl ?_
            refine x_goto 32 hK rfl rfl ?_
            obtain ⟨q, hq⟩ : ∃ q : Nat, (n - i).toNat = q + 1 := ⟨(n - i).toNat - 1, by omega⟩
            rw [hq] at hv
            unfold vgI at hv
            rw [if_pos (by omega)] at hv
            have wd : WW (b + i + 1) (stW ml ln (gi h 19 0).toNat (gi h 0 9) ea (gvW (dlA h x.1) (tvF (gi h 171 5) (2 * drv d - 1)) x)) := WW_st (by omega) g9.2 (fun m hm => (hea m hm).2) (WW_gv wx)
            exact ih _ (by omega) ((d * 1103515245) + 12345) (g + 1) (i + 1) _ _ rfl (n0) (by omega) (by omega) (⟨_, _, hS588, by rw [show b + (i + 1) = b + i + 1 by omega]; exact wd, by rw [show (n - (i + 1)).toNat = q by omega]; exact hv⟩) ((kS28_F hF588 (by decide)).trans ((kS28_F hF587 (by decide)).trans (s28))) (lk1_n (lk1_n (lk1_n (lk1_n l0 (by decide) (Or.inl rfl)) (by decide) (Or.inl rfl)) (by decide) (Or.inl rfl)) (by decide) (Or.inl rfl)) (lk1_n (lk1_n (lk1_n (lk1_n l2 (by decide) (Or.inl rfl)) (by decide) (Or.inl rfl)) (by decide) (Or.inl rfl)) (by decide) (Or.inl rfl)) (lk1_n (lk1_n (lk1_n lk1_s (by decide) (Or.inl rfl)) (by decide) (Or.inl rfl)) (by decide) (Or.inl rfl)) (lk1_n lk1_s (by decide) (Or.inl rfl)) lk1_s (hG588) (((hF4).trans ((hF587).mono rfl)).trans ((hF588).mono rfl))
  refine x_iload_n 1 hK rfl rfl rfl ?_
  refine x_iconst 2 hK rfl rfl ?_
  refine x_if_icmp_lt 11 5 hK rfl rfl rfl (by omega) (by omega) (fun c3 => ?_) (fun c3 => ?_)
  · refine x_iconst 12 hK rfl rfl ?_
    exact x_iret hK rfl ⟨Or.inl ⟨by omega, rfl, rfl⟩, hG, FRM.rf⟩
  · refine x_iload_n 6 hK rfl rfl rfl ?_
    refine x_bipush 8 hK rfl rfl rfl ?_
    refine x_if_icmp_le 13 11 hK rfl rfl rfl (by omega) (by omega) (fun c8 => ?_) (fun c8 => ?_)
    · refine x_aload_n 14 hK rfl rfl rfl ?_
      refine x_getR 17 hK rfl rfl (sp_0 (h := h) hG) (rf_0_11 (h := h) hG) ?_
      refine x_aload_n 18 hK rfl rfl rfl ?_
      refine x_getR 21 hK rfl rfl (sp_0 (h := h) hG) (rf_0_10 (h := h) hG) ?_
      refine x_callV 24 hK hmono rfl rfl [.ref 28, .ref 23] [] rfl rfl (Nat.le_of_ble_eq_true rfl) (Nat.le_of_ble_eq_true rfl) rfl (sp_28 (h := h) hG) (CLd_le (Nat.le_of_ble_eq_true rfl) (ctX8_copyFrom_28_23 hSP hG (show PT h from hP))) ?_
      rintro v589 h589 ⟨rfl, hG589, hF589, eS589, ot589⟩
      refine x_iload_n 25 hK rfl rfl rfl ?_
      refine x_istore_n 26 hK rfl rfl [(3, .int (I x)), (0, .ref 0), (1, .int (I x)), (2, .int (I n))] rfl ?_
      refine x_iconst 27 hK rfl rfl ?_
      refine x_istore 29 hK rfl rfl [(4, .int (I 0)), (3, .int (I x)), (0, .ref 0), (1, .int (I x)), (2, .int (I n))] rfl ?_
      refine x_iconst 30 hK rfl rfl ?_
      refine x_istore 32 hK rfl rfl [(5, .int (I 0)), (4, .int (I 0)), (3, .int (I x)), (0, .ref 0), (1, .int (I x)), (2, .int (I n))] rfl ?_
      exact loop _ x 0 0 _ _ rfl (⟨by omega, by omega⟩) (by omega) (by omega) (⟨w, 0, by rw [kS23_F hF589 (by decide)]; exact hS, by rw [show b + 0 = b by omega]; exact hw, by rw [show n - 0 = n by omega]; exact hVV⟩) (eS589) rfl rfl rfl rfl rfl (hG589) ((hF589).mono rfl)
    · refine x_iconst 12 hK rfl rfl ?_
      exact x_iret hK rfl ⟨Or.inl ⟨by omega, rfl, rfl⟩, hG, FRM.rf⟩
set_option maxRecDepth 4000 in
theorem ctX11_voyagesF {SP : CT} (hSP : MONO SP) {sh : List (Nat × Nat)} {h : aH} (hG : GD gE gRL sh h) {x n b : Int} (hX : XI h) (rx : r32 x) (rn : r32 n) (wb : WB b (RC h 178 0)) (hb : b ≤ 900000) : CLd SP 12 mX11_voyages [.ref 171, .int (I x), .int (I n)] h 0 0 (fun rv h' => ((¬ (1 ≤ n ∧ n ≤ 60) ∧ rv = some (.int (I (-1))) ∧ mrow h' = mrow h ∧ gi h' 171 1 = gi h 171 1) ∨ ((1 ≤ n ∧ n ≤ 60) ∧ rv = some (.int (I (vgI (dlA h) (gi h 171 5) (gi h 175) (gi h 176) (gi h 171 6).toNat (gi h 171 7) (gi h 177) n.toNat x (vw (RC h 178 0)) 0 0).2.2)) ∧ mrow h' = [(vgI (dlA h) (gi h 171 5) (gi h 175) (gi h 176) (gi h 171 6).toNat (gi h 171 7) (gi h 177) n.toNat x (vw (RC h 178 0)) 0 0).1.2.1, (vgI (dlA h) (gi h 171 5) (gi h 175) (gi h 176) (gi h 171 6).toNat (gi h 171 7) (gi h 177) n.toNat x (vw (RC h 178 0)) 0 0).2.1])) ∧ GD gE gRL sh h' ∧ FRM gRL [(0, 54, 0, 0), (0, 54, 1, 1), (0, 54, 31, 32), (0, 62, 0, 56), (0, 67, 0, 79), (0, 68, 0, 3), (1, 55, 0, 39)] h h') := by
  refine x_met _ rfl (Nat.le_of_ble_eq_true rfl) (fun K hK => ?_)
  have hmono := MONO_CLd hSP 11
  obtain ⟨VV, hVV⟩ : ∃ VV, (vgI (dlA h) (gi h 171 5) (gi h 175) (gi h 176) (gi h 171 6).toNat (gi h 171 7) (gi h 177) n.toNat x (vw (RC h 178 0)) 0 0) = VV := ⟨_, rfl⟩
  rw [hVV] at hK
  have g6 := gri 0 16 hG (a := 171) (r := 54) (k := 6) rfl rfl
  have g7 := gri 0 8 hG (a := 171) (r := 54) (k := 7) rfl rfl
  have loop : ∀ (mz : Nat) (d g i k : Int) (h4 : aH) (ls : List (Nat × Value)), ((n - i).toNat = mz) → (1 ≤ n ∧ n ≤ 60) → (0 ≤ i ∧ i ≤ n) → (0 ≤ g ∧ g ≤ i) → (0 ≤ k ∧ k ≤ 16 * i) → (gi h4 171 31 = k) → (0 ≤ gi h4 171 32 ∧ gi h4 171 32 ≤ 8 * i) → ((vgI (dlA h) (gi h 171 5) (gi h 175) (gi h 176) (gi h 171 6).toNat (gi h 171 7) (gi h 177) (n - i).toNat d (vw (RC h4 179 0)) g k) = VV) → (WB (b + i) (RC h4 179 0)) → lk ls 0 = some (.ref 171) → lk ls 2 = some (.int (I n)) → lk ls 3 = some (.int (I d)) → lk ls 4 = some (.int (I g)) → lk ls 5 = some (.int (I i)) → GD gE gRL sh h4 → FRM gRL [(0, 54, 0, 0), (0, 54, 1, 1), (0, 54, 31, 32), (0, 62, 0, 56), (0, 67, 0, 79), (0, 68, 0, 3), (1, 55, 0, 39)] h h4 → K 35 ls [] h4 0 0 := by
    intro mz
    induction mz using Nat.strongRecOn with
    | ind mz ih =>
    intro d g i k h4 ls hm n0 i0 g0 k0 s31 s32 hv wb4 l0 l2 l3 l4 l5 hG4 hF4
    have gl := gri 0 8 hG4 (a := 179) (r := 62) (k := 1) rfl rfl
    refine x_iload 37 hK rfl rfl l5 ?_
    refine x_iload_n 38 hK rfl rfl l2 ?_
    refine x_if_icmp_ge 109 41 hK rfl rfl rfl (by omega) (by omega) (fun c3 => ?_) (fun c3 => ?_)
    · refine x_aload_n 110 hK rfl rfl l0 ?_
      refine x_iconst 111 hK rfl rfl ?_
      refine x_putI 114 hK rfl rfl (sp_171 (h := h4) hG4) ?_
      refine x_aload_n 115 hK rfl rfl l0 ?_
      refine x_aload_n 116 hK rfl rfl l0 ?_
      refine x_getR 119 hK rfl rfl (sp_171 (h := h4) hG4) (rf_171_15 (h := h4) hG4) ?_
      refine x_iconst 120 hK rfl rfl ?_
      have g590 := gri (0) (8) hG4 (a := 179) (r := 62) (k := 1) rfl rfl
      refine x_ialoadE 121 hK rfl rfl (sp_179 (h := h4) hG4) (by omega) (by omega) (by omega) (e' := (gi h4 179 1)) (gi_a (by decide) _) ?_
      refine x_i2l 122 hK rfl rfl (by omega) ?_
      have hGp591 : GD gE gRL sh (wI h4 171 1 0) := GD_w1 (hG4) (r := 54) rfl (by omega) rfl (by omega) (by omega)
      have z593 : gi (wI h4 171 1 0) 171 1 = 0 := gi_same (by omega)
      have z593r : mrow (wI h4 171 1 0) = [] := mrow_0 (gi_same (by omega))
      refine x_callV 125 hK hmono rfl rfl [.ref 171, .long (J (gi h4 179 1))] [] rfl rfl (Nat.le_of_ble_eq_true rfl) (Nat.le_of_ble_eq_true rfl) rfl (sp_171 (h := h4) hG4) (CLd_le (Nat.le_of_ble_eq_true rfl) (ctX11_entersF hSP hGp591 (by omega) (by omega))) ?_
      rintro v592 h592 ⟨rfl, hG592, hF592, t592, s592⟩
      rw [z593] at t592
      rw [z593r] at s592
      replace t592 : gi h592 171 1 = 1 := t592
      change mrow h592 = [(gi h4 179 1)] at s592
      refine x_aload_n 126 hK rfl rfl l0 ?_
      refine x_iload 128 hK rfl rfl l4 ?_
      refine x_i2l 129 hK rfl rfl (by omega) ?_
      have z595 : gi h592 171 1 = 1 := t592
      have z595r : mrow h592 = [(gi h4 179 1)] := s592
      refine x_callV 132 hK hmono rfl rfl [.ref 171, .long (J g)] [] rfl rfl (Nat.le_of_ble_eq_true rfl) (Nat.le_of_ble_eq_true rfl) rfl (sp_171 (h := h592) hG592) (CLd_le (Nat.le_of_ble_eq_true rfl) (ctX11_entersF hSP hG592 (by omega) (by omega))) ?_
      rintro v594 h594 ⟨rfl, hG594, hF594, t594, s594⟩
      rw [z595] at t594
      rw [z595r] at s594
      replace t594 : gi h594 171 1 = 2 := t594
      change mrow h594 = [(gi h4 179 1), g] at s594
      refine x_aload_n 133 hK rfl rfl l0 ?_
      refine x_getE 136 hK rfl (Or.inl rfl) rfl (sp_171 (h := h594) hG594) (e := k) ((FRM_gi hF594 (r := 54) rfl rfl).trans ((FRM_gi hF592 (r := 54) rfl rfl).trans ((gi_k (by decide) _).trans (s31)))) ?_
      have z0 : (n - i).toNat = 0 := by omega
      rw [z0] at hv
      have hv : (vw (RC h4 179 0), g, k) = VV := hv
      subst hv
      have x2 : gi h4 179 1 = (vw (RC h4 179 0)).2.1 := (RC_0 (a := 179) (k := 1) (by omega)).symm
      exact x_iret hK rfl ⟨Or.inr ⟨n0, rfl, by rw [s594, x2]⟩, hG594, ((FRM_w (hF4) (r := 54) rfl rfl).trans ((hF592).mono rfl)).trans ((hF594).mono rfl)⟩
    · refine x_iload_n 42 hK rfl rfl l3 ?_
      refine x_ldc_w 45 hK rfl rfl ?_
      refine x_imul 46 hK rfl rfl ?_
      refine x_sipush 49 hK rfl rfl rfl ?_
      refine x_iadd 50 hK rfl rfl ?_
      refine x_istore_n 51 hK rfl rfl _ rfl ?_
      refine x_iload_n 52 hK rfl rfl lk1_s ?_
      refine x_bipush 54 hK rfl rfl rfl ?_
      have g596 := bUsh_r ((d * 1103515245) + 12345) 16
      refine x_iushrF 55 hK rfl rfl ?_
      refine x_iconst 56 hK rfl rfl ?_
      refine x_irem 57 hK rfl rfl (by omega) (by omega) (by omega) (by omega) ?_
      have tm := drv_b d
      rw [show (bUsh (d * 1103515245 + 12345) 16).tmod 4 = drv d from rfl]
      refine x_istore 59 hK rfl rfl _ rfl ?_
      refine x_iload 61 hK rfl rfl lk1_s ?_
      refine x_iconst 62 hK rfl rfl ?_
      refine x_if_icmp_ge 95 65 hK rfl rfl rfl (by omega) (by omega) (fun c35 => ?_) (fun c35 => ?_)
      · refine x_aload_n 96 hK rfl rfl (lk1_n (lk1_n l0 (by decide) (Or.inl rfl)) (by decide) (Or.inl rfl)) ?_
        refine x_aload_n 97 hK rfl rfl (lk1_n (lk1_n l0 (by decide) (Or.inl rfl)) (by decide) (Or.inl rfl)) ?_
        refine x_getR 100 hK rfl rfl (sp_171 (h := h4) hG4) (rf_171_15 (h := h4) hG4) ?_
        have z31597 : gi h4 171 31 = k := s31
        have z32597 : gi h4 171 32 = gi h4 171 32 := rfl
        refine x_callV 103 hK hmono rfl rfl [.ref 171, .ref 179] [] rfl rfl (Nat.le_of_ble_eq_true rfl) (Nat.le_of_ble_eq_true rfl) rfl (sp_171 (h := h4) hG4) (CLd_le (Nat.le_of_ble_eq_true rfl) (ctX11_stepGoesTF hSP hG4 wb4 (by omega) (by omega) (by omega))) ?_
        rw [show gi h4 175 = gi h 175 from funext fun j => FRM_gi hF4 (r := 58) rfl rfl, show gi h4 176 = gi h 176 from funext fun j => FRM_gi hF4 (r := 59) rfl rfl, show gi h4 171 6 = gi h 171 6 from FRM_gi hF4 (r := 54) rfl rfl, show gi h4 171 7 = gi h 171 7 from FRM_gi hF4 (r := 54) rfl rfl, show gi h4 177 = gi h 177 from funext fun j => FRM_gi hF4 (r := 60) rfl rfl, z31597, z32597]
        rintro v597 h597 ⟨rfl, hG597, hF597, sv597, x31597, x32597, wb597⟩
        have hh597 := hitN_b (gi h 175) (gi h 176) ((vw (RC h4 179 0)).1 + 1) (stL (vw (RC h4 179 0))) (gi h 171 6).toNat
        have uh597 := hcN_b (vw (RC h4 179 0)).2.2.2.2.2.1 (gi h 177) (gi h 171 7).toNat
        have x31597 : gi h597 171 31 = k + hitN (gi h 175) (gi h 176) ((vw (RC h4 179 0)).1 + 1) (stL (vw (RC h4 179 0))) (gi h 171 6).toNat := x31597
        have x32597 : gi h597 171 32 = gi h4 171 32 + hcN (vw (RC h4 179 0)).2.2.2.2.2.1 (gi h 177) (gi h 171 7).toNat := x32597
        refine x_iinc 106 hK rfl rfl (lk1_n (lk1_n l5 (by decide) (Or.inl rfl)) (by decide) (Or.inl rfl)) _ rfl ?_
        refine x_goto 35 hK rfl rfl ?_
        obtain ⟨q, hq⟩ : ∃ q : Nat, (n - i).toNat = q + 1 := ⟨(n - i).toNat - 1, by omega⟩
        rw [hq] at hv
        unfold vgI at hv
        rw [if_neg (by omega), ← sv597] at hv
        exact ih _ (by omega) ((d * 1103515245) + 12345) g (i + 1) (k + hitN (gi h 175) (gi h 176) ((vw (RC h4 179 0)).1 + 1) (stL (vw (RC h4 179 0))) (gi h 171 6).toNat) _ _ rfl (n0) (by omega) (by omega) (by omega) (x31597) (by omega) (by rw [show (n - (i + 1)).toNat = q by omega]; exact hv) ((by rw [show b + (i + 1) = b + i + 1 by omega]; exact wb597)) (lk1_n (lk1_n (lk1_n l0 (by decide) (Or.inl rfl)) (by decide) (Or.inl rfl)) (by decide) (Or.inl rfl)) (lk1_n (lk1_n (lk1_n l2 (by decide) (Or.inl rfl)) (by decide) (Or.inl rfl)) (by decide) (Or.inl rfl)) (lk1_n (lk1_n lk1_s (by decide) (Or.inl rfl)) (by decide) (Or.inl rfl)) (lk1_n (lk1_n (lk1_n l4 (by decide) (Or.inl rfl)) (by decide) (Or.inl rfl)) (by decide) (Or.inl rfl)) lk1_s (hG597) ((hF4).trans ((hF597).mono rfl))
      · refine x_iload 67 hK rfl rfl (lk1_n (lk1_n l4 (by decide) (Or.inl rfl)) (by decide) (Or.inl rfl)) ?_
        refine x_aload_n 68 hK rfl rfl (lk1_n (lk1_n l0 (by decide) (Or.inl rfl)) (by decide) (Or.inl rfl)) ?_
        refine x_aload_n 69 hK rfl rfl (lk1_n (lk1_n l0 (by decide) (Or.inl rfl)) (by decide) (Or.inl rfl)) ?_
        refine x_getR 72 hK rfl rfl (sp_171 (h := h4) hG4) (rf_171_15 (h := h4) hG4) ?_
        refine x_iconst 73 hK rfl rfl ?_
        refine x_iload 75 hK rfl rfl lk1_s ?_
        refine x_imul 76 hK rfl rfl ?_
        refine x_iconst 77 hK rfl rfl ?_
        refine x_isub 78 hK rfl rfl ?_
        have dl4 : dlA h4 = dlA h := funext fun z => dlA_F hF4 rfl z
        have l54 : gi h4 171 5 = gi h 171 5 := FRM_gi hF4 (r := 54) rfl rfl
        have gi9 : gvR ((2 * (drv d)) - 1) (vw (RC h4 179 0)) = gvR 0 (vw (RC h4 179 0)) := gvR_in (by omega)
        have gb : -3 ≤ gvR 0 (vw (RC h4 179 0)) ∧ gvR 0 (vw (RC h4 179 0)) ≤ 0 := by unfold gvR; (repeat' split) <;> omega
        have e90 : gi h4 179 0 = (vw (RC h4 179 0)).1 := (RC_0 (a := 179) (k := 0) (by omega)).symm
        refine x_callV 81 hK hmono rfl rfl [.ref 171, .ref 179, .int (I ((2 * (drv d)) - 1))] [.int (I g)] rfl rfl (Nat.le_of_ble_eq_true rfl) (Nat.le_of_ble_eq_true rfl) rfl (sp_171 (h := h4) hG4) (CLd_le (Nat.le_of_ble_eq_true rfl) (ctX11_givesTF hSP hG4 (show XI h4 from (xOk_ok rfl _ h4 hF4 hX)) (v := ((2 * (drv d)) - 1)) (by omega) wb4 (by omega))) ?_
        rw [dl4, l54, gi9, e90]
        rintro v598 h598 ⟨⟨gz598, rfl, rc598⟩ | ⟨gz598, rfl, rc598⟩, hG598, hF598, wb598⟩
        · refine x_if_lt 88 84 hK rfl rfl rfl (by omega) (fun c53 => ?_) (fun c53 => ?_)
          · refine x_iconst 89 hK rfl rfl ?_
            refine x_callS 92 hK hmono rfl (Or.inl rfl) rfl [.int (I 0)] [.int (I g)] rfl rfl (Nat.le_of_ble_eq_true rfl) (Nat.le_of_ble_eq_true rfl) (CLd_le (Nat.le_of_ble_eq_true rfl) (ctX11_flag (by omega))) ?_
            rintro v9 h9 ⟨e9, rfl⟩
            rw [e9]
            clear e9
            refine x_iadd 93 hK rfl rfl ?_
            refine x_istore 95 hK rfl rfl _ rfl ?_
            refine x_aload_n 96 hK rfl rfl (lk1_n (lk1_n (lk1_n l0 (by decide) (Or.inl rfl)) (by decide) (Or.inl rfl)) (by decide) (Or.inl rfl)) ?_
            refine x_aload_n 97 hK rfl rfl (lk1_n (lk1_n (lk1_n l0 (by decide) (Or.inl rfl)) (by decide) (Or.inl rfl)) (by decide) (Or.inl rfl)) ?_
            refine x_getR 100 hK rfl rfl (sp_171 (h := h598) hG598) (rf_171_15 (h := h598) hG598) ?_
            have z31600 : gi h598 171 31 = k := (FRM_gi hF598 (r := 54) rfl rfl).trans (s31)
            have z32600 : gi h598 171 32 = gi h4 171 32 := FRM_gi hF598 (r := 54) rfl rfl
            refine x_callV 103 hK hmono rfl rfl [.ref 171, .ref 179] [] rfl rfl (Nat.le_of_ble_eq_true rfl) (Nat.le_of_ble_eq_true rfl) rfl (sp_171 (h := h598) hG598) (CLd_le (Nat.le_of_ble_eq_true rfl) (ctX11_stepGoesTF hSP hG598 wb598 (by omega) (by omega) (by omega))) ?_
            rw [rc598, show gi h598 175 = gi h 175 from funext fun j => (FRM_gi hF598 (r := 58) rfl rfl).trans (FRM_gi hF4 (r := 58) rfl rfl), show gi h598 176 = gi h 176 from funext fun j => (FRM_gi hF598 (r := 59) rfl rfl).trans (FRM_gi hF4 (r := 59) rfl rfl), show gi h598 171 6 = gi h 171 6 from (FRM_gi hF598 (r := 54) rfl rfl).trans (FRM_gi hF4 (r := 54) rfl rfl), show gi h598 171 7 = gi h 171 7 from (FRM_gi hF598 (r := 54) rfl rfl).trans (FRM_gi hF4 (r := 54) rfl rfl), show gi h598 177 = gi h 177 from funext fun j => (FRM_gi hF598 (r := 60) rfl rfl).trans (FRM_gi hF4 (r := 60) rfl rfl), z31600, z32600]
            rintro v600 h600 ⟨rfl, hG600, hF600, sv600, x31600, x32600, wb600⟩
            have hh600 := hitN_b (gi h 175) (gi h 176) ((vw (RC h4 179 0)).1 + 1) (stL (vw (RC h4 179 0))) (gi h 171 6).toNat
            have uh600 := hcN_b (vw (RC h4 179 0)).2.2.2.2.2.1 (gi h 177) (gi h 171 7).toNat
            have x31600 : gi h600 171 31 = k + hitN (gi h 175) (gi h 176) ((vw (RC h4 179 0)).1 + 1) (stL (vw (RC h4 179 0))) (gi h 171 6).toNat := x31600
            have x32600 : gi h600 171 32 = gi h4 171 32 + hcN (vw (RC h4 179 0)).2.2.2.2.2.1 (gi h 177) (gi h 171 7).toNat := x32600
            refine x_iinc 106 hK rfl rfl (lk1_n (lk1_n (lk1_n l5 (by decide) (Or.inl rfl)) (by decide) (Or.inl rfl)) (by decide) (Or.inl rfl)) _ rfl ?_
            refine x_goto 35 hK rfl rfl ?_
            obtain ⟨q, hq⟩ : ∃ q : Nat, (n - i).toNat = q + 1 := ⟨(n - i).toNat - 1, by omega⟩
            rw [hq] at hv
            unfold vgI at hv
            rw [if_neg (by omega), ← sv600] at hv
            exact ih _ (by omega) ((d * 1103515245) + 12345) (g + 0) (i + 1) (k + hitN (gi h 175) (gi h 176) ((vw (RC h4 179 0)).1 + 1) (stL (vw (RC h4 179 0))) (gi h 171 6).toNat) _ _ rfl (n0) (by omega) (by omega) (by omega) (x31600) (by omega) (by rw [show (n - (i + 1)).toNat = q by omega, Int.add_zero]; exact hv) ((by rw [show b + (i + 1) = b + i + 1 by omega]; exact wb600)) (lk1_n (lk1_n (lk1_n (lk1_n l0 (by decide) (Or.inl rfl)) (by decide) (Or.inl rfl)) (by decide) (Or.inl rfl)) (by decide) (Or.inl rfl)) (lk1_n (lk1_n (lk1_n (lk1_n l2 (by decide) (Or.inl rfl)) (by decide) (Or.inl rfl)) (by decide) (Or.inl rfl)) (by decide) (Or.inl rfl)) (lk1_n (lk1_n (lk1_n lk1_s (by decide) (Or.inl rfl)) (by decide) (Or.inl rfl)) (by decide) (Or.inl rfl)) (lk1_n lk1_s (by decide) (Or.inl rfl)) lk1_s (hG600) (((hF4).trans ((hF598).mono rfl)).trans ((hF600).mono rfl))
          · refine x_iconst 85 hK rfl rfl ?_
            refine x_goto 89 hK rfl rfl ?_
            refine x_callS 92 hK hmono rfl (Or.inl rfl) rfl [.int (I 1)] [.int (I g)] rfl rfl (Nat.le_of_ble_eq_true rfl) (Nat.le_of_ble_eq_true rfl) (CLd_le (Nat.le_of_ble_eq_true rfl) (ctX11_flag (by omega))) ?_
            rintro v9 h9 ⟨e9, rfl⟩
            rw [e9]
            clear e9
            refine x_iadd 93 hK rfl rfl ?_
            refine x_istore 95 hK rfl rfl _ rfl ?_
            refine x_aload_n 96 hK rfl rfl (lk1_n (lk1_n (lk1_n l0 (by decide) (Or.inl rfl)) (by decide) (Or.inl rfl)) (by decide) (Or.inl rfl)) ?_
            refine x_aload_n 97 hK rfl rfl (lk1_n (lk1_n (lk1_n l0 (by decide) (Or.inl rfl)) (by decide) (Or.inl rfl)) (by decide) (Or.inl rfl)) ?_
            refine x_getR 100 hK rfl rfl (sp_171 (h := h598) hG598) (rf_171_15 (h := h598) hG598) ?_
            have z31602 : gi h598 171 31 = k := (FRM_gi hF598 (r := 54) rfl rfl).trans (s31)
            have z32602 : gi h598 171 32 = gi h4 171 32 := FRM_gi hF598 (r := 54) rfl rfl
            refine x_callV 103 hK hmono rfl rfl [.ref 171, .ref 179] [] rfl rfl (Nat.le_of_ble_eq_true rfl) (Nat.le_of_ble_eq_true rfl) rfl (sp_171 (h := h598) hG598) (CLd_le (Nat.le_of_ble_eq_true rfl) (ctX11_stepGoesTF hSP hG598 wb598 (by omega) (by omega) (by omega))) ?_
            rw [rc598, show gi h598 175 = gi h 175 from funext fun j => (FRM_gi hF598 (r := 58) rfl rfl).trans (FRM_gi hF4 (r := 58) rfl rfl), show gi h598 176 = gi h 176 from funext fun j => (FRM_gi hF598 (r := 59) rfl rfl).trans (FRM_gi hF4 (r := 59) rfl rfl), show gi h598 171 6 = gi h 171 6 from (FRM_gi hF598 (r := 54) rfl rfl).trans (FRM_gi hF4 (r := 54) rfl rfl), show gi h598 171 7 = gi h 171 7 from (FRM_gi hF598 (r := 54) rfl rfl).trans (FRM_gi hF4 (r := 54) rfl rfl), show gi h598 177 = gi h 177 from funext fun j => (FRM_gi hF598 (r := 60) rfl rfl).trans (FRM_gi hF4 (r := 60) rfl rfl), z31602, z32602]
            rintro v602 h602 ⟨rfl, hG602, hF602, sv602, x31602, x32602, wb602⟩
            have hh602 := hitN_b (gi h 175) (gi h 176) ((vw (RC h4 179 0)).1 + 1) (stL (vw (RC h4 179 0))) (gi h 171 6).toNat
            have uh602 := hcN_b (vw (RC h4 179 0)).2.2.2.2.2.1 (gi h 177) (gi h 171 7).toNat
            have x31602 : gi h602 171 31 = k + hitN (gi h 175) (gi h 176) ((vw (RC h4 179 0)).1 + 1) (stL (vw (RC h4 179 0))) (gi h 171 6).toNat := x31602
            have x32602 : gi h602 171 32 = gi h4 171 32 + hcN (vw (RC h4 179 0)).2.2.2.2.2.1 (gi h 177) (gi h 171 7).toNat := x32602
            refine x_iinc 106 hK rfl rfl (lk1_n (lk1_n (lk1_n l5 (by decide) (Or.inl rfl)) (by decide) (Or.inl rfl)) (by decide) (Or.inl rfl)) _ rfl ?_
            refine x_goto 35 hK rfl rfl ?_
            exfalso
            omega
        · have db := dlA_b h (vw (RC h4 179 0)).1
          refine x_if_lt 88 84 hK rfl rfl rfl (by omega) (fun c77 => ?_) (fun c77 => ?_)
          · refine x_iconst 89 hK rfl rfl ?_
            refine x_callS 92 hK hmono rfl (Or.inl rfl) rfl [.int (I 0)] [.int (I g)] rfl rfl (Nat.le_of_ble_eq_true rfl) (Nat.le_of_ble_eq_true rfl) (CLd_le (Nat.le_of_ble_eq_true rfl) (ctX11_flag (by omega))) ?_
            rintro v9 h9 ⟨e9, rfl⟩
            rw [e9]
            clear e9
            refine x_iadd 93 hK rfl rfl ?_
            refine x_istore 95 hK rfl rfl _ rfl ?_
            refine x_aload_n 96 hK rfl rfl (lk1_n (lk1_n (lk1_n l0 (by decide) (Or.inl rfl)) (by decide) (Or.inl rfl)) (by decide) (Or.inl rfl)) ?_
            refine x_aload_n 97 hK rfl rfl (lk1_n (lk1_n (lk1_n l0 (by decide) (Or.inl rfl)) (by decide) (Or.inl rfl)) (by decide) (Or.inl rfl)) ?_
            refine x_getR 100 hK rfl rfl (sp_171 (h := h598) hG598) (rf_171_15 (h := h598) hG598) ?_
            have z31604 : gi h598 171 31 = k := (FRM_gi hF598 (r := 54) rfl rfl).trans (s31)
            have z32604 : gi h598 171 32 = gi h4 171 32 := FRM_gi hF598 (r := 54) rfl rfl
            refine x_callV 103 hK hmono rfl rfl [.ref 171, .ref 179] [] rfl rfl (Nat.le_of_ble_eq_true rfl) (Nat.le_of_ble_eq_true rfl) rfl (sp_171 (h := h598) hG598) (CLd_le (Nat.le_of_ble_eq_true rfl) (ctX11_stepGoesTF hSP hG598 wb598 (by omega) (by omega) (by omega))) ?_
            rw [rc598, show gi h598 175 = gi h 175 from funext fun j => (FRM_gi hF598 (r := 58) rfl rfl).trans (FRM_gi hF4 (r := 58) rfl rfl), show gi h598 176 = gi h 176 from funext fun j => (FRM_gi hF598 (r := 59) rfl rfl).trans (FRM_gi hF4 (r := 59) rfl rfl), show gi h598 171 6 = gi h 171 6 from (FRM_gi hF598 (r := 54) rfl rfl).trans (FRM_gi hF4 (r := 54) rfl rfl), show gi h598 171 7 = gi h 171 7 from (FRM_gi hF598 (r := 54) rfl rfl).trans (FRM_gi hF4 (r := 54) rfl rfl), show gi h598 177 = gi h 177 from funext fun j => (FRM_gi hF598 (r := 60) rfl rfl).trans (FRM_gi hF4 (r := 60) rfl rfl), z31604, z32604]
            rintro v604 h604 ⟨rfl, hG604, hF604, sv604, x31604, x32604, wb604⟩
            have hh604 := hitN_b (gi h 175) (gi h 176) ((gvW (dlA h (vw (RC h4 179 0)).1) (tvF (gi h 171 5) (2 * drv d - 1)) (vw (RC h4 179 0))).1 + 1) (stL (gvW (dlA h (vw (RC h4 179 0)).1) (tvF (gi h 171 5) (2 * drv d - 1)) (vw (RC h4 179 0)))) (gi h 171 6).toNat
            have uh604 := hcN_b (gvW (dlA h (vw (RC h4 179 0)).1) (tvF (gi h 171 5) (2 * drv d - 1)) (vw (RC h4 179 0))).2.2.2.2.2.1 (gi h 177) (gi h 171 7).toNat
            have x31604 : gi h604 171 31 = k + hitN (gi h 175) (gi h 176) ((gvW (dlA h (vw (RC h4 179 0)).1) (tvF (gi h 171 5) (2 * drv d - 1)) (vw (RC h4 179 0))).1 + 1) (stL (gvW (dlA h (vw (RC h4 179 0)).1) (tvF (gi h 171 5) (2 * drv d - 1)) (vw (RC h4 179 0)))) (gi h 171 6).toNat := x31604
            have x32604 : gi h604 171 32 = gi h4 171 32 + hcN (gvW (dlA h (vw (RC h4 179 0)).1) (tvF (gi h 171 5) (2 * drv d - 1)) (vw (RC h4 179 0))).2.2.2.2.2.1 (gi h 177) (gi h 171 7).toNat := x32604
            refine x_iinc 106 hK rfl rfl (lk1_n (lk1_n (lk1_n l5 (by decide) (Or.inl rfl)) (by decide) (Or.inl rfl)) (by decide) (Or.inl rfl)) _ rfl ?_
            refine x_goto 35 hK rfl rfl ?_
            exfalso
            omega
          · refine x_iconst 85 hK rfl rfl ?_
            refine x_goto 89 hK rfl rfl ?_
            refine x_callS 92 hK hmono rfl (Or.inl rfl) rfl [.int (I 1)] [.int (I g)] rfl rfl (Nat.le_of_ble_eq_true rfl) (Nat.le_of_ble_eq_true rfl) (CLd_le (Nat.le_of_ble_eq_true rfl) (ctX11_flag (by omega))) ?_
            rintro v9 h9 ⟨e9, rfl⟩
            rw [e9]
            clear e9
            refine x_iadd 93 hK rfl rfl ?_
            refine x_istore 95 hK rfl rfl _ rfl ?_
            refine x_aload_n 96 hK rfl rfl (lk1_n (lk1_n (lk1_n l0 (by decide) (Or.inl rfl)) (by decide) (Or.inl rfl)) (by decide) (Or.inl rfl)) ?_
            refine x_aload_n 97 hK rfl rfl (lk1_n (lk1_n (lk1_n l0 (by decide) (Or.inl rfl)) (by decide) (Or.inl rfl)) (by decide) (Or.inl rfl)) ?_
            refine x_getR 100 hK rfl rfl (sp_171 (h := h598) hG598) (rf_171_15 (h := h598) hG598) ?_
            have z31606 : gi h598 171 31 = k := (FRM_gi hF598 (r := 54) rfl rfl).trans (s31)
            have z32606 : gi h598 171 32 = gi h4 171 32 := FRM_gi hF598 (r := 54) rfl rfl
            refine x_callV 103 hK hmono rfl rfl [.ref 171, .ref 179] [] rfl rfl (Nat.le_of_ble_eq_true rfl) (Nat.le_of_ble_eq_true rfl) rfl (sp_171 (h := h598) hG598) (CLd_le (Nat.le_of_ble_eq_true rfl) (ctX11_stepGoesTF hSP hG598 wb598 (by omega) (by omega) (by omega))) ?_
            rw [rc598, show gi h598 175 = gi h 175 from funext fun j => (FRM_gi hF598 (r := 58) rfl rfl).trans (FRM_gi hF4 (r := 58) rfl rfl), show gi h598 176 = gi h 176 from funext fun j => (FRM_gi hF598 (r := 59) rfl rfl).trans (FRM_gi hF4 (r := 59) rfl rfl), show gi h598 171 6 = gi h 171 6 from (FRM_gi hF598 (r := 54) rfl rfl).trans (FRM_gi hF4 (r := 54) rfl rfl), show gi h598 171 7 = gi h 171 7 from (FRM_gi hF598 (r := 54) rfl rfl).trans (FRM_gi hF4 (r := 54) rfl rfl), show gi h598 177 = gi h 177 from funext fun j => (FRM_gi hF598 (r := 60) rfl rfl).trans (FRM_gi hF4 (r := 60) rfl rfl), z31606, z32606]
            rintro v606 h606 ⟨rfl, hG606, hF606, sv606, x31606, x32606, wb606⟩
            have hh606 := hitN_b (gi h 175) (gi h 176) ((gvW (dlA h (vw (RC h4 179 0)).1) (tvF (gi h 171 5) (2 * drv d - 1)) (vw (RC h4 179 0))).1 + 1) (stL (gvW (dlA h (vw (RC h4 179 0)).1) (tvF (gi h 171 5) (2 * drv d - 1)) (vw (RC h4 179 0)))) (gi h 171 6).toNat
            have uh606 := hcN_b (gvW (dlA h (vw (RC h4 179 0)).1) (tvF (gi h 171 5) (2 * drv d - 1)) (vw (RC h4 179 0))).2.2.2.2.2.1 (gi h 177) (gi h 171 7).toNat
            have x31606 : gi h606 171 31 = k + hitN (gi h 175) (gi h 176) ((gvW (dlA h (vw (RC h4 179 0)).1) (tvF (gi h 171 5) (2 * drv d - 1)) (vw (RC h4 179 0))).1 + 1) (stL (gvW (dlA h (vw (RC h4 179 0)).1) (tvF (gi h 171 5) (2 * drv d - 1)) (vw (RC h4 179 0)))) (gi h 171 6).toNat := x31606
            have x32606 : gi h606 171 32 = gi h4 171 32 + hcN (gvW (dlA h (vw (RC h4 179 0)).1) (tvF (gi h 171 5) (2 * drv d - 1)) (vw (RC h4 179 0))).2.2.2.2.2.1 (gi h 177) (gi h 171 7).toNat := x32606
            refine x_iinc 106 hK rfl rfl (lk1_n (lk1_n (lk1_n l5 (by decide) (Or.inl rfl)) (by decide) (Or.inl rfl)) (by decide) (Or.inl rfl)) _ rfl ?_
            refine x_goto 35 hK rfl rfl ?_
            obtain ⟨q, hq⟩ : ∃ q : Nat, (n - i).toNat = q + 1 := ⟨(n - i).toNat - 1, by omega⟩
            rw [hq] at hv
            unfold vgI at hv
            rw [if_pos (by omega), ← sv606] at hv
            exact ih _ (by omega) ((d * 1103515245) + 12345) (g + 1) (i + 1) (k + hitN (gi h 175) (gi h 176) ((gvW (dlA h (vw (RC h4 179 0)).1) (tvF (gi h 171 5) (2 * drv d - 1)) (vw (RC h4 179 0))).1 + 1) (stL (gvW (dlA h (vw (RC h4 179 0)).1) (tvF (gi h 171 5) (2 * drv d - 1)) (vw (RC h4 179 0)))) (gi h 171 6).toNat) _ _ rfl (n0) (by omega) (by omega) (by omega) (x31606) (by omega) (by rw [show (n - (i + 1)).toNat = q by omega]; exact hv) ((by rw [show b + (i + 1) = b + i + 1 by omega]; exact wb606)) (lk1_n (lk1_n (lk1_n (lk1_n l0 (by decide) (Or.inl rfl)) (by decide) (Or.inl rfl)) (by decide) (Or.inl rfl)) (by decide) (Or.inl rfl)) (lk1_n (lk1_n (lk1_n (lk1_n l2 (by decide) (Or.inl rfl)) (by decide) (Or.inl rfl)) (by decide) (Or.inl rfl)) (by decide) (Or.inl rfl)) (lk1_n (lk1_n (lk1_n lk1_s (by decide) (Or.inl rfl)) (by decide) (Or.inl rfl)) (by decide) (Or.inl rfl)) (lk1_n lk1_s (by decide) (Or.inl rfl)) lk1_s (hG606) (((hF4).trans ((hF598).mono rfl)).trans ((hF606).mono rfl))
  refine x_aload_n 1 hK rfl rfl rfl ?_
  refine x_iconst 2 hK rfl rfl ?_
  refine x_putI 5 hK rfl rfl (sp_171 (h := h) hG) ?_
  refine x_iload_n 6 hK rfl rfl rfl ?_
  refine x_i2l 7 hK rfl rfl (by omega) ?_
  refine x_lconstE 8 1 hK rfl rfl rfl ?_
  refine x_ldc2_w 11 hK rfl rfl ?_
  have hGp607 : GD gE gRL sh (wI h 171 0 0) := GD_w1 (hG) (r := 54) rfl (by omega) rfl (by omega) (by omega)
  refine x_callS 14 hK hmono rfl (Or.inl rfl) rfl [.long (J n), .long (J 1), .long (J 60)] [] rfl rfl (Nat.le_of_ble_eq_true rfl) (Nat.le_of_ble_eq_true rfl) (CLd_le (Nat.le_of_ble_eq_true rfl) (ctX11_in (by omega) (by omega) (by omega))) ?_
  rintro v9 h9 ⟨e9, ⟨rfl, i1608, i2608⟩ | ⟨rfl, i1608⟩⟩ <;> rw [e9] <;> clear e9
  · refine x_if_ne 19 17 hK rfl rfl rfl (by omega) (fun _ => ?_) (fun c => by omega)
    refine x_iload_n 20 hK rfl rfl rfl ?_
    refine x_istore_n 21 hK rfl rfl [(3, .int (I x)), (0, .ref 171), (1, .int (I x)), (2, .int (I n))] rfl ?_
    refine x_iconst 22 hK rfl rfl ?_
    refine x_istore 24 hK rfl rfl [(4, .int (I 0)), (3, .int (I x)), (0, .ref 171), (1, .int (I x)), (2, .int (I n))] rfl ?_
    refine x_aload_n 25 hK rfl rfl rfl ?_
    have hGp610 : GD gE gRL sh (wI h 171 0 0) := GD_w1 (hG) (r := 54) rfl (by omega) rfl (by omega) (by omega)
    refine x_callV 28 hK hmono rfl rfl [.ref 171] [] rfl rfl (Nat.le_of_ble_eq_true rfl) (Nat.le_of_ble_eq_true rfl) rfl (sp_171 (h := h) hG) (CLd_le (Nat.le_of_ble_eq_true rfl) (ctX11_putsF hSP hGp610)) ?_
    rintro v609 h609 ⟨rfl, hG609, hF609, pt609⟩
    refine x_aload_n 29 hK rfl rfl rfl ?_
    refine x_callV 32 hK hmono rfl rfl [.ref 171] [] rfl rfl (Nat.le_of_ble_eq_true rfl) (Nat.le_of_ble_eq_true rfl) rfl (sp_171 (h := h609) hG609) (CLd_le (Nat.le_of_ble_eq_true rfl) (ctX11_startsCountingF hSP hG609)) ?_
    rintro v3 h3 ⟨rfl, hG3, hF3, z31, z32⟩
    refine x_iconst 33 hK rfl rfl ?_
    refine x_istore 35 hK rfl rfl [(5, .int (I 0)), (4, .int (I 0)), (3, .int (I x)), (0, .ref 171), (1, .int (I x)), (2, .int (I n))] rfl ?_
    have c178 : RC (wI h 171 0 0) 178 0 = RC h 178 0 := RC_w (by decide)
    have c3 : RC h3 179 0 = RC h 178 0 := (RC_F hF3 (r := 62) rfl rfl 0).trans (pt609.trans c178)
    exact loop _ x 0 0 0 _ _ rfl (⟨by omega, by omega⟩) (by omega) (by omega) (by omega) (z31) (by rw [z32]; omega) (by rw [c3, show n - 0 = n by omega]; exact hVV) ((by rw [c3, show b + 0 = b by omega]; exact wb)) rfl rfl rfl rfl rfl (hG3) (((FRM_w ((FRM.rf : FRM gRL [(0, 54, 0, 0), (0, 54, 1, 1), (0, 54, 31, 32), (0, 62, 0, 56), (0, 67, 0, 79), (0, 68, 0, 3), (1, 55, 0, 39)] h h)) (r := 54) rfl rfl).trans ((hF609).mono rfl)).trans ((hF3).mono rfl))
  · refine x_if_ne 19 17 hK rfl rfl rfl (by omega) (fun c => by omega) (fun _ => ?_)
    refine x_iconst 18 hK rfl rfl ?_
    exact x_iret hK rfl ⟨Or.inl ⟨by omega, rfl, mrow_k (by decide), gi_k (by decide) _⟩, GD_w1 (hG) (r := 54) rfl (by omega) rfl (by omega) (by omega), FRM_w ((FRM.rf : FRM gRL [(0, 54, 0, 0), (0, 54, 1, 1), (0, 54, 31, 32), (0, 62, 0, 56), (0, 67, 0, 79), (0, 68, 0, 3), (1, 55, 0, 39)] h h)) (r := 54) rfl rfl⟩
