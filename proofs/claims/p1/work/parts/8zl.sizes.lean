/-! HOW MANY NUMBERS THE ROW HAS -/
set_option maxRecDepth 4000 in
theorem ctX10_planW {SP : CT} (hSP : MONO SP) {sh : List (Nat × Nat)} {h : aH} (hG : GD gE gRL sh h) {s u : Nat} (hP : PT h) (hX : XI h) (hD : DR h s u) {L : List (Int × Int × Int)} {l : Int} (eo : kO h 23 (gi h 23 4).toNat = srt L) (hr : ∀ i : Nat, (i : Int) < gi h 23 4 → gi h 23 0 < gi h 24 i ∧ gi h 24 i ≤ gi h 23 0 + 12 ∧ -1 ≤ gi h 25 i ∧ gi h 25 i ≤ 1) (h0 : 0 ≤ gi h 23 0 ∧ gi h 23 0 ≤ 1000000) (hml : ∀ j : Nat, (j : Int) < gi h 19 0 → 0 ≤ gi h 20 j ∧ gi h 20 j ≤ 999) {n : Int} (rn : r32 n) : CLd SP 9 mX10_plan [.ref 0, .int (I n)] h 0 0 (fun rv h' => ((¬ (1 ≤ n ∧ n ≤ 30) ∧ rv = some (.int (I (-1))) ∧ crow h' = crow h) ∨ ((1 ≤ n ∧ n ≤ 30) ∧ 1000 ≤ fwN (XS 0 l (fun (t : Int) (g : Nat) => hitN (gi h 20) (gi h 21) ((gi h 23 0) + t) (g : Int) (gi h 19 0).toNat) L (gi h 23 0) (gi h 23 3) (dlA h) (gi h 23 1) n.toNat) 9 ∧ rv = some (.int (I (-2))) ∧ crow h' = crow h) ∨ ((1 ≤ n ∧ n ≤ 30) ∧ fwN (XS 0 l (fun (t : Int) (g : Nat) => hitN (gi h 20) (gi h 21) ((gi h 23 0) + t) (g : Int) (gi h 19 0).toNat) L (gi h 23 0) (gi h 23 3) (dlA h) (gi h 23 1) n.toNat) 9 < 1000 ∧ rv = some (.int (I (fwN (XS 0 l (fun (t : Int) (g : Nat) => hitN (gi h 20) (gi h 21) ((gi h 23 0) + t) (g : Int) (gi h 19 0).toNat) L (gi h 23 0) (gi h 23 3) (dlA h) (gi h 23 1) n.toNat) 9))) ∧ gi h' 3 1 = n)) ∧ GD gE gRL sh h' ∧ FRM gRL [(0, 3, 1, 1), (0, 8, 3, 3), (0, 10, 0, 39), (0, 41, 5, 5), (0, 42, 0, 29), (0, 43, 0, 30), (0, 45, 0, 29), (0, 46, 0, 8), (1, 4, 0, 29)] h h') := by
  refine x_met _ rfl (Nat.le_of_ble_eq_true rfl) (fun K hK => ?_)
  have hmono := MONO_CLd hSP 8
  obtain ⟨ff, eff⟩ : ∃ ff : Int, (if gi h 23 3 = gi h 23 0 then (1 : Int) else 0) = ff := ⟨_, rfl⟩
  have fr : ff = 0 ∨ ff = 1 := by
    rw [← eff]
    split <;> omega
  obtain ⟨w, hw⟩ : ∃ w : Int, fwN (XS 0 l (fun (t : Int) (g : Nat) => hitN (gi h 20) (gi h 21) ((gi h 23 0) + t) (g : Int) (gi h 19 0).toNat) L (gi h 23 0) (gi h 23 3) (dlA h) (gi h 23 1) n.toNat) 9 = w := ⟨_, rfl⟩
  have wb : 0 ≤ w ∧ w ≤ 1000 := by rw [← hw]; exact fwN_r (XS_r _) 9
  rw [hw] at hK
  have loop : ∀ (mz : Nat) (i : Int) (h10 : aH) (ls : List (Nat × Value)), ((n - i).toNat = mz) → (1 ≤ n ∧ n ≤ 30) → (w < 1000) → (0 ≤ i ∧ i ≤ n) → (gi h10 3 1 = i) → lk ls 0 = some (.ref 0) → lk ls 1 = some (.int (I n)) → lk ls 2 = some (.int (I w)) → lk ls 3 = some (.int (I i)) → GD gE gRL sh h10 → FRM gRL [(0, 3, 1, 1), (0, 8, 3, 3), (0, 10, 0, 39), (0, 41, 5, 5), (0, 42, 0, 29), (0, 43, 0, 30), (0, 45, 0, 29), (0, 46, 0, 8), (1, 4, 0, 29)] h h10 → K 74 ls [] h10 0 0 := by
    intro mz
    induction mz using Nat.strongRecOn with
    | ind mz ih =>
    intro i h10 ls hm n0 w0 i0 r1 l0 l1 l2 l3 hG10 hF10
    refine x_iload_n 75 hK rfl rfl l3 ?_
    refine x_iload_n 76 hK rfl rfl l1 ?_
    refine x_if_icmp_ge 102 79 hK rfl rfl rfl (by omega) (by omega) (fun c3 => ?_) (fun c3 => ?_)
    · refine x_iload_n 103 hK rfl rfl l2 ?_
      exact x_iret hK rfl ⟨Or.inr (Or.inr ⟨n0, w0, rfl, r1.trans (by omega)⟩), hG10, hF10⟩
    · refine x_aload_n 80 hK rfl rfl l0 ?_
      refine x_getR 83 hK rfl rfl (sp_0 (h := h10) hG10) (rf_0_1 (h := h10) hG10) ?_
      refine x_aload_n 84 hK rfl rfl l0 ?_
      refine x_getR 87 hK rfl rfl (sp_0 (h := h10) hG10) (rf_0_13 (h := h10) hG10) ?_
      refine x_getR 90 hK rfl rfl (sp_127 (h := h10) hG10) (rf_127_3 (h := h10) hG10) ?_
      refine x_iload_n 91 hK rfl rfl l3 ?_
      have g722 := gi_r h10 131 i.toNat
      refine x_ialoadE 92 hK rfl rfl (sp_131 (h := h10) hG10) (by omega) (by omega) (by omega) (e' := (gi h10 131 i.toNat)) (rfl) ?_
      refine x_i2l 93 hK rfl rfl (by omega) ?_
      have z724 : gi h10 3 1 = i := r1
      have z724r : crow h10 = (crow h10) := rfl
      refine x_callV 96 hK hmono rfl rfl [.ref 3, .long (J (gi h10 131 i.toNat))] [] rfl rfl (Nat.le_of_ble_eq_true rfl) (Nat.le_of_ble_eq_true rfl) rfl (sp_3 (h := h10) hG10) (CLd_le (Nat.le_of_ble_eq_true rfl) (ctX3_add hSP hG10 (by omega) (by omega))) ?_
      rintro v723 h723 ⟨rfl, hG723, hF723, t723, s723⟩
      rw [z724] at t723
      rw [z724r] at s723
      refine x_iinc 99 hK rfl rfl l3 _ rfl ?_
      refine x_goto 74 hK rfl rfl ?_
      exact ih _ (by omega) (i + 1) _ _ rfl (n0) (w0) (by omega) (t723) (lk1_n l0 (by decide) (Or.inl rfl)) (lk1_n l1 (by decide) (Or.inl rfl)) (lk1_n l2 (by decide) (Or.inl rfl)) lk1_s (hG723) ((hF10).trans ((hF723).mono rfl))
  refine x_iload_n 1 hK rfl rfl rfl ?_
  refine x_iconst 2 hK rfl rfl ?_
  refine x_if_icmp_lt 11 5 hK rfl rfl rfl (by omega) (by omega) (fun c3 => ?_) (fun c3 => ?_)
  · refine x_iconst 12 hK rfl rfl ?_
    exact x_iret hK rfl ⟨Or.inl ⟨by omega, rfl, rfl⟩, hG, FRM.rf⟩
  · refine x_iload_n 6 hK rfl rfl rfl ?_
    refine x_bipush 8 hK rfl rfl rfl ?_
    refine x_if_icmp_le 13 11 hK rfl rfl rfl (by omega) (by omega) (fun c8 => ?_) (fun c8 => ?_)
    · refine x_aload_n 14 hK rfl rfl rfl ?_
      refine x_callV 17 hK hmono rfl rfl [.ref 0] [] rfl rfl (Nat.le_of_ble_eq_true rfl) (Nat.le_of_ble_eq_true rfl) rfl (sp_0 (h := h) hG) (CLd_le (Nat.le_of_ble_eq_true rfl) (ctX10_lookAheadR hSP hG hP hX hD h0 hml)) ?_
      rintro v725 h725 ⟨rfl, hG725, hF725, dn725, rb725⟩
      have k3725 : gi h725 23 3 = gi h 23 3 := FRM_gi hF725 (r := 17) rfl rfl
      have k0725 : gi h725 23 0 = gi h 23 0 := FRM_gi hF725 (r := 17) rfl rfl
      have k1725 : gi h725 23 1 = gi h 23 1 := FRM_gi hF725 (r := 17) rfl rfl
      have k4725 : gi h725 23 4 = gi h 23 4 := FRM_gi hF725 (r := 17) rfl rfl
      have d2725 : ∀ j, gi h725 24 j = gi h 24 j := fun j => FRM_gi hF725 (r := 18) rfl rfl
      have d3725 : ∀ j, gi h725 25 j = gi h 25 j := fun j => FRM_gi hF725 (r := 19) rfl rfl
      refine x_aload_n 18 hK rfl rfl rfl ?_
      refine x_getR 21 hK rfl rfl (sp_0 (h := h725) hG725) (rf_0_13 (h := h725) hG725) ?_
      refine x_aload_n 22 hK rfl rfl rfl ?_
      refine x_callV 25 hK hmono rfl rfl [.ref 0] [.ref 127] rfl rfl (Nat.le_of_ble_eq_true rfl) (Nat.le_of_ble_eq_true rfl) rfl (sp_0 (h := h725) hG725) (CLd_le (Nat.le_of_ble_eq_true rfl) (ctX10_firstFree hSP hG725)) ?_
      rintro v9 h9 ⟨e9, rfl⟩
      rw [e9, show gi h725 23 3 = gi h 23 3 from FRM_gi hF725 (r := 17) rfl rfl, show gi h725 23 0 = gi h 23 0 from FRM_gi hF725 (r := 17) rfl rfl, eff]
      clear e9
      refine x_iload_n 26 hK rfl rfl rfl ?_
      refine x_callV 29 hK hmono rfl rfl [.ref 127, .int (I ff), .int (I n)] [] rfl rfl (Nat.le_of_ble_eq_true rfl) (Nat.le_of_ble_eq_true rfl) rfl (sp_127 (h := h725) hG725) (CLd_le (Nat.le_of_ble_eq_true rfl) (ctX0_freeOrdersF hSP hG725 (f := ff) (n := n) (by omega) (by omega))) ?_
      rintro v726 h726 ⟨rfl, hG726, hF726, cz726⟩
      refine x_aload_n 30 hK rfl rfl rfl ?_
      refine x_getR 33 hK rfl rfl (sp_0 (h := h726) hG726) (rf_0_13 (h := h726) hG726) ?_
      refine x_aload_n 34 hK rfl rfl rfl ?_
      refine x_getR 37 hK rfl rfl (sp_0 (h := h726) hG726) (rf_0_10 (h := h726) hG726) ?_
      refine x_iload_n 38 hK rfl rfl rfl ?_
      have eo727 : kO h726 23 (gi h726 23 4).toNat = srt L := by
        rw [show gi h726 23 4 = gi h 23 4 from (FRM_gi hF726 (r := 17) rfl rfl).trans (FRM_gi hF725 (r := 17) rfl rfl), kO_eq (h := h) (h' := h726) (c := 23) (c' := 23) (n := (gi h 23 4).toNat) (fun j hj => ⟨(FRM_gi hF726 (r := 18) rfl rfl).trans (FRM_gi hF725 (r := 18) rfl rfl), (FRM_gi hF726 (r := 19) rfl rfl).trans (FRM_gi hF725 (r := 19) rfl rfl)⟩)]
        exact eo
      have hr727 : ∀ q : Nat, (q : Int) < gi h726 23 4 → gi h 23 0 < gi h726 24 q ∧ gi h726 24 q ≤ gi h 23 0 + 12 ∧ -1 ≤ gi h726 25 q ∧ gi h726 25 q ≤ 1 := fun q hq => by
        rw [show gi h726 23 4 = gi h 23 4 from (FRM_gi hF726 (r := 17) rfl rfl).trans (FRM_gi hF725 (r := 17) rfl rfl)] at hq
        rw [show gi h726 24 q = gi h 24 q from (FRM_gi hF726 (r := 18) rfl rfl).trans (FRM_gi hF725 (r := 18) rfl rfl), show gi h726 25 q = gi h 25 q from (FRM_gi hF726 (r := 19) rfl rfl).trans (FRM_gi hF725 (r := 19) rfl rfl)]
        exact hr q hq
      have rk727 : ∀ t : Nat, 1 ≤ t → t ≤ 30 → RB (gi h726 129 t) ((fun (t : Int) (g : Nat) => hitN (gi h 20) (gi h 21) ((gi h 23 0) + t) (g : Int) (gi h 19 0).toNat) t) := fun t h1 h2 => by
        rw [show gi h726 129 t = gi h725 129 t from FRM_gi hF726 (r := 43) rfl rfl]
        exact rb725 t h1 h2
      have cy727 : ∀ j : Nat, (j : Int) < n → gi h726 131 j = if ff ≤ (j : Int) ∧ gi h726 128 j ≤ n then 2 else 0 := fun j hj => by
        rw [show gi h726 128 j = gi h725 128 j from FRM_gi hF726 (r := 42) rfl rfl]
        exact cz726 j hj
      refine x_callV 41 hK hmono rfl rfl [.ref 127, .ref 23, .int (I n)] [] rfl rfl (Nat.le_of_ble_eq_true rfl) (Nat.le_of_ble_eq_true rfl) rfl (sp_127 (h := h726) hG726) (CLd_le (Nat.le_of_ble_eq_true rfl) (ctX0_fewestOrdersF hSP hG726 (L := L) (now := gi h 23 0) (last := gi h 23 3) (l := l) (f := ff) (n := n) (dl := dlA h) (hit := (fun (t : Int) (g : Nat) => hitN (gi h 20) (gi h 21) ((gi h 23 0) + t) (g : Int) (gi h 19 0).toNat)) ((FRM_gi hF726 (r := 17) rfl rfl).trans (FRM_gi hF725 (r := 17) rfl rfl)) eo727 (fun s => dlA_b h s) h0 hr727 (fun j hj => (FRM_gi hF726 (r := 42) rfl rfl).trans (dn725 j hj)) eff.symm (by omega) rk727 cy727)) ?_
      rw [show gi h726 23 1 = gi h 23 1 from (FRM_gi hF726 (r := 17) rfl rfl).trans (FRM_gi hF725 (r := 17) rfl rfl), hw]
      rintro v727 h727 ⟨rfl, hG727, hF727⟩
      refine x_istore_n 42 hK rfl rfl [(2, .int (I w)), (0, .ref 0), (1, .int (I n))] rfl ?_
      refine x_iload_n 43 hK rfl rfl rfl ?_
      refine x_sipush 46 hK rfl rfl rfl ?_
      refine x_if_icmp_lt 52 49 hK rfl rfl rfl (by omega) (by omega) (fun c26 => ?_) (fun c26 => ?_)
      · refine x_aload_n 53 hK rfl rfl rfl ?_
        refine x_getR 56 hK rfl rfl (sp_0 (h := h727) hG727) (rf_0_13 (h := h727) hG727) ?_
        refine x_aload_n 57 hK rfl rfl rfl ?_
        refine x_getR 60 hK rfl rfl (sp_0 (h := h727) hG727) (rf_0_10 (h := h727) hG727) ?_
        refine x_iload_n 61 hK rfl rfl rfl ?_
        refine x_iload_n 62 hK rfl rfl rfl ?_
        refine x_callV 65 hK hmono rfl rfl [.ref 127, .ref 23, .int (I n), .int (I w)] [] rfl rfl (Nat.le_of_ble_eq_true rfl) (Nat.le_of_ble_eq_true rfl) rfl (sp_127 (h := h727) hG727) (CLd_le (Nat.le_of_ble_eq_true rfl) (kX0_chooseLeastRow_0 hSP [.ref 127, .ref 23, .int (I n), .int (I w)] _ (xOk_ok rfl _ h727 hF727 (xOk_ok rfl _ h726 hF726 (xOk_ok rfl _ h725 hF725 hX))) ⟨gv_r (by decide) rfl, gv_r (by decide) rfl, ⟨_, rfl, by show (1 : Int) ≤ (I n).toInt; rw [I_t (by omega)]; omega, by show (I n).toInt ≤ (30 : Int); rw [I_t (by omega)]; omega, trivial⟩, ⟨_, rfl, by show (-2147483648 : Int) ≤ (I w).toInt; rw [I_t (by omega)]; omega, by show (I w).toInt ≤ (999 : Int); rw [I_t (by omega)]; omega, trivial⟩, trivial⟩ hG727 gov_n)) ?_
        rintro v728 h728 ⟨hG728, hF728, o728, m728, q728, z728, -⟩
        obtain rfl := List.mem_singleton.mp m728
        obtain rfl := QS_v q728
        refine x_aload_n 66 hK rfl rfl rfl ?_
        refine x_getR 69 hK rfl rfl (sp_0 (h := h728) hG728) (rf_0_1 (h := h728) hG728) ?_
        refine x_callV 72 hK hmono rfl rfl [.ref 3] [] rfl rfl (Nat.le_of_ble_eq_true rfl) (Nat.le_of_ble_eq_true rfl) rfl (sp_3 (h := h728) hG728) (CLd_le (Nat.le_of_ble_eq_true rfl) (ctX3_clear hSP hG728)) ?_
        rintro v729 h729 ⟨rfl, hG729, hF729, t729, s729⟩
        refine x_iconst 73 hK rfl rfl ?_
        refine x_istore_n 74 hK rfl rfl [(3, .int (I 0)), (2, .int (I w)), (0, .ref 0), (1, .int (I n))] rfl ?_
        exact loop _ 0 _ _ rfl (⟨by omega, by omega⟩) (by omega) (by omega) (t729) rfl rfl rfl rfl (hG729) ((((((hF725).mono rfl).trans ((hF726).mono rfl)).trans ((hF727).mono rfl)).trans ((hF728).mono rfl)).trans ((hF729).mono rfl))
      · refine x_bipush 51 hK rfl rfl rfl ?_
        exact x_iret hK rfl ⟨Or.inr (Or.inl ⟨⟨by omega, by omega⟩, by omega, rfl, (crow_F hF727 rfl rfl).trans ((crow_F hF726 rfl rfl).trans (crow_F hF725 rfl rfl))⟩), hG727, (((hF725).mono rfl).trans ((hF726).mono rfl)).trans ((hF727).mono rfl)⟩
    · refine x_iconst 12 hK rfl rfl ?_
      exact x_iret hK rfl ⟨Or.inl ⟨by omega, rfl, rfl⟩, hG, FRM.rf⟩
theorem plR_len {h : aH} {n : Int} : ∀ (d : Nat) (left : Int) (vs : List Int), (plR h n d left vs).length = d + vs.length
  | 0, _, vs => (Nat.zero_add _).symm
  | d + 1, left, vs => by
    show (plR h n d (left - if plV h n left vs = 0 then 0 else 1) (vs ++ [plV h n left vs])).length = d + 1 + vs.length
    rw [plR_len d, List.length_append, List.length_singleton]
    omega
theorem crow_len (h : aH) : (crow h).length = (gi h 3 1).toNat := by
  unfold crow
  rw [List.length_map, List.length_range]
theorem mrow_len (h : aH) : (mrow h).length = (gi h 171 1).toNat := by
  unfold mrow
  rw [List.length_map, List.length_range]
theorem cRow_ext {f g : Int → Int} {last : Int} (h : ∀ k, 0 ≤ k → k ≤ last → f k = g k) (h0 : 0 ≤ last) : ∀ (d : Nat) (l : Int), (d : Int) ≤ last → cRow f last d l = cRow g last d l
  | 0, _, _ => rfl
  | d + 1, l, hd => by
    have e : nxV (cwF f last d) l = nxV (cwF g last d) l := nxV_ext fun q _ _ => cwF_ext h h0 d q (by omega)
    show nxV (cwF f last d) l :: cRow f last d (max 0 (min 8 (l + nxV (cwF f last d) l))) = nxV (cwF g last d) l :: cRow g last d (max 0 (min 8 (l + nxV (cwF g last d) l)))
    rw [e, cRow_ext h h0 d _ (by omega)]
theorem ord_row {sh : List (Nat × Nat)} {h : aH} (hG : GD gE gRL sh h) (hc : ∀ k : Nat, k ≤ 24 → gi h 134 k = snF (gi h 193) (gi h 194) k (gi h 171 42).toNat) (hn : 0 < gi h 171 42) : (if 0 < sMn (fun k => snF (gi h 193) (gi h 194) k (gi h 171 42).toNat) (lsF (gi h 193) (gi h 171 42).toNat) (lsF (gi h 193) (gi h 171 42).toNat).toNat 4 then sRow (fun k => snF (gi h 193) (gi h 194) k (gi h 171 42).toNat) (lsF (gi h 193) (gi h 171 42).toNat) (lsF (gi h 193) (gi h 171 42).toNat).toNat 4 else []) = if 0 < cwF (fun k : Int => gi h 134 k.toNat) (lcF (gi h 134) 24) (lcF (gi h 134) 24).toNat 4 then cRow (fun k : Int => gi h 134 k.toNat) (lcF (gi h 134) 24) (lcF (gi h 134) 24).toNat 4 else [] := by
  have gn := gri 0 12 hG (a := 171) (r := 54) (k := 42) rfl rfl
  have hs : ∀ i, i < (gi h 171 42).toNat → 0 ≤ gi h 193 i ∧ gi h 193 i ≤ 24 := fun i hi => grn 0 24 hG (a := 193) (r := 76) rfl rfl (by omega)
  have hl : ∀ i, i < (gi h 171 42).toNat → 0 ≤ gi h 194 i ∧ gi h 194 i ≤ 8 := fun i hi => grn 0 8 hG (a := 194) (r := 77) rfl rfl (by omega)
  have oe := ord_eq hG hc hn
  have lb := lcF_b (gi h 134) 24
  have el := ls_lc (by omega) hs (fun i hi => (hl i hi).1) hc
  rw [← el] at oe ⊢
  rw [row_mn (f := fun k => snF (gi h 193) (gi h 194) k (gi h 171 42).toNat) (fun k => (snF_b _ hl).1) _ _ (by omega), cRow_ext (f := fun k => snF (gi h 193) (gi h 194) k (gi h 171 42).toNat) (g := fun k : Int => gi h 134 k.toNat) (fun k k0 k1 => by
    show snF (gi h 193) (gi h 194) k (gi h 171 42).toNat = gi h 134 k.toNat
    rw [hc _ (by omega), show ((k.toNat : Nat) : Int) = k by omega]) lb.1 _ _ (by omega)]
  by_cases c : 0 < cwF (fun k : Int => gi h 134 k.toNat) (lcF (gi h 134) 24) (lcF (gi h 134) 24).toNat 4
  · rw [if_pos c, if_pos (by omega)]
  · rw [if_neg c, if_neg (by omega)]
/-- what count() tells -/
def ctF (L : List Int) (x : Int) : Int := if 0 ≤ x ∧ x < (L.length : Int) then L.getD x.toNat 0 else -100
set_option maxRecDepth 4000 in
theorem ctX10_voyageW {SP : CT} (hSP : MONO SP) {sh : List (Nat × Nat)} {h : aH} (hG : GD gE gRL sh h) {s u : Nat} (hP : PT h) (hX : XI h) (hD : DR h s u) {b : Int} {w : WS} (hS : STR (gi h 0 9) (kS h 23) w) (hw : WW b w) (hb : b ≤ 800000) {ml ln ea : Nat → Int} (hml : ∀ j : Nat, (j : Int) < gi h 19 0 → gi h 20 j = ml j ∧ gi h 21 j = ln j) (hea : ∀ m : Nat, (m : Int) < (gi h 0 9) → gi h 22 m = ea m ∧ 0 ≤ ea m ∧ ea m ≤ 9) : CLd SP 9 mX10_voyage [.ref 0] h 0 0 (fun rv h' => (((cfl (gi h 1 1) 60 (rdAs (txF (gi h 2) (min (gi h 1 1) 60)) (min (gi h 1 1) 60) 60 0).1) ≠ -1 ∧ rv = some (.int (I (-1 - (cfl (gi h 1 1) 60 (rdAs (txF (gi h 2) (min (gi h 1 1) 60)) (min (gi h 1 1) 60) 60 0).1)))) ∧ STR (gi h 0 9) (kS h' 23) w ∧ PL h' = PL h ∧ crow h' = crow h) ∨ ((cfl (gi h 1 1) 60 (rdAs (txF (gi h 2) (min (gi h 1 1) 60)) (min (gi h 1 1) 60) 60 0).1) = -1 ∧ rv = some (.int (I ((vyI (dlA h) (gi h 171 5) ml ln (gi h 19 0).toNat (gi h 0 9) ea (rdAs (txF (gi h 2) (min (gi h 1 1) 60)) (min (gi h 1 1) 60) 60 0).2 w).1 : Nat))) ∧ STR (gi h 0 9) (kS h' 23) (vyI (dlA h) (gi h 171 5) ml ln (gi h 19 0).toNat (gi h 0 9) ea (rdAs (txF (gi h 2) (min (gi h 1 1) 60)) (min (gi h 1 1) 60) 60 0).2 w).2.1 ∧ PL h' = (if 0 < (vyI (dlA h) (gi h 171 5) ml ln (gi h 19 0).toNat (gi h 0 9) ea (rdAs (txF (gi h 2) (min (gi h 1 1) 60)) (min (gi h 1 1) 60) 60 0).2 w).1 then pushC (PL h) (kS h 23) else PL h) ∧ gi h' 3 1 = 2 ∧ crow h' = [if (vyI (dlA h) (gi h 171 5) ml ln (gi h 19 0).toNat (gi h 0 9) ea (rdAs (txF (gi h 2) (min (gi h 1 1) 60)) (min (gi h 1 1) 60) 60 0).2 w).1 < (rdAs (txF (gi h 2) (min (gi h 1 1) 60)) (min (gi h 1 1) 60) 60 0).2.length then 1 else 0, (vyI (dlA h) (gi h 171 5) ml ln (gi h 19 0).toNat (gi h 0 9) ea (rdAs (txF (gi h 2) (min (gi h 1 1) 60)) (min (gi h 1 1) 60) 60 0).2 w).2.1.2.2.1 - w.2.2.1])) ∧ GD gE gRL sh h' ∧ FRM gRL [(0, 1, 1, 5), (0, 3, 1, 1), (0, 8, 3, 3), (0, 10, 0, 39), (0, 17, 0, 4), (0, 18, 0, 11), (0, 19, 0, 11), (0, 20, 0, 7), (0, 21, 0, 7), (0, 22, 0, 4), (0, 23, 0, 11), (0, 24, 0, 11), (0, 25, 0, 7), (0, 26, 0, 7), (0, 27, 1, 2), (0, 31, 0, 4), (0, 32, 0, 11), (0, 33, 0, 11), (0, 34, 0, 7), (0, 35, 0, 7), (1, 4, 0, 29)] h h' ∧ gi h' 1 1 = 0) := by
  refine x_met _ rfl (Nat.le_of_ble_eq_true rfl) (fun K hK => ?_)
  have hmono := MONO_CLd hSP 8
  have gn := gri 0 80 hG (a := 1) (r := 1) (k := 1) rfl rfl
  obtain ⟨n, hn⟩ : ∃ n, gi h 1 1 = n := ⟨_, rfl⟩
  rw [hn] at gn hK
  obtain ⟨T, hT⟩ : ∃ T, (txF (gi h 2) (min n 60)) = T := ⟨_, rfl⟩
  rw [hT] at hK
  have fe0 : ∀ a, min n 60 ≤ a → T a = -1 := fun a ha => by rw [← hT]; exact if_neg (by omega)
  obtain ⟨RR, hRR⟩ : ∃ RR, (rdAs T (min n 60) 60 0) = RR := ⟨_, rfl⟩
  rw [hRR] at hK
  have rp := rdAs_p fe0 60 0 (by omega)
  rw [hRR] at rp
  obtain ⟨VV, hVV⟩ : ∃ VV, (vyI (dlA h) (gi h 171 5) ml ln (gi h 19 0).toNat (gi h 0 9) ea RR.2 w) = VV := ⟨_, rfl⟩
  rw [hVV] at hK
  have g9 := gri 0 8 hG (a := 0) (r := 0) (k := 9) rfl rfl
  have g19 := gri 0 16 hG (a := 19) (r := 13) (k := 0) rfl rfl
  have k2 := (STR_to hG hS).2.2.1
  have wh := hw.2.2.1
  have loop : ∀ (mz : Nat) (c r i : Int) (h4 : aH) (ls : List (Nat × Value)), ((60 - i).toNat = mz) → (cfl n 60 RR.1 = -1) → (0 ≤ i ∧ i ≤ 60) → ((r = 0 ∨ r = 1) ∧ 0 ≤ c ∧ c ≤ 60) → (∃ (p : Int) (x : WS), STR (gi h 0 9) (kS h4 23) x ∧ WW (b + 9 * i) x ∧ (r = 0 → c = i ∧ gi h4 1 2 = p ∧ (i ≤ p ∧ p ≤ min n 60) ∧ (rdAs T (min n 60) (60 - i).toNat p).1 = (true, min n 60) ∧ (RR.2.length : Int) = i + ((rdAs T (min n 60) (60 - i).toNat p).2.length : Nat) ∧ (VV.1 : Int) = i + ((vyI (dlA h) (gi h 171 5) ml ln (gi h 19 0).toNat (gi h 0 9) ea (rdAs T (min n 60) (60 - i).toNat p).2 x).1 : Nat) ∧ VV.2.1 = (vyI (dlA h) (gi h 171 5) ml ln (gi h 19 0).toNat (gi h 0 9) ea (rdAs T (min n 60) (60 - i).toNat p).2 x).2.1) ∧ (r = 1 → (VV.1 : Int) = c ∧ VV.2.1 = x ∧ (VV.1 < RR.2.length))) → (kS h4 28 = kS h 23) → (gi h4 1 3 = min n 60) → (gi h4 1 4 = if 60 < n then 1 else 0) → lk ls 0 = some (.ref 0) → lk ls 2 = some (.int (I c)) → lk ls 3 = some (.int (I r)) → lk ls 4 = some (.int (I i)) → GD gE gRL sh h4 → FRM gRL [(0, 1, 2, 5), (0, 8, 3, 3), (0, 10, 0, 39), (0, 17, 0, 4), (0, 18, 0, 11), (0, 19, 0, 11), (0, 20, 0, 7), (0, 21, 0, 7), (0, 22, 0, 4), (0, 23, 0, 11), (0, 24, 0, 11), (0, 25, 0, 7), (0, 26, 0, 7)] h h4 → K 58 ls [] h4 0 0 := by
    intro mz
    induction mz using Nat.strongRecOn with
    | ind mz ih =>
    intro c r i h4 ls hm c9 i0 r0 hx s28 s3 s4 l0 l2 l3 l4 hG4 hF4
    obtain ⟨p, x, hs, wx, hr0, hr1⟩ := hx
    have sF : fx h4 = T := by rw [fx_tx, s3, ← hT, show gi h4 2 = gi h 2 from funext fun k => FRM_gi hF4 (r := 2) rfl rfl]
    have n94 : gi h4 0 9 = (gi h 0 9) := FRM_gi hF4 (r := 0) rfl rfl
    have n19 : gi h4 19 0 = gi h 19 0 := FRM_gi hF4 (r := 13) rfl rfl
    have n1 : gi h4 1 1 = n := (FRM_gi hF4 (r := 1) rfl rfl).trans hn
    have hD4 : DR h4 s u := DR_F hF4 rfl hD
    have dl4 : dlA h4 = dlA h := funext fun z => dlA_F hF4 rfl z
    have l54 : gi h4 171 5 = gi h 171 5 := FRM_gi hF4 (r := 54) rfl rfl
    refine x_iload 60 hK rfl rfl l4 ?_
    refine x_bipush 62 hK rfl rfl rfl ?_
    refine x_if_icmp_ge 110 65 hK rfl rfl rfl (by omega) (by omega) (fun c3 => ?_) (fun c3 => ?_)
    · have fx9 : (VV.1 : Int) = c ∧ VV.2.1 = x ∧ (r = 1 ↔ VV.1 < RR.2.length) := by
        rcases r0.1 with z | z
        · obtain ⟨q0, q1, q2, q3, q4, q5, q6⟩ := hr0 z
          have le : (rdAs T (min n 60) (60 - i).toNat p).2 = [] := by
            by_cases y : (60 - i).toNat = 0
            · rw [y]; rfl
            · obtain ⟨k, hk⟩ : ∃ k : Nat, (60 - i).toNat = k + 1 := ⟨(60 - i).toNat - 1, by omega⟩
              rw [hk, rdAs_s, if_pos (by omega)]
          rw [le] at q4 q5 q6
          have q5 : (VV.1 : Int) = i + ((0 : Nat) : Int) := q5
          have q4 : (RR.2.length : Int) = i + ((0 : Nat) : Int) := q4
          exact ⟨by omega, q6, by omega⟩
        · obtain ⟨q5, q6, q7⟩ := hr1 z
          exact ⟨q5, q6, fun _ => q7, fun _ => z⟩
      obtain ⟨f5, f6, f7⟩ := fx9
      have jx := STR_to hG4 hs
      have wx2 := wx.2.2.1
      have e28 : gi h4 28 2 = gi h 23 2 := congrArg (fun z : CWS => z.2.2.1) s28
      refine x_aload_n 111 hK rfl rfl l0 ?_
      refine x_getR 114 hK rfl rfl (sp_0 (h := h4) hG4) (rf_0_0 (h := h4) hG4) ?_
      refine x_iconst 115 hK rfl rfl ?_
      refine x_putI 118 hK rfl rfl (sp_1 (h := h4) hG4) ?_
      refine x_iload_n 119 hK rfl rfl l2 ?_
      refine x_if_le 133 122 hK rfl rfl rfl (by omega) (fun c10 => ?_) (fun c10 => ?_)
      · refine x_aload_n 134 hK rfl rfl l0 ?_
        refine x_getR 137 hK rfl rfl (sp_0 (h := h4) hG4) (rf_0_1 (h := h4) hG4) ?_
        refine x_iload_n 138 hK rfl rfl l3 ?_
        refine x_if_eq 145 141 hK rfl rfl rfl (by omega) (fun c14 => ?_) (fun c14 => ?_)
        · refine x_lconstE 146 0 hK rfl rfl rfl ?_
          refine x_aload_n 147 hK rfl rfl l0 ?_
          refine x_getR 150 hK rfl rfl (sp_0 (h := h4) hG4) (rf_0_10 (h := h4) hG4) ?_
          refine x_getE 153 hK rfl (Or.inl rfl) rfl (sp_23 (h := h4) hG4) (e := (x.2.2.1)) ((gi_a (by decide) _).trans (jx.2.2.1)) ?_
          refine x_aload_n 154 hK rfl rfl l0 ?_
          refine x_getR 157 hK rfl rfl (sp_0 (h := h4) hG4) (rf_0_11 (h := h4) hG4) ?_
          have g583 := gi_r h 23 2
          refine x_getE 160 hK rfl (Or.inl rfl) rfl (sp_28 (h := h4) hG4) (e := (gi h 23 2)) ((gi_a (by decide) _).trans (e28)) ?_
          refine x_isub 161 hK rfl rfl ?_
          refine x_i2l 162 hK rfl rfl (by omega) ?_
          have hGp584 : GD gE gRL sh (wI h4 1 1 0) := GD_w1 (hG4) (r := 1) rfl (by omega) rfl (by omega) (by omega)
          refine x_callV 165 hK hmono rfl rfl [.ref 3, .long (J 0), .long (J ((x.2.2.1) - (gi h 23 2)))] [] rfl rfl (Nat.le_of_ble_eq_true rfl) (Nat.le_of_ble_eq_true rfl) rfl (sp_3 (h := h4) hG4) (CLd_le (Nat.le_of_ble_eq_true rfl) (ctX3_tellTwo hSP hGp584 (by omega) (by omega))) ?_
          rintro v585 h585 ⟨rfl, hG585, hF585, t585, s585⟩
          refine x_iload_n 166 hK rfl rfl l2 ?_
          have eS : kS h585 23 = kS h4 23 := (kS23_F hF585 (by decide)).trans ((kS_ge fun a k h1 h2 => gi_a (by omega) _))
          have eP : PL h585 = (if 0 < VV.1 then pushC (PL h) (kS h 23) else PL h) := by rw [if_neg (by omega)]; exact (PL_F hF585 rfl).trans (((PL_eq (gi_a (by decide) _) (gi_a (by decide) _) fun z hz => kS_ge fun a k h1 h2 => gi_a (by omega) _)).trans (PL_F hF4 rfl))
          exact x_iret hK rfl ⟨Or.inr ⟨c9, by rw [show ((VV.1 : Nat) : Int) = c from f5], by rw [eS, f6]; exact hs, eP, t585, by rw [s585]; rw [f6, k2]; first | (exfalso; omega) | (rw [if_pos (by omega)]; done) | (rw [if_neg (by omega)]; done)⟩, hG585, (FRM_w ((hF4).mono rfl) (r := 1) rfl rfl).trans ((hF585).mono rfl), (FRM_gi hF585 (r := 1) rfl rfl).trans (gi_same (by omega))⟩
        · refine x_lconstE 142 1 hK rfl rfl rfl ?_
          refine x_goto 146 hK rfl rfl ?_
          refine x_aload_n 147 hK rfl rfl l0 ?_
          refine x_getR 150 hK rfl rfl (sp_0 (h := h4) hG4) (rf_0_10 (h := h4) hG4) ?_
          refine x_getE 153 hK rfl (Or.inl rfl) rfl (sp_23 (h := h4) hG4) (e := (x.2.2.1)) ((gi_a (by decide) _).trans (jx.2.2.1)) ?_
          refine x_aload_n 154 hK rfl rfl l0 ?_
          refine x_getR 157 hK rfl rfl (sp_0 (h := h4) hG4) (rf_0_11 (h := h4) hG4) ?_
          have g586 := gi_r h 23 2
          refine x_getE 160 hK rfl (Or.inl rfl) rfl (sp_28 (h := h4) hG4) (e := (gi h 23 2)) ((gi_a (by decide) _).trans (e28)) ?_
          refine x_isub 161 hK rfl rfl ?_
          refine x_i2l 162 hK rfl rfl (by omega) ?_
          have hGp587 : GD gE gRL sh (wI h4 1 1 0) := GD_w1 (hG4) (r := 1) rfl (by omega) rfl (by omega) (by omega)
          refine x_callV 165 hK hmono rfl rfl [.ref 3, .long (J 1), .long (J ((x.2.2.1) - (gi h 23 2)))] [] rfl rfl (Nat.le_of_ble_eq_true rfl) (Nat.le_of_ble_eq_true rfl) rfl (sp_3 (h := h4) hG4) (CLd_le (Nat.le_of_ble_eq_true rfl) (ctX3_tellTwo hSP hGp587 (by omega) (by omega))) ?_
          rintro v588 h588 ⟨rfl, hG588, hF588, t588, s588⟩
          refine x_iload_n 166 hK rfl rfl l2 ?_
          have eS : kS h588 23 = kS h4 23 := (kS23_F hF588 (by decide)).trans ((kS_ge fun a k h1 h2 => gi_a (by omega) _))
          have eP : PL h588 = (if 0 < VV.1 then pushC (PL h) (kS h 23) else PL h) := by rw [if_neg (by omega)]; exact (PL_F hF588 rfl).trans (((PL_eq (gi_a (by decide) _) (gi_a (by decide) _) fun z hz => kS_ge fun a k h1 h2 => gi_a (by omega) _)).trans (PL_F hF4 rfl))
          exact x_iret hK rfl ⟨Or.inr ⟨c9, by rw [show ((VV.1 : Nat) : Int) = c from f5], by rw [eS, f6]; exact hs, eP, t588, by rw [s588]; rw [f6, k2]; first | (exfalso; omega) | (rw [if_pos (by omega)]; done) | (rw [if_neg (by omega)]; done)⟩, hG588, (FRM_w ((hF4).mono rfl) (r := 1) rfl rfl).trans ((hF588).mono rfl), (FRM_gi hF588 (r := 1) rfl rfl).trans (gi_same (by omega))⟩
      · refine x_aload_n 123 hK rfl rfl l0 ?_
        refine x_getR 126 hK rfl rfl (sp_0 (h := h4) hG4) (rf_0_12 (h := h4) hG4) ?_
        refine x_aload_n 127 hK rfl rfl l0 ?_
        refine x_getR 130 hK rfl rfl (sp_0 (h := h4) hG4) (rf_0_11 (h := h4) hG4) ?_
        have hGp590 : GD gE gRL sh (wI h4 1 1 0) := GD_w1 (hG4) (r := 1) rfl (by omega) rfl (by omega) (by omega)
        have pl0 : PL (wI h4 1 1 0) = PL h := (PL_eq (gi_a (by decide) _) (gi_a (by decide) _) fun z hz => kS_ge fun a k h1 h2 => gi_a (by omega) _).trans (PL_F hF4 rfl)
        have s280 : kS (wI h4 1 1 0) 28 = kS h 23 := (kS_ge fun a k h1 h2 => gi_a (by omega) _).trans s28
        refine x_callV 133 hK hmono rfl rfl [.ref 33, .ref 28] [] rfl rfl (Nat.le_of_ble_eq_true rfl) (Nat.le_of_ble_eq_true rfl) rfl (sp_33 (h := h4) hG4) (CLd_le (Nat.le_of_ble_eq_true rfl) (ctX1_remember_28 hSP hGp590 (show PT h4 from (PT_F hF4 (by decide) hP)))) ?_
        rw [pl0, s280]
        rintro v589 h589 ⟨rfl, hG589, hF589, pl589⟩
        refine x_aload_n 134 hK rfl rfl l0 ?_
        refine x_getR 137 hK rfl rfl (sp_0 (h := h589) hG589) (rf_0_1 (h := h589) hG589) ?_
        refine x_iload_n 138 hK rfl rfl l3 ?_
        refine x_if_eq 145 141 hK rfl rfl rfl (by omega) (fun c48 => ?_) (fun c48 => ?_)
        · refine x_lconstE 146 0 hK rfl rfl rfl ?_
          refine x_aload_n 147 hK rfl rfl l0 ?_
          refine x_getR 150 hK rfl rfl (sp_0 (h := h589) hG589) (rf_0_10 (h := h589) hG589) ?_
          refine x_getE 153 hK rfl (Or.inl rfl) rfl (sp_23 (h := h589) hG589) (e := (x.2.2.1)) ((FRM_gi hF589 (r := 17) rfl rfl).trans ((gi_a (by decide) _).trans (jx.2.2.1))) ?_
          refine x_aload_n 154 hK rfl rfl l0 ?_
          refine x_getR 157 hK rfl rfl (sp_0 (h := h589) hG589) (rf_0_11 (h := h589) hG589) ?_
          have g591 := gi_r h 23 2
          refine x_getE 160 hK rfl (Or.inl rfl) rfl (sp_28 (h := h589) hG589) (e := (gi h 23 2)) ((FRM_gi hF589 (r := 22) rfl rfl).trans ((gi_a (by decide) _).trans (e28))) ?_
          refine x_isub 161 hK rfl rfl ?_
          refine x_i2l 162 hK rfl rfl (by omega) ?_
          refine x_callV 165 hK hmono rfl rfl [.ref 3, .long (J 0), .long (J ((x.2.2.1) - (gi h 23 2)))] [] rfl rfl (Nat.le_of_ble_eq_true rfl) (Nat.le_of_ble_eq_true rfl) rfl (sp_3 (h := h589) hG589) (CLd_le (Nat.le_of_ble_eq_true rfl) (ctX3_tellTwo hSP hG589 (by omega) (by omega))) ?_
          rintro v592 h592 ⟨rfl, hG592, hF592, t592, s592⟩
          refine x_iload_n 166 hK rfl rfl l2 ?_
          have eS : kS h592 23 = kS h4 23 := (kS23_F hF592 (by decide)).trans ((kS23_F hF589 (by decide)).trans ((kS_ge fun a k h1 h2 => gi_a (by omega) _)))
          have eP : PL h592 = (if 0 < VV.1 then pushC (PL h) (kS h 23) else PL h) := by rw [if_pos (by omega)]; exact (PL_F hF592 rfl).trans (pl589)
          exact x_iret hK rfl ⟨Or.inr ⟨c9, by rw [show ((VV.1 : Nat) : Int) = c from f5], by rw [eS, f6]; exact hs, eP, t592, by rw [s592]; rw [f6, k2]; first | (exfalso; omega) | (rw [if_pos (by omega)]; done) | (rw [if_neg (by omega)]; done)⟩, hG592, ((FRM_w ((hF4).mono rfl) (r := 1) rfl rfl).trans ((hF589).mono rfl)).trans ((hF592).mono rfl), (FRM_gi hF592 (r := 1) rfl rfl).trans ((FRM_gi hF589 (r := 1) rfl rfl).trans (gi_same (by omega)))⟩
        · refine x_lconstE 142 1 hK rfl rfl rfl ?_
          refine x_goto 146 hK rfl rfl ?_
          refine x_aload_n 147 hK rfl rfl l0 ?_
          refine x_getR 150 hK rfl rfl (sp_0 (h := h589) hG589) (rf_0_10 (h := h589) hG589) ?_
          refine x_getE 153 hK rfl (Or.inl rfl) rfl (sp_23 (h := h589) hG589) (e := (x.2.2.1)) ((FRM_gi hF589 (r := 17) rfl rfl).trans ((gi_a (by decide) _).trans (jx.2.2.1))) ?_
          refine x_aload_n 154 hK rfl rfl l0 ?_
          refine x_getR 157 hK rfl rfl (sp_0 (h := h589) hG589) (rf_0_11 (h := h589) hG589) ?_
          have g593 := gi_r h 23 2
          refine x_getE 160 hK rfl (Or.inl rfl) rfl (sp_28 (h := h589) hG589) (e := (gi h 23 2)) ((FRM_gi hF589 (r := 22) rfl rfl).trans ((gi_a (by decide) _).trans (e28))) ?_
          refine x_isub 161 hK rfl rfl ?_
          refine x_i2l 162 hK rfl rfl (by omega) ?_
          refine x_callV 165 hK hmono rfl rfl [.ref 3, .long (J 1), .long (J ((x.2.2.1) - (gi h 23 2)))] [] rfl rfl (Nat.le_of_ble_eq_true rfl) (Nat.le_of_ble_eq_true rfl) rfl (sp_3 (h := h589) hG589) (CLd_le (Nat.le_of_ble_eq_true rfl) (ctX3_tellTwo hSP hG589 (by omega) (by omega))) ?_
          rintro v594 h594 ⟨rfl, hG594, hF594, t594, s594⟩
          refine x_iload_n 166 hK rfl rfl l2 ?_
          have eS : kS h594 23 = kS h4 23 := (kS23_F hF594 (by decide)).trans ((kS23_F hF589 (by decide)).trans ((kS_ge fun a k h1 h2 => gi_a (by omega) _)))
          have eP : PL h594 = (if 0 < VV.1 then pushC (PL h) (kS h 23) else PL h) := by rw [if_pos (by omega)]; exact (PL_F hF594 rfl).trans (pl589)
          exact x_iret hK rfl ⟨Or.inr ⟨c9, by rw [show ((VV.1 : Nat) : Int) = c from f5], by rw [eS, f6]; exact hs, eP, t594, by rw [s594]; rw [f6, k2]; first | (exfalso; omega) | (rw [if_pos (by omega)]; done) | (rw [if_neg (by omega)]; done)⟩, hG594, ((FRM_w ((hF4).mono rfl) (r := 1) rfl rfl).trans ((hF589).mono rfl)).trans ((hF594).mono rfl), (FRM_gi hF594 (r := 1) rfl rfl).trans ((FRM_gi hF589 (r := 1) rfl rfl).trans (gi_same (by omega)))⟩
    · refine x_iload_n 66 hK rfl rfl l3 ?_
      refine x_if_ne 110 69 hK rfl rfl rfl (by omega) (fun c75 => ?_) (fun c75 => ?_)
      · have fx9 : (VV.1 : Int) = c ∧ VV.2.1 = x ∧ (r = 1 ↔ VV.1 < RR.2.length) := by
          rcases r0.1 with z | z
          · obtain ⟨q0, q1, q2, q3, q4, q5, q6⟩ := hr0 z
            have le : (rdAs T (min n 60) (60 - i).toNat p).2 = [] := by
              by_cases y : (60 - i).toNat = 0
              · rw [y]; rfl
              · obtain ⟨k, hk⟩ : ∃ k : Nat, (60 - i).toNat = k + 1 := ⟨(60 - i).toNat - 1, by omega⟩
                rw [hk, rdAs_s, if_pos (by omega)]
            rw [le] at q4 q5 q6
            have q5 : (VV.1 : Int) = i + ((0 : Nat) : Int) := q5
            have q4 : (RR.2.length : Int) = i + ((0 : Nat) : Int) := q4
            exact ⟨by omega, q6, by omega⟩
          · obtain ⟨q5, q6, q7⟩ := hr1 z
            exact ⟨q5, q6, fun _ => q7, fun _ => z⟩
        obtain ⟨f5, f6, f7⟩ := fx9
        have jx := STR_to hG4 hs
        have wx2 := wx.2.2.1
        have e28 : gi h4 28 2 = gi h 23 2 := congrArg (fun z : CWS => z.2.2.1) s28
        refine x_aload_n 111 hK rfl rfl l0 ?_
        refine x_getR 114 hK rfl rfl (sp_0 (h := h4) hG4) (rf_0_0 (h := h4) hG4) ?_
        refine x_iconst 115 hK rfl rfl ?_
        refine x_putI 118 hK rfl rfl (sp_1 (h := h4) hG4) ?_
        refine x_iload_n 119 hK rfl rfl l2 ?_
        refine x_if_le 133 122 hK rfl rfl rfl (by omega) (fun c82 => ?_) (fun c82 => ?_)
        · refine x_aload_n 134 hK rfl rfl l0 ?_
          refine x_getR 137 hK rfl rfl (sp_0 (h := h4) hG4) (rf_0_1 (h := h4) hG4) ?_
          refine x_iload_n 138 hK rfl rfl l3 ?_
          refine x_if_eq 145 141 hK rfl rfl rfl (by omega) (fun c => by omega) (fun _ => ?_)
          refine x_lconstE 142 1 hK rfl rfl rfl ?_
          refine x_goto 146 hK rfl rfl ?_
          refine x_aload_n 147 hK rfl rfl l0 ?_
          refine x_getR 150 hK rfl rfl (sp_0 (h := h4) hG4) (rf_0_10 (h := h4) hG4) ?_
          refine x_getE 153 hK rfl (Or.inl rfl) rfl (sp_23 (h := h4) hG4) (e := (x.2.2.1)) ((gi_a (by decide) _).trans (jx.2.2.1)) ?_
          refine x_aload_n 154 hK rfl rfl l0 ?_
          refine x_getR 157 hK rfl rfl (sp_0 (h := h4) hG4) (rf_0_11 (h := h4) hG4) ?_
          have g595 := gi_r h 23 2
          refine x_getE 160 hK rfl (Or.inl rfl) rfl (sp_28 (h := h4) hG4) (e := (gi h 23 2)) ((gi_a (by decide) _).trans (e28)) ?_
          refine x_isub 161 hK rfl rfl ?_
          refine x_i2l 162 hK rfl rfl (by omega) ?_
          have hGp596 : GD gE gRL sh (wI h4 1 1 0) := GD_w1 (hG4) (r := 1) rfl (by omega) rfl (by omega) (by omega)
          refine x_callV 165 hK hmono rfl rfl [.ref 3, .long (J 1), .long (J ((x.2.2.1) - (gi h 23 2)))] [] rfl rfl (Nat.le_of_ble_eq_true rfl) (Nat.le_of_ble_eq_true rfl) rfl (sp_3 (h := h4) hG4) (CLd_le (Nat.le_of_ble_eq_true rfl) (ctX3_tellTwo hSP hGp596 (by omega) (by omega))) ?_
          rintro v597 h597 ⟨rfl, hG597, hF597, t597, s597⟩
          refine x_iload_n 166 hK rfl rfl l2 ?_
          have eS : kS h597 23 = kS h4 23 := (kS23_F hF597 (by decide)).trans ((kS_ge fun a k h1 h2 => gi_a (by omega) _))
          have eP : PL h597 = (if 0 < VV.1 then pushC (PL h) (kS h 23) else PL h) := by rw [if_neg (by omega)]; exact (PL_F hF597 rfl).trans (((PL_eq (gi_a (by decide) _) (gi_a (by decide) _) fun z hz => kS_ge fun a k h1 h2 => gi_a (by omega) _)).trans (PL_F hF4 rfl))
          exact x_iret hK rfl ⟨Or.inr ⟨c9, by rw [show ((VV.1 : Nat) : Int) = c from f5], by rw [eS, f6]; exact hs, eP, t597, by rw [s597]; rw [f6, k2]; first | (exfalso; omega) | (rw [if_pos (by omega)]; done) | (rw [if_neg (by omega)]; done)⟩, hG597, (FRM_w ((hF4).mono rfl) (r := 1) rfl rfl).trans ((hF597).mono rfl), (FRM_gi hF597 (r := 1) rfl rfl).trans (gi_same (by omega))⟩
        · refine x_aload_n 123 hK rfl rfl l0 ?_
          refine x_getR 126 hK rfl rfl (sp_0 (h := h4) hG4) (rf_0_12 (h := h4) hG4) ?_
          refine x_aload_n 127 hK rfl rfl l0 ?_
          refine x_getR 130 hK rfl rfl (sp_0 (h := h4) hG4) (rf_0_11 (h := h4) hG4) ?_
          have hGp599 : GD gE gRL sh (wI h4 1 1 0) := GD_w1 (hG4) (r := 1) rfl (by omega) rfl (by omega) (by omega)
          have pl0 : PL (wI h4 1 1 0) = PL h := (PL_eq (gi_a (by decide) _) (gi_a (by decide) _) fun z hz => kS_ge fun a k h1 h2 => gi_a (by omega) _).trans (PL_F hF4 rfl)
          have s280 : kS (wI h4 1 1 0) 28 = kS h 23 := (kS_ge fun a k h1 h2 => gi_a (by omega) _).trans s28
          refine x_callV 133 hK hmono rfl rfl [.ref 33, .ref 28] [] rfl rfl (Nat.le_of_ble_eq_true rfl) (Nat.le_of_ble_eq_true rfl) rfl (sp_33 (h := h4) hG4) (CLd_le (Nat.le_of_ble_eq_true rfl) (ctX1_remember_28 hSP hGp599 (show PT h4 from (PT_F hF4 (by decide) hP)))) ?_
          rw [pl0, s280]
          rintro v598 h598 ⟨rfl, hG598, hF598, pl598⟩
          refine x_aload_n 134 hK rfl rfl l0 ?_
          refine x_getR 137 hK rfl rfl (sp_0 (h := h598) hG598) (rf_0_1 (h := h598) hG598) ?_
          refine x_iload_n 138 hK rfl rfl l3 ?_
          refine x_if_eq 145 141 hK rfl rfl rfl (by omega) (fun c => by omega) (fun _ => ?_)
          refine x_lconstE 142 1 hK rfl rfl rfl ?_
          refine x_goto 146 hK rfl rfl ?_
          refine x_aload_n 147 hK rfl rfl l0 ?_
          refine x_getR 150 hK rfl rfl (sp_0 (h := h598) hG598) (rf_0_10 (h := h598) hG598) ?_
          refine x_getE 153 hK rfl (Or.inl rfl) rfl (sp_23 (h := h598) hG598) (e := (x.2.2.1)) ((FRM_gi hF598 (r := 17) rfl rfl).trans ((gi_a (by decide) _).trans (jx.2.2.1))) ?_
          refine x_aload_n 154 hK rfl rfl l0 ?_
          refine x_getR 157 hK rfl rfl (sp_0 (h := h598) hG598) (rf_0_11 (h := h598) hG598) ?_
          have g600 := gi_r h 23 2
          refine x_getE 160 hK rfl (Or.inl rfl) rfl (sp_28 (h := h598) hG598) (e := (gi h 23 2)) ((FRM_gi hF598 (r := 22) rfl rfl).trans ((gi_a (by decide) _).trans (e28))) ?_
          refine x_isub 161 hK rfl rfl ?_
          refine x_i2l 162 hK rfl rfl (by omega) ?_
          refine x_callV 165 hK hmono rfl rfl [.ref 3, .long (J 1), .long (J ((x.2.2.1) - (gi h 23 2)))] [] rfl rfl (Nat.le_of_ble_eq_true rfl) (Nat.le_of_ble_eq_true rfl) rfl (sp_3 (h := h598) hG598) (CLd_le (Nat.le_of_ble_eq_true rfl) (ctX3_tellTwo hSP hG598 (by omega) (by omega))) ?_
          rintro v601 h601 ⟨rfl, hG601, hF601, t601, s601⟩
          refine x_iload_n 166 hK rfl rfl l2 ?_
          have eS : kS h601 23 = kS h4 23 := (kS23_F hF601 (by decide)).trans ((kS23_F hF598 (by decide)).trans ((kS_ge fun a k h1 h2 => gi_a (by omega) _)))
          have eP : PL h601 = (if 0 < VV.1 then pushC (PL h) (kS h 23) else PL h) := by rw [if_pos (by omega)]; exact (PL_F hF601 rfl).trans (pl598)
          exact x_iret hK rfl ⟨Or.inr ⟨c9, by rw [show ((VV.1 : Nat) : Int) = c from f5], by rw [eS, f6]; exact hs, eP, t601, by rw [s601]; rw [f6, k2]; first | (exfalso; omega) | (rw [if_pos (by omega)]; done) | (rw [if_neg (by omega)]; done)⟩, hG601, ((FRM_w ((hF4).mono rfl) (r := 1) rfl rfl).trans ((hF598).mono rfl)).trans ((hF601).mono rfl), (FRM_gi hF601 (r := 1) rfl rfl).trans ((FRM_gi hF598 (r := 1) rfl rfl).trans (gi_same (by omega)))⟩
      · refine x_aload_n 70 hK rfl rfl l0 ?_
        refine x_getR 73 hK rfl rfl (sp_0 (h := h4) hG4) (rf_0_0 (h := h4) hG4) ?_
        obtain ⟨q0, q1, q2, q3, q4, q5, q6⟩ := hr0 (by omega)
        refine x_callV 76 hK hmono rfl rfl [.ref 1] [] rfl rfl (Nat.le_of_ble_eq_true rfl) (Nat.le_of_ble_eq_true rfl) rfl (sp_1 (h := h4) hG4) (CLd_le (Nat.le_of_ble_eq_true rfl) (ctX9_ended hSP hG4)) ?_
        rw [q1, s3]
        rintro v9 h9 ⟨e9, ⟨rfl, en⟩ | ⟨rfl, en⟩⟩ <;> rw [e9] <;> clear e9
        · refine x_if_ne 110 79 hK rfl rfl rfl (by omega) (fun _ => ?_) (fun c => by omega)
          have fx9 : (VV.1 : Int) = c ∧ VV.2.1 = x ∧ (r = 1 ↔ VV.1 < RR.2.length) := by
            rcases r0.1 with z | z
            · obtain ⟨q0, q1, q2, q3, q4, q5, q6⟩ := hr0 z
              have le : (rdAs T (min n 60) (60 - i).toNat p).2 = [] := by
                by_cases y : (60 - i).toNat = 0
                · rw [y]; rfl
                · obtain ⟨k, hk⟩ : ∃ k : Nat, (60 - i).toNat = k + 1 := ⟨(60 - i).toNat - 1, by omega⟩
                  rw [hk, rdAs_s, if_pos (by omega)]
              rw [le] at q4 q5 q6
              have q5 : (VV.1 : Int) = i + ((0 : Nat) : Int) := q5
              have q4 : (RR.2.length : Int) = i + ((0 : Nat) : Int) := q4
              exact ⟨by omega, q6, by omega⟩
            · obtain ⟨q5, q6, q7⟩ := hr1 z
              exact ⟨q5, q6, fun _ => q7, fun _ => z⟩
          obtain ⟨f5, f6, f7⟩ := fx9
          have jx := STR_to hG4 hs
          have wx2 := wx.2.2.1
          have e28 : gi h4 28 2 = gi h 23 2 := congrArg (fun z : CWS => z.2.2.1) s28
          refine x_aload_n 111 hK rfl rfl l0 ?_
          refine x_getR 114 hK rfl rfl (sp_0 (h := h4) hG4) (rf_0_0 (h := h4) hG4) ?_
          refine x_iconst 115 hK rfl rfl ?_
          refine x_putI 118 hK rfl rfl (sp_1 (h := h4) hG4) ?_
          refine x_iload_n 119 hK rfl rfl l2 ?_
          refine x_if_le 133 122 hK rfl rfl rfl (by omega) (fun c132 => ?_) (fun c132 => ?_)
          · refine x_aload_n 134 hK rfl rfl l0 ?_
            refine x_getR 137 hK rfl rfl (sp_0 (h := h4) hG4) (rf_0_1 (h := h4) hG4) ?_
            refine x_iload_n 138 hK rfl rfl l3 ?_
            refine x_if_eq 145 141 hK rfl rfl rfl (by omega) (fun _ => ?_) (fun c => by omega)
            refine x_lconstE 146 0 hK rfl rfl rfl ?_
            refine x_aload_n 147 hK rfl rfl l0 ?_
            refine x_getR 150 hK rfl rfl (sp_0 (h := h4) hG4) (rf_0_10 (h := h4) hG4) ?_
            refine x_getE 153 hK rfl (Or.inl rfl) rfl (sp_23 (h := h4) hG4) (e := (x.2.2.1)) ((gi_a (by decide) _).trans (jx.2.2.1)) ?_
            refine x_aload_n 154 hK rfl rfl l0 ?_
            refine x_getR 157 hK rfl rfl (sp_0 (h := h4) hG4) (rf_0_11 (h := h4) hG4) ?_
            have g602 := gi_r h 23 2
            refine x_getE 160 hK rfl (Or.inl rfl) rfl (sp_28 (h := h4) hG4) (e := (gi h 23 2)) ((gi_a (by decide) _).trans (e28)) ?_
            refine x_isub 161 hK rfl rfl ?_
            refine x_i2l 162 hK rfl rfl (by omega) ?_
            have hGp603 : GD gE gRL sh (wI h4 1 1 0) := GD_w1 (hG4) (r := 1) rfl (by omega) rfl (by omega) (by omega)
            refine x_callV 165 hK hmono rfl rfl [.ref 3, .long (J 0), .long (J ((x.2.2.1) - (gi h 23 2)))] [] rfl rfl (Nat.le_of_ble_eq_true rfl) (Nat.le_of_ble_eq_true rfl) rfl (sp_3 (h := h4) hG4) (CLd_le (Nat.le_of_ble_eq_true rfl) (ctX3_tellTwo hSP hGp603 (by omega) (by omega))) ?_
            rintro v604 h604 ⟨rfl, hG604, hF604, t604, s604⟩
            refine x_iload_n 166 hK rfl rfl l2 ?_
            have eS : kS h604 23 = kS h4 23 := (kS23_F hF604 (by decide)).trans ((kS_ge fun a k h1 h2 => gi_a (by omega) _))
            have eP : PL h604 = (if 0 < VV.1 then pushC (PL h) (kS h 23) else PL h) := by rw [if_neg (by omega)]; exact (PL_F hF604 rfl).trans (((PL_eq (gi_a (by decide) _) (gi_a (by decide) _) fun z hz => kS_ge fun a k h1 h2 => gi_a (by omega) _)).trans (PL_F hF4 rfl))
            exact x_iret hK rfl ⟨Or.inr ⟨c9, by rw [show ((VV.1 : Nat) : Int) = c from f5], by rw [eS, f6]; exact hs, eP, t604, by rw [s604]; rw [f6, k2]; first | (exfalso; omega) | (rw [if_pos (by omega)]; done) | (rw [if_neg (by omega)]; done)⟩, hG604, (FRM_w ((hF4).mono rfl) (r := 1) rfl rfl).trans ((hF604).mono rfl), (FRM_gi hF604 (r := 1) rfl rfl).trans (gi_same (by omega))⟩
          · refine x_aload_n 123 hK rfl rfl l0 ?_
            refine x_getR 126 hK rfl rfl (sp_0 (h := h4) hG4) (rf_0_12 (h := h4) hG4) ?_
            refine x_aload_n 127 hK rfl rfl l0 ?_
            refine x_getR 130 hK rfl rfl (sp_0 (h := h4) hG4) (rf_0_11 (h := h4) hG4) ?_
            have hGp606 : GD gE gRL sh (wI h4 1 1 0) := GD_w1 (hG4) (r := 1) rfl (by omega) rfl (by omega) (by omega)
            have pl0 : PL (wI h4 1 1 0) = PL h := (PL_eq (gi_a (by decide) _) (gi_a (by decide) _) fun z hz => kS_ge fun a k h1 h2 => gi_a (by omega) _).trans (PL_F hF4 rfl)
            have s280 : kS (wI h4 1 1 0) 28 = kS h 23 := (kS_ge fun a k h1 h2 => gi_a (by omega) _).trans s28
            refine x_callV 133 hK hmono rfl rfl [.ref 33, .ref 28] [] rfl rfl (Nat.le_of_ble_eq_true rfl) (Nat.le_of_ble_eq_true rfl) rfl (sp_33 (h := h4) hG4) (CLd_le (Nat.le_of_ble_eq_true rfl) (ctX1_remember_28 hSP hGp606 (show PT h4 from (PT_F hF4 (by decide) hP)))) ?_
            rw [pl0, s280]
            rintro v605 h605 ⟨rfl, hG605, hF605, pl605⟩
            refine x_aload_n 134 hK rfl rfl l0 ?_
            refine x_getR 137 hK rfl rfl (sp_0 (h := h605) hG605) (rf_0_1 (h := h605) hG605) ?_
            refine x_iload_n 138 hK rfl rfl l3 ?_
            refine x_if_eq 145 141 hK rfl rfl rfl (by omega) (fun _ => ?_) (fun c => by omega)
            refine x_lconstE 146 0 hK rfl rfl rfl ?_
            refine x_aload_n 147 hK rfl rfl l0 ?_
            refine x_getR 150 hK rfl rfl (sp_0 (h := h605) hG605) (rf_0_10 (h := h605) hG605) ?_
            refine x_getE 153 hK rfl (Or.inl rfl) rfl (sp_23 (h := h605) hG605) (e := (x.2.2.1)) ((FRM_gi hF605 (r := 17) rfl rfl).trans ((gi_a (by decide) _).trans (jx.2.2.1))) ?_
            refine x_aload_n 154 hK rfl rfl l0 ?_
            refine x_getR 157 hK rfl rfl (sp_0 (h := h605) hG605) (rf_0_11 (h := h605) hG605) ?_
            have g607 := gi_r h 23 2
            refine x_getE 160 hK rfl (Or.inl rfl) rfl (sp_28 (h := h605) hG605) (e := (gi h 23 2)) ((FRM_gi hF605 (r := 22) rfl rfl).trans ((gi_a (by decide) _).trans (e28))) ?_
            refine x_isub 161 hK rfl rfl ?_
            refine x_i2l 162 hK rfl rfl (by omega) ?_
            refine x_callV 165 hK hmono rfl rfl [.ref 3, .long (J 0), .long (J ((x.2.2.1) - (gi h 23 2)))] [] rfl rfl (Nat.le_of_ble_eq_true rfl) (Nat.le_of_ble_eq_true rfl) rfl (sp_3 (h := h605) hG605) (CLd_le (Nat.le_of_ble_eq_true rfl) (ctX3_tellTwo hSP hG605 (by omega) (by omega))) ?_
            rintro v608 h608 ⟨rfl, hG608, hF608, t608, s608⟩
            refine x_iload_n 166 hK rfl rfl l2 ?_
            have eS : kS h608 23 = kS h4 23 := (kS23_F hF608 (by decide)).trans ((kS23_F hF605 (by decide)).trans ((kS_ge fun a k h1 h2 => gi_a (by omega) _)))
            have eP : PL h608 = (if 0 < VV.1 then pushC (PL h) (kS h 23) else PL h) := by rw [if_pos (by omega)]; exact (PL_F hF608 rfl).trans (pl605)
            exact x_iret hK rfl ⟨Or.inr ⟨c9, by rw [show ((VV.1 : Nat) : Int) = c from f5], by rw [eS, f6]; exact hs, eP, t608, by rw [s608]; rw [f6, k2]; first | (exfalso; omega) | (rw [if_pos (by omega)]; done) | (rw [if_neg (by omega)]; done)⟩, hG608, ((FRM_w ((hF4).mono rfl) (r := 1) rfl rfl).trans ((hF605).mono rfl)).trans ((hF608).mono rfl), (FRM_gi hF608 (r := 1) rfl rfl).trans ((FRM_gi hF605 (r := 1) rfl rfl).trans (gi_same (by omega)))⟩
        · refine x_if_ne 110 79 hK rfl rfl rfl (by omega) (fun c => by omega) (fun _ => ?_)
          refine x_aload_n 80 hK rfl rfl l0 ?_
          obtain ⟨k, hk⟩ : ∃ k : Nat, (60 - i).toNat = k + 1 := ⟨(60 - i).toNat - 1, by omega⟩
          have hk1 : (60 - (i + 1)).toNat = k := by omega
          rw [hk, rdAs_s, if_neg (show ¬ min n 60 ≤ p by omega)] at q3 q4 q5 q6
          have ok : (rdAct T p).1.1 = true := by
            by_cases z : (rdAct T p).1.1 = true
            · exact z
            · rw [if_neg z] at q3
              exact Bool.noConfusion (congrArg Prod.fst q3)
          rw [if_pos ok] at q3 q4 q5 q6
          have ap := rdAct_p (f := T) fe0 (show p < min n 60 by omega)
          refine x_callV 83 hK hmono rfl rfl [.ref 0] [] rfl rfl (Nat.le_of_ble_eq_true rfl) (Nat.le_of_ble_eq_true rfl) rfl (sp_0 (h := h4) hG4) (CLd_le (Nat.le_of_ble_eq_true rfl) (ctX10_doVoyageSignF hSP hG4 (show PT h4 from PT_F hF4 (by decide) hP) (show XI h4 from (xOk_ok rfl _ h4 hF4 hX)) hD4 (b := b + 9 * i) (w := x) (ml := ml) (ln := ln) (ea := ea) (by rw [n94]; exact hs) wx (by omega) (fun j hj => by rw [n19] at hj; rw [FRM_gi hF4 (a := 20) (r := 14) rfl rfl, FRM_gi hF4 (a := 21) (r := 15) rfl rfl]; exact hml j hj) (fun m hm => by rw [n94] at hm; rw [FRM_gi hF4 (a := 22) (r := 16) rfl rfl]; exact hea m hm) (n := n) (p := p) q1 s3 s4 gn (by omega) (by rw [sF]; exact ok))) ?_
          rw [sF, n94, n19, dl4, l54]
          rintro v609 h609 ⟨⟨dr, rfl, hS609, p609⟩ | ⟨dr, rfl, hS609⟩, hG609, hF609⟩
          · refine x_if_ne 90 86 hK rfl rfl rfl (by omega) (fun _ => ?_) (fun c => by omega)
            refine x_iconst 91 hK rfl rfl ?_
            refine x_istore_n 92 hK rfl rfl _ rfl ?_
            refine x_iload_n 93 hK rfl rfl (lk1_n l2 (by decide) (Or.inl rfl)) ?_
            refine x_iload_n 94 hK rfl rfl lk1_s ?_
            refine x_if_eq 101 97 hK rfl rfl rfl (by omega) (fun _ => ?_) (fun c => by omega)
            refine x_iconst 102 hK rfl rfl ?_
            refine x_iadd 103 hK rfl rfl ?_
            refine x_istore_n 104 hK rfl rfl _ rfl ?_
            refine x_iinc 107 hK rfl rfl (lk1_n (lk1_n l4 (by decide) (Or.inl rfl)) (by decide) (Or.inl rfl)) _ rfl ?_
            refine x_goto 58 hK rfl rfl ?_
            have vs : (vyI (dlA h) (gi h 171 5) ml ln (gi h 19 0).toNat (gi h 0 9) ea ((rdAct T p).2 :: (rdAs T (min n 60) k (rdAct T p).1.2).2) x) = ((vyI (dlA h) (gi h 171 5) ml ln (gi h 19 0).toNat (gi h 0 9) ea (rdAs T (min n 60) k (rdAct T p).1.2).2 (doW (dlA h) (gi h 171 5) ml ln (gi h 19 0).toNat (gi h 0 9) ea (rdAct T p).2 x)).1 + 1, (vyI (dlA h) (gi h 171 5) ml ln (gi h 19 0).toNat (gi h 0 9) ea (rdAs T (min n 60) k (rdAct T p).1.2).2 (doW (dlA h) (gi h 171 5) ml ln (gi h 19 0).toNat (gi h 0 9) ea (rdAct T p).2 x)).2.1, doH ml ln (gi h 19 0).toNat (gi h 0 9) ea (rdAct T p).2 x + (vyI (dlA h) (gi h 171 5) ml ln (gi h 19 0).toNat (gi h 0 9) ea (rdAs T (min n 60) k (rdAct T p).1.2).2 (doW (dlA h) (gi h 171 5) ml ln (gi h 19 0).toNat (gi h 0 9) ea (rdAct T p).2 x)).2.2) := if_pos dr
            have q3 : (rdAs T (min n 60) k (rdAct T p).1.2).1 = (true, min n 60) := q3
            have q4 : (RR.2.length : Int) = i + (((rdAs T (min n 60) k (rdAct T p).1.2).2.length + 1 : Nat) : Int) := q4
            rw [vs] at q5 q6
            have q5 : (VV.1 : Int) = i + (((vyI (dlA h) (gi h 171 5) ml ln (gi h 19 0).toNat (gi h 0 9) ea (rdAs T (min n 60) k (rdAct T p).1.2).2 (doW (dlA h) (gi h 171 5) ml ln (gi h 19 0).toNat (gi h 0 9) ea (rdAct T p).2 x)).1 + 1 : Nat) : Int) := q5
            have q6 : VV.2.1 = (vyI (dlA h) (gi h 171 5) ml ln (gi h 19 0).toNat (gi h 0 9) ea (rdAs T (min n 60) k (rdAct T p).1.2).2 (doW (dlA h) (gi h 171 5) ml ln (gi h 19 0).toNat (gi h 0 9) ea (rdAct T p).2 x)).2.1 := q6
            have wd := WW_do (dl := dlA h) (l := gi h 171 5) (ml := ml) (ln := ln) (ea := ea) (nr := (gi h 19 0).toNat) (ms := (gi h 0 9)) (q := (rdAct T p).2) (by omega) g9.2 (fun m hm => (hea m hm).2) (ap.2.2.2 ok) act_k dr wx
            exact ih _ (by omega) (c + 1) 0 (i + 1) _ _ rfl (c9) (by omega) (⟨by omega, by omega⟩) (⟨(rdAct T p).1.2, (doW (dlA h) (gi h 171 5) ml ln (gi h 19 0).toNat (gi h 0 9) ea (rdAct T p).2 x), hS609, wd.mono (by omega), fun _ => ⟨by omega, p609, ⟨by have := ap.2.2.1 ok; omega, ap.2.1⟩, by rw [hk1]; exact q3, by rw [hk1]; omega, by rw [hk1]; omega, by rw [hk1]; exact q6⟩, fun z => absurd z (by omega)⟩) ((kS28_F hF609 (by decide)).trans s28) (((FRM_gi hF609 (r := 1) rfl rfl).trans (s3))) (((FRM_gi hF609 (r := 1) rfl rfl).trans (s4))) (lk1_n (lk1_n (lk1_n l0 (by decide) (Or.inl rfl)) (by decide) (Or.inl rfl)) (by decide) (Or.inl rfl)) (lk1_n lk1_s (by decide) (Or.inl rfl)) (lk1_n (lk1_n lk1_s (by decide) (Or.inl rfl)) (by decide) (Or.inl rfl)) lk1_s (hG609) ((hF4).trans ((hF609).mono rfl))
          · refine x_if_ne 90 86 hK rfl rfl rfl (by omega) (fun c => by omega) (fun _ => ?_)
            refine x_iconst 87 hK rfl rfl ?_
            refine x_goto 91 hK rfl rfl ?_
            refine x_istore_n 92 hK rfl rfl _ rfl ?_
            refine x_iload_n 93 hK rfl rfl (lk1_n l2 (by decide) (Or.inl rfl)) ?_
            refine x_iload_n 94 hK rfl rfl lk1_s ?_
            refine x_if_eq 101 97 hK rfl rfl rfl (by omega) (fun c => by omega) (fun _ => ?_)
            refine x_iconst 98 hK rfl rfl ?_
            refine x_goto 102 hK rfl rfl ?_
            refine x_iadd 103 hK rfl rfl ?_
            refine x_istore_n 104 hK rfl rfl _ rfl ?_
            refine x_iinc 107 hK rfl rfl (lk1_n (lk1_n l4 (by decide) (Or.inl rfl)) (by decide) (Or.inl rfl)) _ rfl ?_
            refine x_goto 58 hK rfl rfl ?_
            have vs : (vyI (dlA h) (gi h 171 5) ml ln (gi h 19 0).toNat (gi h 0 9) ea ((rdAct T p).2 :: (rdAs T (min n 60) k (rdAct T p).1.2).2) x) = (0, x, 0) := if_neg (by rw [dr]; decide)
            have q4 : (RR.2.length : Int) = i + (((rdAs T (min n 60) k (rdAct T p).1.2).2.length + 1 : Nat) : Int) := q4
            rw [vs] at q5 q6
            have q5 : (VV.1 : Int) = i + ((0 : Nat) : Int) := q5
            have q6 : VV.2.1 = x := q6
            exact ih _ (by omega) (c + 0) 1 (i + 1) _ _ rfl (c9) (by omega) (⟨by omega, by omega⟩) (⟨p, x, hS609, wx.mono (by omega), fun z => absurd z (by omega), fun _ => ⟨by omega, q6, by omega⟩⟩) ((kS28_F hF609 (by decide)).trans s28) (((FRM_gi hF609 (r := 1) rfl rfl).trans (s3))) (((FRM_gi hF609 (r := 1) rfl rfl).trans (s4))) (lk1_n (lk1_n (lk1_n l0 (by decide) (Or.inl rfl)) (by decide) (Or.inl rfl)) (by decide) (Or.inl rfl)) (lk1_n lk1_s (by decide) (Or.inl rfl)) (lk1_n (lk1_n lk1_s (by decide) (Or.inl rfl)) (by decide) (Or.inl rfl)) lk1_s (hG609) ((hF4).trans ((hF609).mono rfl))
  refine x_aload_n 1 hK rfl rfl rfl ?_
  refine x_getR 4 hK rfl rfl (sp_0 (h := h) hG) (rf_0_0 (h := h) hG) ?_
  refine x_bipush 6 hK rfl rfl rfl ?_
  have on610 : gi h 1 1 = n := (rfl).trans hn
  refine x_callV 9 hK hmono rfl rfl [.ref 1, .int (I 60)] [] rfl rfl (Nat.le_of_ble_eq_true rfl) (Nat.le_of_ble_eq_true rfl) rfl (sp_1 (h := h) hG) (CLd_le (Nat.le_of_ble_eq_true rfl) (ctX9_open hSP hG (n := 60) (by omega))) ?_
  rw [on610]
  rintro v610 h610 ⟨rfl, hG610, hF610, y2610, y3610, y4610, y5610⟩
  refine x_aload_n 10 hK rfl rfl rfl ?_
  have sF : fx h610 = T := by rw [fx_tx, y3610, ← hT, show gi h610 2 = gi h 2 from funext fun k => FRM_gi hF610 (r := 2) rfl rfl]
  refine x_callV 13 hK hmono rfl rfl [.ref 0] [] rfl rfl (Nat.le_of_ble_eq_true rfl) (Nat.le_of_ble_eq_true rfl) rfl (sp_0 (h := h610) hG610) (CLd_le (Nat.le_of_ble_eq_true rfl) (ctX10_voyageFaultF hSP hG610 (n := n) y2610 y3610 y4610 gn)) ?_
  rw [sF, hRR]
  rintro v611 h611 ⟨rfl, hG611, hF611⟩
  have cb : -1 ≤ cfl n 60 RR.1 ∧ cfl n 60 RR.1 ≤ 60 := by unfold cfl; (repeat' split) <;> omega
  refine x_istore_n 14 hK rfl rfl [(1, .int (I (cfl n 60 RR.1))), (0, .ref 0)] rfl ?_
  refine x_iload_n 15 hK rfl rfl rfl ?_
  refine x_iconst 16 hK rfl rfl ?_
  refine x_if_icmp_eq 31 19 hK rfl rfl rfl (by omega) (by omega) (fun c10 => ?_) (fun c10 => ?_)
  · refine x_aload_n 32 hK rfl rfl rfl ?_
    refine x_getR 35 hK rfl rfl (sp_0 (h := h611) hG611) (rf_0_11 (h := h611) hG611) ?_
    refine x_aload_n 36 hK rfl rfl rfl ?_
    refine x_getR 39 hK rfl rfl (sp_0 (h := h611) hG611) (rf_0_10 (h := h611) hG611) ?_
    have hFc : FRM gRL [(0, 1, 2, 5)] h h611 := ((hF610).mono rfl).trans ((hF611).mono rfl)
    have e23 : kS h611 23 = kS h 23 := kS23_F hFc (by decide)
    refine x_callV 42 hK hmono rfl rfl [.ref 28, .ref 23] [] rfl rfl (Nat.le_of_ble_eq_true rfl) (Nat.le_of_ble_eq_true rfl) rfl (sp_28 (h := h611) hG611) (CLd_le (Nat.le_of_ble_eq_true rfl) (ctX8_copyFrom_28_23 hSP hG611 (show PT h611 from (PT_F hF611 (by decide) (PT_F hF610 (by decide) hP))))) ?_
    rw [e23]
    rintro v612 h612 ⟨rfl, hG612, hF612, eS612, ot612⟩
    refine x_aload_n 43 hK rfl rfl rfl ?_
    refine x_getR 46 hK rfl rfl (sp_0 (h := h612) hG612) (rf_0_0 (h := h612) hG612) ?_
    refine x_bipush 48 hK rfl rfl rfl ?_
    have on613 : gi h612 1 1 = n := ((FRM_gi hF612 (r := 1) rfl rfl).trans ((FRM_gi hF611 (r := 1) rfl rfl).trans (FRM_gi hF610 (r := 1) rfl rfl))).trans hn
    refine x_callV 51 hK hmono rfl rfl [.ref 1, .int (I 60)] [] rfl rfl (Nat.le_of_ble_eq_true rfl) (Nat.le_of_ble_eq_true rfl) rfl (sp_1 (h := h612) hG612) (CLd_le (Nat.le_of_ble_eq_true rfl) (ctX9_open hSP hG612 (n := 60) (by omega))) ?_
    rw [on613]
    rintro v613 h613 ⟨rfl, hG613, hF613, y2613, y3613, y4613, y5613⟩
    refine x_iconst 52 hK rfl rfl ?_
    refine x_istore_n 53 hK rfl rfl [(2, .int (I 0)), (1, .int (I (cfl n 60 RR.1))), (0, .ref 0)] rfl ?_
    refine x_iconst 54 hK rfl rfl ?_
    refine x_istore_n 55 hK rfl rfl [(3, .int (I 0)), (2, .int (I 0)), (1, .int (I (cfl n 60 RR.1))), (0, .ref 0)] rfl ?_
    refine x_iconst 56 hK rfl rfl ?_
    refine x_istore 58 hK rfl rfl [(4, .int (I 0)), (3, .int (I 0)), (2, .int (I 0)), (1, .int (I (cfl n 60 RR.1))), (0, .ref 0)] rfl ?_
    have c9 : cfl n 60 RR.1 = -1 := by omega
    have cr : RR.1 = (true, min n 60) := by
      unfold cfl at c9
      by_cases z : RR.1.1 = true ∧ RR.1.2 = min n 60
      · exact Prod.ext z.1 z.2
      · rw [if_neg z] at c9; omega
    have hFe : FRM gRL [(0, 1, 2, 5), (0, 22, 0, 4), (0, 23, 0, 11), (0, 24, 0, 11), (0, 25, 0, 7), (0, 26, 0, 7)] h h613 := ((((hF610).mono rfl).trans ((hF611).mono rfl)).trans ((hF612).mono rfl)).trans ((hF613).mono rfl)
    have eE : kS h613 23 = kS h 23 := kS23_F hFe (by decide)
    exact loop _ 0 0 0 _ _ rfl (c9) (by omega) (⟨by omega, by omega⟩) (⟨0, w, by rw [eE]; exact hS, hw.mono (by omega), fun _ => ⟨rfl, y2613, ⟨by omega, by omega⟩, by rw [← cr, ← hRR]; rfl, by rw [← hRR]; exact (Int.zero_add _).symm, by rw [← hVV, ← hRR]; exact (Int.zero_add _).symm, by rw [← hVV, ← hRR]; rfl⟩, fun z => absurd z (by omega)⟩) ((kS28_F hF613 (by decide)).trans eS612) (y3613) (y4613) rfl rfl rfl rfl (hG613) (((((hF610).mono rfl).trans ((hF611).mono rfl)).trans ((hF612).mono rfl)).trans ((hF613).mono rfl))
  · refine x_aload_n 20 hK rfl rfl rfl ?_
    refine x_getR 23 hK rfl rfl (sp_0 (h := h611) hG611) (rf_0_0 (h := h611) hG611) ?_
    refine x_iconst 24 hK rfl rfl ?_
    refine x_putI 27 hK rfl rfl (sp_1 (h := h611) hG611) ?_
    refine x_iconst 28 hK rfl rfl ?_
    refine x_iload_n 29 hK rfl rfl rfl ?_
    refine x_isub 30 hK rfl rfl ?_
    have hFe : FRM gRL [(0, 1, 1, 5)] h (wI h611 1 1 0) := FRM_w (((hF610).mono rfl).trans ((hF611).mono rfl)) (r := 1) rfl rfl
    exact x_iret hK rfl ⟨Or.inl ⟨by omega, rfl, by rw [kS23_F hFe (by decide)]; exact hS, PL_F hFe rfl, crow_F hFe rfl rfl⟩, GD_w1 (hG611) (r := 1) rfl (by omega) rfl (by omega) (by omega), FRM_w (((hF610).mono rfl).trans ((hF611).mono rfl)) (r := 1) rfl rfl, gi_same (by omega)⟩
set_option maxRecDepth 4000 in
theorem ctX10_countF {SP : CT} (hSP : MONO SP) {sh : List (Nat × Nat)} {h : aH} (hG : GD gE gRL sh h) {s u : Nat} (hP : PT h) (hX : XI h) (hD : DR h s u) {x : Int} (rx : r32 x) : CLd SP 2 mX10_count [.ref 0, .int (I x)] h 0 0 (fun rv h' => h' = h ∧ rv = some (.int (I (ctF [(gi h 171 3), (gi h 171 4), (gi h 171 5), (gi h 19 0), (gi h 0 9), (gi h 23 0), (gi h 23 1), (gi h 23 2), (gi h 23 4), (gi h 133 0), (gi h 33 2), (gi h 3 1), (gi h 1 1)] x)))) := by
  refine x_met _ rfl (Nat.le_of_ble_eq_true rfl) (fun K hK => ?_)
  have hmono := MONO_CLd hSP 1
  have hD2 := hD
  obtain ⟨h5, hu, pS, pL, ⟨c0, c1, c2⟩, r0, r1, r2⟩ := hD2
  refine x_iload_n 1 hK rfl rfl rfl ?_
  refine x_tsw hK rfl (by omega) (l := [67, 75, 83, 91, 99, 104, 112, 120, 128, 136, 144, 152, 160]) rfl ?_
  by_cases e1_0 : x = 0
  · rw [show swI 168 0 [67, 75, 83, 91, 99, 104, 112, 120, 128, 136, 144, 152, 160] x = 67 from by rw [e1_0]; rfl]
    show K 68 _ _ _ _ _
    refine x_aload_n 69 hK rfl rfl rfl ?_
    refine x_getR 72 hK rfl rfl (sp_0 (h := h) hG) (pS) ?_
    have g730 := gri (2) (40) hG (a := 171) (r := 54) (k := 3) rfl rfl
    refine x_getE 75 hK rfl (Or.inl rfl) rfl (shx (h := h) hG (r := 5) (ss_r h5).1 rfl) (e := (gi h 171 3)) (c0) ?_
    have ev : ctF [(gi h 171 3), (gi h 171 4), (gi h 171 5), (gi h 19 0), (gi h 0 9), (gi h 23 0), (gi h 23 1), (gi h 23 2), (gi h 23 4), (gi h 133 0), (gi h 33 2), (gi h 3 1), (gi h 1 1)] x = (gi h 171 3) := by rw [show x = 0 by omega]; rfl
    exact x_iret hK rfl ⟨rfl, by rw [ev]⟩
  by_cases e1_1 : x = 1
  · rw [show swI 168 0 [67, 75, 83, 91, 99, 104, 112, 120, 128, 136, 144, 152, 160] x = 75 from by rw [e1_1]; rfl]
    show K 76 _ _ _ _ _
    refine x_aload_n 77 hK rfl rfl rfl ?_
    refine x_getR 80 hK rfl rfl (sp_0 (h := h) hG) (pS) ?_
    have g731 := gri (0) (10) hG (a := 171) (r := 54) (k := 4) rfl rfl
    refine x_getE 83 hK rfl (Or.inl rfl) rfl (shx (h := h) hG (r := 5) (ss_r h5).1 rfl) (e := (gi h 171 4)) (c1) ?_
    have ev : ctF [(gi h 171 3), (gi h 171 4), (gi h 171 5), (gi h 19 0), (gi h 0 9), (gi h 23 0), (gi h 23 1), (gi h 23 2), (gi h 23 4), (gi h 133 0), (gi h 33 2), (gi h 3 1), (gi h 1 1)] x = (gi h 171 4) := by rw [show x = 1 by omega]; rfl
    exact x_iret hK rfl ⟨rfl, by rw [ev]⟩
  by_cases e1_2 : x = 2
  · rw [show swI 168 0 [67, 75, 83, 91, 99, 104, 112, 120, 128, 136, 144, 152, 160] x = 83 from by rw [e1_2]; rfl]
    show K 84 _ _ _ _ _
    refine x_aload_n 85 hK rfl rfl rfl ?_
    refine x_getR 88 hK rfl rfl (sp_0 (h := h) hG) (pS) ?_
    have g732 := gi_r h 171 5
    refine x_getE 91 hK rfl (Or.inl rfl) rfl (shx (h := h) hG (r := 5) (ss_r h5).1 rfl) (e := (gi h 171 5)) (c2) ?_
    have ev : ctF [(gi h 171 3), (gi h 171 4), (gi h 171 5), (gi h 19 0), (gi h 0 9), (gi h 23 0), (gi h 23 1), (gi h 23 2), (gi h 23 4), (gi h 133 0), (gi h 33 2), (gi h 3 1), (gi h 1 1)] x = (gi h 171 5) := by rw [show x = 2 by omega]; rfl
    exact x_iret hK rfl ⟨rfl, by rw [ev]⟩
  by_cases e1_3 : x = 3
  · rw [show swI 168 0 [67, 75, 83, 91, 99, 104, 112, 120, 128, 136, 144, 152, 160] x = 91 from by rw [e1_3]; rfl]
    show K 92 _ _ _ _ _
    refine x_aload_n 93 hK rfl rfl rfl ?_
    refine x_getR 96 hK rfl rfl (sp_0 (h := h) hG) (rf_0_7 (h := h) hG) ?_
    have g733 := gri (0) (16) hG (a := 19) (r := 13) (k := 0) rfl rfl
    refine x_getE 99 hK rfl (Or.inl rfl) rfl (sp_19 (h := h) hG) (e := (gi h 19 0)) (rfl) ?_
    have ev : ctF [(gi h 171 3), (gi h 171 4), (gi h 171 5), (gi h 19 0), (gi h 0 9), (gi h 23 0), (gi h 23 1), (gi h 23 2), (gi h 23 4), (gi h 133 0), (gi h 33 2), (gi h 3 1), (gi h 1 1)] x = (gi h 19 0) := by rw [show x = 3 by omega]; rfl
    exact x_iret hK rfl ⟨rfl, by rw [ev]⟩
  by_cases e1_4 : x = 4
  · rw [show swI 168 0 [67, 75, 83, 91, 99, 104, 112, 120, 128, 136, 144, 152, 160] x = 99 from by rw [e1_4]; rfl]
    show K 100 _ _ _ _ _
    refine x_aload_n 101 hK rfl rfl rfl ?_
    have g734 := gri (0) (8) hG (a := 0) (r := 0) (k := 9) rfl rfl
    refine x_getE 104 hK rfl (Or.inl rfl) rfl (sp_0 (h := h) hG) (e := (gi h 0 9)) (rfl) ?_
    have ev : ctF [(gi h 171 3), (gi h 171 4), (gi h 171 5), (gi h 19 0), (gi h 0 9), (gi h 23 0), (gi h 23 1), (gi h 23 2), (gi h 23 4), (gi h 133 0), (gi h 33 2), (gi h 3 1), (gi h 1 1)] x = (gi h 0 9) := by rw [show x = 4 by omega]; rfl
    exact x_iret hK rfl ⟨rfl, by rw [ev]⟩
  by_cases e1_5 : x = 5
  · rw [show swI 168 0 [67, 75, 83, 91, 99, 104, 112, 120, 128, 136, 144, 152, 160] x = 104 from by rw [e1_5]; rfl]
    show K 105 _ _ _ _ _
    refine x_aload_n 106 hK rfl rfl rfl ?_
    refine x_getR 109 hK rfl rfl (sp_0 (h := h) hG) (rf_0_10 (h := h) hG) ?_
    have g735 := gi_r h 23 0
    refine x_getE 112 hK rfl (Or.inl rfl) rfl (sp_23 (h := h) hG) (e := (gi h 23 0)) (rfl) ?_
    have ev : ctF [(gi h 171 3), (gi h 171 4), (gi h 171 5), (gi h 19 0), (gi h 0 9), (gi h 23 0), (gi h 23 1), (gi h 23 2), (gi h 23 4), (gi h 133 0), (gi h 33 2), (gi h 3 1), (gi h 1 1)] x = (gi h 23 0) := by rw [show x = 5 by omega]; rfl
    exact x_iret hK rfl ⟨rfl, by rw [ev]⟩
  by_cases e1_6 : x = 6
  · rw [show swI 168 0 [67, 75, 83, 91, 99, 104, 112, 120, 128, 136, 144, 152, 160] x = 112 from by rw [e1_6]; rfl]
    show K 113 _ _ _ _ _
    refine x_aload_n 114 hK rfl rfl rfl ?_
    refine x_getR 117 hK rfl rfl (sp_0 (h := h) hG) (rf_0_10 (h := h) hG) ?_
    have g736 := gri (0) (8) hG (a := 23) (r := 17) (k := 1) rfl rfl
    refine x_getE 120 hK rfl (Or.inl rfl) rfl (sp_23 (h := h) hG) (e := (gi h 23 1)) (rfl) ?_
    have ev : ctF [(gi h 171 3), (gi h 171 4), (gi h 171 5), (gi h 19 0), (gi h 0 9), (gi h 23 0), (gi h 23 1), (gi h 23 2), (gi h 23 4), (gi h 133 0), (gi h 33 2), (gi h 3 1), (gi h 1 1)] x = (gi h 23 1) := by rw [show x = 6 by omega]; rfl
    exact x_iret hK rfl ⟨rfl, by rw [ev]⟩
  by_cases e1_7 : x = 7
  · rw [show swI 168 0 [67, 75, 83, 91, 99, 104, 112, 120, 128, 136, 144, 152, 160] x = 120 from by rw [e1_7]; rfl]
    show K 121 _ _ _ _ _
    refine x_aload_n 122 hK rfl rfl rfl ?_
    refine x_getR 125 hK rfl rfl (sp_0 (h := h) hG) (rf_0_10 (h := h) hG) ?_
    have g737 := gi_r h 23 2
    refine x_getE 128 hK rfl (Or.inl rfl) rfl (sp_23 (h := h) hG) (e := (gi h 23 2)) (rfl) ?_
    have ev : ctF [(gi h 171 3), (gi h 171 4), (gi h 171 5), (gi h 19 0), (gi h 0 9), (gi h 23 0), (gi h 23 1), (gi h 23 2), (gi h 23 4), (gi h 133 0), (gi h 33 2), (gi h 3 1), (gi h 1 1)] x = (gi h 23 2) := by rw [show x = 7 by omega]; rfl
    exact x_iret hK rfl ⟨rfl, by rw [ev]⟩
  by_cases e1_8 : x = 8
  · rw [show swI 168 0 [67, 75, 83, 91, 99, 104, 112, 120, 128, 136, 144, 152, 160] x = 128 from by rw [e1_8]; rfl]
    show K 129 _ _ _ _ _
    refine x_aload_n 130 hK rfl rfl rfl ?_
    refine x_getR 133 hK rfl rfl (sp_0 (h := h) hG) (rf_0_10 (h := h) hG) ?_
    have g738 := gri (0) (12) hG (a := 23) (r := 17) (k := 4) rfl rfl
    refine x_getE 136 hK rfl (Or.inl rfl) rfl (sp_23 (h := h) hG) (e := (gi h 23 4)) (rfl) ?_
    have ev : ctF [(gi h 171 3), (gi h 171 4), (gi h 171 5), (gi h 19 0), (gi h 0 9), (gi h 23 0), (gi h 23 1), (gi h 23 2), (gi h 23 4), (gi h 133 0), (gi h 33 2), (gi h 3 1), (gi h 1 1)] x = (gi h 23 4) := by rw [show x = 8 by omega]; rfl
    exact x_iret hK rfl ⟨rfl, by rw [ev]⟩
  by_cases e1_9 : x = 9
  · rw [show swI 168 0 [67, 75, 83, 91, 99, 104, 112, 120, 128, 136, 144, 152, 160] x = 136 from by rw [e1_9]; rfl]
    show K 137 _ _ _ _ _
    refine x_aload_n 138 hK rfl rfl rfl ?_
    refine x_getR 141 hK rfl rfl (sp_0 (h := h) hG) (rf_0_14 (h := h) hG) ?_
    have g739 := gri (0) (12) hG (a := 133) (r := 47) (k := 0) rfl rfl
    refine x_getE 144 hK rfl (Or.inl rfl) rfl (sp_133 (h := h) hG) (e := (gi h 133 0)) (rfl) ?_
    have ev : ctF [(gi h 171 3), (gi h 171 4), (gi h 171 5), (gi h 19 0), (gi h 0 9), (gi h 23 0), (gi h 23 1), (gi h 23 2), (gi h 23 4), (gi h 133 0), (gi h 33 2), (gi h 3 1), (gi h 1 1)] x = (gi h 133 0) := by rw [show x = 9 by omega]; rfl
    exact x_iret hK rfl ⟨rfl, by rw [ev]⟩
  by_cases e1_10 : x = 10
  · rw [show swI 168 0 [67, 75, 83, 91, 99, 104, 112, 120, 128, 136, 144, 152, 160] x = 144 from by rw [e1_10]; rfl]
    show K 145 _ _ _ _ _
    refine x_aload_n 146 hK rfl rfl rfl ?_
    refine x_getR 149 hK rfl rfl (sp_0 (h := h) hG) (rf_0_12 (h := h) hG) ?_
    have g740 := gri (0) (15) hG (a := 33) (r := 27) (k := 2) rfl rfl
    refine x_getE 152 hK rfl (Or.inl rfl) rfl (sp_33 (h := h) hG) (e := (gi h 33 2)) (rfl) ?_
    have ev : ctF [(gi h 171 3), (gi h 171 4), (gi h 171 5), (gi h 19 0), (gi h 0 9), (gi h 23 0), (gi h 23 1), (gi h 23 2), (gi h 23 4), (gi h 133 0), (gi h 33 2), (gi h 3 1), (gi h 1 1)] x = (gi h 33 2) := by rw [show x = 10 by omega]; rfl
    exact x_iret hK rfl ⟨rfl, by rw [ev]⟩
  by_cases e1_11 : x = 11
  · rw [show swI 168 0 [67, 75, 83, 91, 99, 104, 112, 120, 128, 136, 144, 152, 160] x = 152 from by rw [e1_11]; rfl]
    show K 153 _ _ _ _ _
    refine x_aload_n 154 hK rfl rfl rfl ?_
    refine x_getR 157 hK rfl rfl (sp_0 (h := h) hG) (rf_0_1 (h := h) hG) ?_
    have g741 := gri (0) (30) hG (a := 3) (r := 3) (k := 1) rfl rfl
    refine x_getE 160 hK rfl (Or.inl rfl) rfl (sp_3 (h := h) hG) (e := (gi h 3 1)) (rfl) ?_
    have ev : ctF [(gi h 171 3), (gi h 171 4), (gi h 171 5), (gi h 19 0), (gi h 0 9), (gi h 23 0), (gi h 23 1), (gi h 23 2), (gi h 23 4), (gi h 133 0), (gi h 33 2), (gi h 3 1), (gi h 1 1)] x = (gi h 3 1) := by rw [show x = 11 by omega]; rfl
    exact x_iret hK rfl ⟨rfl, by rw [ev]⟩
  by_cases e1_12 : x = 12
  · rw [show swI 168 0 [67, 75, 83, 91, 99, 104, 112, 120, 128, 136, 144, 152, 160] x = 160 from by rw [e1_12]; rfl]
    show K 161 _ _ _ _ _
    refine x_aload_n 162 hK rfl rfl rfl ?_
    refine x_getR 165 hK rfl rfl (sp_0 (h := h) hG) (rf_0_0 (h := h) hG) ?_
    have g742 := gri (0) (80) hG (a := 1) (r := 1) (k := 1) rfl rfl
    refine x_getE 168 hK rfl (Or.inl rfl) rfl (sp_1 (h := h) hG) (e := (gi h 1 1)) (rfl) ?_
    have ev : ctF [(gi h 171 3), (gi h 171 4), (gi h 171 5), (gi h 19 0), (gi h 0 9), (gi h 23 0), (gi h 23 1), (gi h 23 2), (gi h 23 4), (gi h 133 0), (gi h 33 2), (gi h 3 1), (gi h 1 1)] x = (gi h 1 1) := by rw [show x = 12 by omega]; rfl
    exact x_iret hK rfl ⟨rfl, by rw [ev]⟩
  rw [show swI 168 0 [67, 75, 83, 91, 99, 104, 112, 120, 128, 136, 144, 152, 160] x = 168 from swI_d (by show _ ∨ (0 : Int) + (13 : Nat) ≤ _; omega)]
  show K 169 _ _ _ _ _
  refine x_bipush 171 hK rfl rfl rfl ?_
  have ev : ctF [(gi h 171 3), (gi h 171 4), (gi h 171 5), (gi h 19 0), (gi h 0 9), (gi h 23 0), (gi h 23 1), (gi h 23 2), (gi h 23 4), (gi h 133 0), (gi h 33 2), (gi h 3 1), (gi h 1 1)] x = -100 := if_neg (by show ¬ (0 ≤ x ∧ x < 13); omega)
  exact x_iret hK rfl ⟨rfl, by rw [ev]⟩
set_option maxRecDepth 4000 in
theorem ctX11_countF {SP : CT} (hSP : MONO SP) {sh : List (Nat × Nat)} {h : aH} (hG : GD gE gRL sh h) {x : Int} (rx : r32 x) : CLd SP 2 mX11_count [.ref 171, .int (I x)] h 0 0 (fun rv h' => rv = some (.int (I (ctF [(gi h 171 3), (gi h 171 4), (gi h 171 5), (gi h 171 6), (gi h 171 7), (gi h 178 0), (gi h 178 1), (gi h 178 2), (gi h 178 3), (gi h 171 42), (gi h 171 29), (gi h 171 1), (gi h 171 17)] x))) ∧ GD gE gRL sh h' ∧ FRM gRL [(0, 54, 0, 0)] h h') := by
  refine x_met _ rfl (Nat.le_of_ble_eq_true rfl) (fun K hK => ?_)
  have hmono := MONO_CLd hSP 1
  refine x_aload_n 1 hK rfl rfl rfl ?_
  refine x_iconst 2 hK rfl rfl ?_
  refine x_putI 5 hK rfl rfl (sp_171 (h := h) hG) ?_
  refine x_iload_n 6 hK rfl rfl rfl ?_
  refine x_tsw hK rfl (by omega) (l := [66, 71, 76, 81, 86, 91, 98, 105, 112, 119, 124, 129, 134]) rfl ?_
  by_cases e6_0 : x = 0
  · rw [show swI 139 0 [66, 71, 76, 81, 86, 91, 98, 105, 112, 119, 124, 129, 134] x = 66 from by rw [e6_0]; rfl]
    show K 72 _ _ _ _ _
    refine x_aload_n 73 hK rfl rfl rfl ?_
    have g743 := gri (2) (40) hG (a := 171) (r := 54) (k := 3) rfl rfl
    refine x_getE 76 hK rfl (Or.inl rfl) rfl (sp_171 (h := h) hG) (e := (gi h 171 3)) (gi_k (by decide) _) ?_
    have ev : ctF [(gi h 171 3), (gi h 171 4), (gi h 171 5), (gi h 171 6), (gi h 171 7), (gi h 178 0), (gi h 178 1), (gi h 178 2), (gi h 178 3), (gi h 171 42), (gi h 171 29), (gi h 171 1), (gi h 171 17)] x = (gi h 171 3) := by rw [show x = 0 by omega]; rfl
    exact x_iret hK rfl ⟨by rw [ev], GD_w1 (hG) (r := 54) rfl (by omega) rfl (by omega) (by omega), FRM_w ((FRM.rf : FRM gRL [(0, 54, 0, 0)] h h)) (r := 54) rfl rfl⟩
  by_cases e6_1 : x = 1
  · rw [show swI 139 0 [66, 71, 76, 81, 86, 91, 98, 105, 112, 119, 124, 129, 134] x = 71 from by rw [e6_1]; rfl]
    show K 77 _ _ _ _ _
    refine x_aload_n 78 hK rfl rfl rfl ?_
    have g744 := gri (0) (10) hG (a := 171) (r := 54) (k := 4) rfl rfl
    refine x_getE 81 hK rfl (Or.inl rfl) rfl (sp_171 (h := h) hG) (e := (gi h 171 4)) (gi_k (by decide) _) ?_
    have ev : ctF [(gi h 171 3), (gi h 171 4), (gi h 171 5), (gi h 171 6), (gi h 171 7), (gi h 178 0), (gi h 178 1), (gi h 178 2), (gi h 178 3), (gi h 171 42), (gi h 171 29), (gi h 171 1), (gi h 171 17)] x = (gi h 171 4) := by rw [show x = 1 by omega]; rfl
    exact x_iret hK rfl ⟨by rw [ev], GD_w1 (hG) (r := 54) rfl (by omega) rfl (by omega) (by omega), FRM_w ((FRM.rf : FRM gRL [(0, 54, 0, 0)] h h)) (r := 54) rfl rfl⟩
  by_cases e6_2 : x = 2
  · rw [show swI 139 0 [66, 71, 76, 81, 86, 91, 98, 105, 112, 119, 124, 129, 134] x = 76 from by rw [e6_2]; rfl]
    show K 82 _ _ _ _ _
    refine x_aload_n 83 hK rfl rfl rfl ?_
    have g745 := gi_r h 171 5
    refine x_getE 86 hK rfl (Or.inl rfl) rfl (sp_171 (h := h) hG) (e := (gi h 171 5)) (gi_k (by decide) _) ?_
    have ev : ctF [(gi h 171 3), (gi h 171 4), (gi h 171 5), (gi h 171 6), (gi h 171 7), (gi h 178 0), (gi h 178 1), (gi h 178 2), (gi h 178 3), (gi h 171 42), (gi h 171 29), (gi h 171 1), (gi h 171 17)] x = (gi h 171 5) := by rw [show x = 2 by omega]; rfl
    exact x_iret hK rfl ⟨by rw [ev], GD_w1 (hG) (r := 54) rfl (by omega) rfl (by omega) (by omega), FRM_w ((FRM.rf : FRM gRL [(0, 54, 0, 0)] h h)) (r := 54) rfl rfl⟩
  by_cases e6_3 : x = 3
  · rw [show swI 139 0 [66, 71, 76, 81, 86, 91, 98, 105, 112, 119, 124, 129, 134] x = 81 from by rw [e6_3]; rfl]
    show K 87 _ _ _ _ _
    refine x_aload_n 88 hK rfl rfl rfl ?_
    have g746 := gri (0) (16) hG (a := 171) (r := 54) (k := 6) rfl rfl
    refine x_getE 91 hK rfl (Or.inl rfl) rfl (sp_171 (h := h) hG) (e := (gi h 171 6)) (gi_k (by decide) _) ?_
    have ev : ctF [(gi h 171 3), (gi h 171 4), (gi h 171 5), (gi h 171 6), (gi h 171 7), (gi h 178 0), (gi h 178 1), (gi h 178 2), (gi h 178 3), (gi h 171 42), (gi h 171 29), (gi h 171 1), (gi h 171 17)] x = (gi h 171 6) := by rw [show x = 3 by omega]; rfl
    exact x_iret hK rfl ⟨by rw [ev], GD_w1 (hG) (r := 54) rfl (by omega) rfl (by omega) (by omega), FRM_w ((FRM.rf : FRM gRL [(0, 54, 0, 0)] h h)) (r := 54) rfl rfl⟩
  by_cases e6_4 : x = 4
  · rw [show swI 139 0 [66, 71, 76, 81, 86, 91, 98, 105, 112, 119, 124, 129, 134] x = 86 from by rw [e6_4]; rfl]
    show K 92 _ _ _ _ _
    refine x_aload_n 93 hK rfl rfl rfl ?_
    have g747 := gri (0) (8) hG (a := 171) (r := 54) (k := 7) rfl rfl
    refine x_getE 96 hK rfl (Or.inl rfl) rfl (sp_171 (h := h) hG) (e := (gi h 171 7)) (gi_k (by decide) _) ?_
    have ev : ctF [(gi h 171 3), (gi h 171 4), (gi h 171 5), (gi h 171 6), (gi h 171 7), (gi h 178 0), (gi h 178 1), (gi h 178 2), (gi h 178 3), (gi h 171 42), (gi h 171 29), (gi h 171 1), (gi h 171 17)] x = (gi h 171 7) := by rw [show x = 4 by omega]; rfl
    exact x_iret hK rfl ⟨by rw [ev], GD_w1 (hG) (r := 54) rfl (by omega) rfl (by omega) (by omega), FRM_w ((FRM.rf : FRM gRL [(0, 54, 0, 0)] h h)) (r := 54) rfl rfl⟩
  by_cases e6_5 : x = 5
  · rw [show swI 139 0 [66, 71, 76, 81, 86, 91, 98, 105, 112, 119, 124, 129, 134] x = 91 from by rw [e6_5]; rfl]
    show K 97 _ _ _ _ _
    refine x_aload_n 98 hK rfl rfl rfl ?_
    refine x_getR 101 hK rfl rfl (sp_171 (h := h) hG) (rf_171_14 (h := h) hG) ?_
    refine x_iconst 102 hK rfl rfl ?_
    have g748 := gi_r h 178 0
    refine x_ialoadE 103 hK rfl rfl (sp_178 (h := h) hG) (by omega) (by omega) (by omega) (e' := (gi h 178 0)) (gi_a (by decide) _) ?_
    have ev : ctF [(gi h 171 3), (gi h 171 4), (gi h 171 5), (gi h 171 6), (gi h 171 7), (gi h 178 0), (gi h 178 1), (gi h 178 2), (gi h 178 3), (gi h 171 42), (gi h 171 29), (gi h 171 1), (gi h 171 17)] x = (gi h 178 0) := by rw [show x = 5 by omega]; rfl
    exact x_iret hK rfl ⟨by rw [ev], GD_w1 (hG) (r := 54) rfl (by omega) rfl (by omega) (by omega), FRM_w ((FRM.rf : FRM gRL [(0, 54, 0, 0)] h h)) (r := 54) rfl rfl⟩
  by_cases e6_6 : x = 6
  · rw [show swI 139 0 [66, 71, 76, 81, 86, 91, 98, 105, 112, 119, 124, 129, 134] x = 98 from by rw [e6_6]; rfl]
    show K 104 _ _ _ _ _
    refine x_aload_n 105 hK rfl rfl rfl ?_
    refine x_getR 108 hK rfl rfl (sp_171 (h := h) hG) (rf_171_14 (h := h) hG) ?_
    refine x_iconst 109 hK rfl rfl ?_
    have g749 := gri (0) (8) hG (a := 178) (r := 61) (k := 1) rfl rfl
    refine x_ialoadE 110 hK rfl rfl (sp_178 (h := h) hG) (by omega) (by omega) (by omega) (e' := (gi h 178 1)) (gi_a (by decide) _) ?_
    have ev : ctF [(gi h 171 3), (gi h 171 4), (gi h 171 5), (gi h 171 6), (gi h 171 7), (gi h 178 0), (gi h 178 1), (gi h 178 2), (gi h 178 3), (gi h 171 42), (gi h 171 29), (gi h 171 1), (gi h 171 17)] x = (gi h 178 1) := by rw [show x = 6 by omega]; rfl
    exact x_iret hK rfl ⟨by rw [ev], GD_w1 (hG) (r := 54) rfl (by omega) rfl (by omega) (by omega), FRM_w ((FRM.rf : FRM gRL [(0, 54, 0, 0)] h h)) (r := 54) rfl rfl⟩
  by_cases e6_7 : x = 7
  · rw [show swI 139 0 [66, 71, 76, 81, 86, 91, 98, 105, 112, 119, 124, 129, 134] x = 105 from by rw [e6_7]; rfl]
    show K 111 _ _ _ _ _
    refine x_aload_n 112 hK rfl rfl rfl ?_
    refine x_getR 115 hK rfl rfl (sp_171 (h := h) hG) (rf_171_14 (h := h) hG) ?_
    refine x_iconst 116 hK rfl rfl ?_
    have g750 := gi_r h 178 2
    refine x_ialoadE 117 hK rfl rfl (sp_178 (h := h) hG) (by omega) (by omega) (by omega) (e' := (gi h 178 2)) (gi_a (by decide) _) ?_
    have ev : ctF [(gi h 171 3), (gi h 171 4), (gi h 171 5), (gi h 171 6), (gi h 171 7), (gi h 178 0), (gi h 178 1), (gi h 178 2), (gi h 178 3), (gi h 171 42), (gi h 171 29), (gi h 171 1), (gi h 171 17)] x = (gi h 178 2) := by rw [show x = 7 by omega]; rfl
    exact x_iret hK rfl ⟨by rw [ev], GD_w1 (hG) (r := 54) rfl (by omega) rfl (by omega) (by omega), FRM_w ((FRM.rf : FRM gRL [(0, 54, 0, 0)] h h)) (r := 54) rfl rfl⟩
  by_cases e6_8 : x = 8
  · rw [show swI 139 0 [66, 71, 76, 81, 86, 91, 98, 105, 112, 119, 124, 129, 134] x = 112 from by rw [e6_8]; rfl]
    show K 118 _ _ _ _ _
    refine x_aload_n 119 hK rfl rfl rfl ?_
    refine x_getR 122 hK rfl rfl (sp_171 (h := h) hG) (rf_171_14 (h := h) hG) ?_
    refine x_iconst 123 hK rfl rfl ?_
    have g751 := gri (0) (12) hG (a := 178) (r := 61) (k := 3) rfl rfl
    refine x_ialoadE 124 hK rfl rfl (sp_178 (h := h) hG) (by omega) (by omega) (by omega) (e' := (gi h 178 3)) (gi_a (by decide) _) ?_
    have ev : ctF [(gi h 171 3), (gi h 171 4), (gi h 171 5), (gi h 171 6), (gi h 171 7), (gi h 178 0), (gi h 178 1), (gi h 178 2), (gi h 178 3), (gi h 171 42), (gi h 171 29), (gi h 171 1), (gi h 171 17)] x = (gi h 178 3) := by rw [show x = 8 by omega]; rfl
    exact x_iret hK rfl ⟨by rw [ev], GD_w1 (hG) (r := 54) rfl (by omega) rfl (by omega) (by omega), FRM_w ((FRM.rf : FRM gRL [(0, 54, 0, 0)] h h)) (r := 54) rfl rfl⟩
  by_cases e6_9 : x = 9
  · rw [show swI 139 0 [66, 71, 76, 81, 86, 91, 98, 105, 112, 119, 124, 129, 134] x = 119 from by rw [e6_9]; rfl]
    show K 125 _ _ _ _ _
    refine x_aload_n 126 hK rfl rfl rfl ?_
    have g752 := gri (0) (12) hG (a := 171) (r := 54) (k := 42) rfl rfl
    refine x_getE 129 hK rfl (Or.inl rfl) rfl (sp_171 (h := h) hG) (e := (gi h 171 42)) (gi_k (by decide) _) ?_
    have ev : ctF [(gi h 171 3), (gi h 171 4), (gi h 171 5), (gi h 171 6), (gi h 171 7), (gi h 178 0), (gi h 178 1), (gi h 178 2), (gi h 178 3), (gi h 171 42), (gi h 171 29), (gi h 171 1), (gi h 171 17)] x = (gi h 171 42) := by rw [show x = 9 by omega]; rfl
    exact x_iret hK rfl ⟨by rw [ev], GD_w1 (hG) (r := 54) rfl (by omega) rfl (by omega) (by omega), FRM_w ((FRM.rf : FRM gRL [(0, 54, 0, 0)] h h)) (r := 54) rfl rfl⟩
  by_cases e6_10 : x = 10
  · rw [show swI 139 0 [66, 71, 76, 81, 86, 91, 98, 105, 112, 119, 124, 129, 134] x = 124 from by rw [e6_10]; rfl]
    show K 130 _ _ _ _ _
    refine x_aload_n 131 hK rfl rfl rfl ?_
    have g753 := gri (0) (16) hG (a := 171) (r := 54) (k := 29) rfl rfl
    refine x_getE 134 hK rfl (Or.inl rfl) rfl (sp_171 (h := h) hG) (e := (gi h 171 29)) (gi_k (by decide) _) ?_
    have ev : ctF [(gi h 171 3), (gi h 171 4), (gi h 171 5), (gi h 171 6), (gi h 171 7), (gi h 178 0), (gi h 178 1), (gi h 178 2), (gi h 178 3), (gi h 171 42), (gi h 171 29), (gi h 171 1), (gi h 171 17)] x = (gi h 171 29) := by rw [show x = 10 by omega]; rfl
    exact x_iret hK rfl ⟨by rw [ev], GD_w1 (hG) (r := 54) rfl (by omega) rfl (by omega) (by omega), FRM_w ((FRM.rf : FRM gRL [(0, 54, 0, 0)] h h)) (r := 54) rfl rfl⟩
  by_cases e6_11 : x = 11
  · rw [show swI 139 0 [66, 71, 76, 81, 86, 91, 98, 105, 112, 119, 124, 129, 134] x = 129 from by rw [e6_11]; rfl]
    show K 135 _ _ _ _ _
    refine x_aload_n 136 hK rfl rfl rfl ?_
    have g754 := gri (0) (40) hG (a := 171) (r := 54) (k := 1) rfl rfl
    refine x_getE 139 hK rfl (Or.inl rfl) rfl (sp_171 (h := h) hG) (e := (gi h 171 1)) (gi_k (by decide) _) ?_
    have ev : ctF [(gi h 171 3), (gi h 171 4), (gi h 171 5), (gi h 171 6), (gi h 171 7), (gi h 178 0), (gi h 178 1), (gi h 178 2), (gi h 178 3), (gi h 171 42), (gi h 171 29), (gi h 171 1), (gi h 171 17)] x = (gi h 171 1) := by rw [show x = 11 by omega]; rfl
    exact x_iret hK rfl ⟨by rw [ev], GD_w1 (hG) (r := 54) rfl (by omega) rfl (by omega) (by omega), FRM_w ((FRM.rf : FRM gRL [(0, 54, 0, 0)] h h)) (r := 54) rfl rfl⟩
  by_cases e6_12 : x = 12
  · rw [show swI 139 0 [66, 71, 76, 81, 86, 91, 98, 105, 112, 119, 124, 129, 134] x = 134 from by rw [e6_12]; rfl]
    show K 140 _ _ _ _ _
    refine x_aload_n 141 hK rfl rfl rfl ?_
    have g755 := gri (0) (80) hG (a := 171) (r := 54) (k := 17) rfl rfl
    refine x_getE 144 hK rfl (Or.inl rfl) rfl (sp_171 (h := h) hG) (e := (gi h 171 17)) (gi_k (by decide) _) ?_
    have ev : ctF [(gi h 171 3), (gi h 171 4), (gi h 171 5), (gi h 171 6), (gi h 171 7), (gi h 178 0), (gi h 178 1), (gi h 178 2), (gi h 178 3), (gi h 171 42), (gi h 171 29), (gi h 171 1), (gi h 171 17)] x = (gi h 171 17) := by rw [show x = 12 by omega]; rfl
    exact x_iret hK rfl ⟨by rw [ev], GD_w1 (hG) (r := 54) rfl (by omega) rfl (by omega) (by omega), FRM_w ((FRM.rf : FRM gRL [(0, 54, 0, 0)] h h)) (r := 54) rfl rfl⟩
  rw [show swI 139 0 [66, 71, 76, 81, 86, 91, 98, 105, 112, 119, 124, 129, 134] x = 139 from swI_d (by show _ ∨ (0 : Int) + (13 : Nat) ≤ _; omega)]
  show K 145 _ _ _ _ _
  refine x_bipush 147 hK rfl rfl rfl ?_
  have ev : ctF [(gi h 171 3), (gi h 171 4), (gi h 171 5), (gi h 171 6), (gi h 171 7), (gi h 178 0), (gi h 178 1), (gi h 178 2), (gi h 178 3), (gi h 171 42), (gi h 171 29), (gi h 171 1), (gi h 171 17)] x = -100 := if_neg (by show ¬ (0 ≤ x ∧ x < 13); omega)
  exact x_iret hK rfl ⟨by rw [ev], GD_w1 (hG) (r := 54) rfl (by omega) rfl (by omega) (by omega), FRM_w ((FRM.rf : FRM gRL [(0, 54, 0, 0)] h h)) (r := 54) rfl rfl⟩
