/-! ROWS AS LISTS; RELAYS, MUTINIES, WHAT CAN BE CLEARED (the reference) -/
theorem mHas_non {M : MD} {w r : Nat} (h : (M.all fun q => !(Nat.beq q.1 w && Nat.beq q.2.1 r)) = true) (k : Nat) : mHas M w r k = false := by
  cases hc : mHas M w r k with
  | false => rfl
  | true =>
    obtain ⟨q, hq, h2⟩ := List.any_eq_true.mp hc
    have := List.all_eq_true.mp h q hq
    simp only [Bool.and_eq_true] at h2
    rw [h2.1.1.1, h2.1.1.2] at this
    cases this
def mrow (h : aH) : List Int := (List.range (gi h 171 1).toNat).map fun i => gj h 172 i
theorem mrow_0 {h : aH} (e : gi h 171 1 = 0) : mrow h = [] := by unfold mrow; rw [e]; rfl
theorem mrow_eq {h h' : aH} (e : gi h' 171 1 = gi h 171 1) (f : ∀ k, gj h' 172 k = gj h 172 k) : mrow h' = mrow h := by
  unfold mrow
  rw [e]
  exact List.map_congr_left fun i _ => f i
theorem mrow_k {h : aH} {k : Nat} {e : Int} (hk : 1 ≠ k) : mrow (wI h 171 k e) = mrow h := mrow_eq (gi_k hk _) fun _ => rfl
theorem mrow_a {h : aH} {a k : Nat} {e : Int} (ha : 171 ≠ a) : mrow (wI h a k e) = mrow h := mrow_eq (gi_a ha _) fun _ => rfl
theorem mrow_F {M : MD} {h h' : aH} (hF : FRM gRL M h h') (h1 : mHas M 0 54 1 = false) (h2 : (M.all fun q => !(Nat.beq q.1 1 && Nat.beq q.2.1 55)) = true) : mrow h' = mrow h := mrow_eq (FRM_gi hF (r := 54) rfl h1) fun k => FRM_gj hF (r := 55) rfl (mHas_non h2 k)
theorem mrow_snoc {h h' : aH} {v : Int} (h0 : 0 ≤ gi h 171 1) (e : gi h' 171 1 = gi h 171 1 + 1) (f : gj h' 172 (gi h 171 1).toNat = v) (g : ∀ j, j ≠ (gi h 171 1).toNat → gj h' 172 j = gj h 172 j) : mrow h' = mrow h ++ [v] := by
  unfold mrow
  rw [e, show (gi h 171 1 + 1).toNat = (gi h 171 1).toNat + 1 by omega, List.range_succ, List.map_append, List.map_cons, List.map_nil, f]
  congr 1
  refine List.map_congr_left fun i hi => g i ?_
  have := List.mem_range.mp hi
  omega
set_option maxRecDepth 4000 in
theorem ctX11_entersF {SP : CT} (hSP : MONO SP) {sh : List (Nat × Nat)} {h : aH} (hG : GD gE gRL sh h) {v : Int} (hr : 0 ≤ gi h 171 1 ∧ gi h 171 1 ≤ 39) (hv : r64 v) : CLd SP 1 mX11_enters [.ref 171, .long (J v)] h 0 0 (fun rv h' => rv = none ∧ GD gE gRL sh h' ∧ FRM gRL [(0, 54, 1, 1), (1, 55, 0, 39)] h h' ∧ gi h' 171 1 = gi h 171 1 + 1 ∧ mrow h' = mrow h ++ [v]) := by
  refine x_met _ rfl (Nat.le_of_ble_eq_true rfl) (fun K hK => ?_)
  have hmono := MONO_CLd hSP 0
  refine x_aload_n 1 hK rfl rfl rfl ?_
  refine x_getR 4 hK rfl rfl (sp_171 (h := h) hG) (rf_171_2 (h := h) hG) ?_
  refine x_aload_n 5 hK rfl rfl rfl ?_
  have g8 := gri (0) (40) hG (a := 171) (r := 54) (k := 1) rfl rfl
  refine x_getE 8 hK rfl (Or.inl rfl) rfl (sp_171 (h := h) hG) (e := (gi h 171 1)) (rfl) ?_
  refine x_lload_n 9 hK rfl rfl rfl ?_
  refine x_lastore 10 hK rfl rfl (sp_172 (h := h) hG) (by omega) (by omega) (by omega) ?_
  refine x_aload_n 11 hK rfl rfl rfl ?_
  refine x_dup 12 hK rfl rfl rfl ?_
  refine x_getE 15 hK rfl (Or.inl rfl) rfl (sp_171 (h := h) hG) (e := (gi h 171 1)) (rfl) ?_
  refine x_iconst 16 hK rfl rfl ?_
  refine x_iadd 17 hK rfl rfl ?_
  refine x_putI 20 hK rfl rfl (sp_171 (h := h) hG) ?_
  have e1 : gi (wI (sJ h 172 (gi h 171 1).toNat (J v)) 171 1 ((gi h 171 1) + 1)) 171 1 = gi h 171 1 + 1 := gi_same (by omega)
  exact x_vret hK rfl ⟨rfl, GD_w1 (GD_J (hG)) (r := 54) rfl (by omega) rfl (by omega) (by omega), FRM_w (FRM_Jn 0 39 ((FRM.rf : FRM gRL [(0, 54, 1, 1), (1, 55, 0, 39)] h h)) (r := 55) rfl rfl rfl (by omega) (by omega)) (r := 54) rfl rfl, e1, mrow_snoc hr.1 e1 (gj_same hv) fun j hj => gj_k hj _⟩
/-- c CELLS, s of them behind the bow, k POSTS: the greatest gap -/
theorem relayG {s g k : Int} (hg : 0 < g) (hk : 0 ≤ k) : (s + g - 1) / g - 1 ≤ k ↔ (s + k) / (k + 1) ≤ g := by
  have h1 : (s + g - 1) / g - 1 ≤ k ↔ s + g - 1 < (k + 2) * g := by
    rw [← Int.ediv_lt_iff_lt_mul hg]; omega
  have h2 : (s + k) / (k + 1) ≤ g ↔ s + k < (g + 1) * (k + 1) := by
    rw [← Int.ediv_lt_iff_lt_mul (show 0 < k + 1 by omega)]; omega
  rw [h1, h2]
  have e1 : (k + 2) * g = k * g + 2 * g := by rw [Int.add_mul]
  have e2 : (g + 1) * (k + 1) = k * g + g + k + 1 := by rw [Int.add_mul, Int.mul_add, Int.mul_comm g k]; omega
  omega
theorem relayB {s k : Int} (hs : 1 ≤ s) (hk : 0 ≤ k) : 1 ≤ (s + k) / (k + 1) ∧ (s + k) / (k + 1) ≤ s := by
  constructor
  · rw [Int.le_ediv_iff_mul_le (by omega)]; omega
  · have : (s + k) / (k + 1) < s + 1 := by
      rw [Int.ediv_lt_iff_lt_mul (by omega)]
      have : 0 ≤ s * k := Int.mul_nonneg (by omega) hk
      have e : (s + 1) * (k + 1) = s * k + s + k + 1 := by rw [Int.add_mul, Int.mul_add]; omega
      omega
    omega
/-- the CELLS of POSTS that are g apart at most, the foremost ones -/
def rlC (s g k : Int) : Nat → Int
  | 0 => 0
  | i + 1 => max (rlC s g k i + 1) (s - g * (k - i))
theorem rlC_s {s g k i : Int} (h : 1 ≤ i) : max (rlC s g k (i - 1).toNat + 1) (s - g * (k - i + 1)) = rlC s g k i.toNat := by
  obtain ⟨n, rfl⟩ : ∃ n : Nat, i = n + 1 := ⟨(i - 1).toNat, by omega⟩
  rw [show ((n : Int) + 1).toNat = n + 1 by omega, show ((n : Int) + 1 - 1).toNat = n by omega]
  show _ = max (rlC s g k n + 1) (s - g * (k - n))
  rw [show k - ((n : Int) + 1) + 1 = k - n by omega]
theorem rlC_b {s g k : Int} (hs : 0 ≤ s) (hg : 0 ≤ g) (hk : 0 ≤ k) : ∀ i : Nat, (i : Int) ≤ k → 0 ≤ rlC s g k i ∧ rlC s g k i ≤ s + i
  | 0, _ => ⟨Int.le_refl _, by show (0 : Int) ≤ _; omega⟩
  | i + 1, h => by
    have ⟨h1, h2⟩ := rlC_b hs hg hk i (by omega)
    have : 0 ≤ g * (k - i) := Int.mul_nonneg hg (by omega)
    show 0 ≤ max (rlC s g k i + 1) (s - g * (k - i)) ∧ max (rlC s g k i + 1) (s - g * (k - i)) ≤ _
    omega
/-- the first n entries of a row that f tells -/
def rowF (f : Nat → Int) (n : Nat) : List Int := (List.range n).map f
theorem rowF_s (f : Nat → Int) (n : Nat) : rowF f (n + 1) = rowF f n ++ [f n] := by unfold rowF; rw [List.range_succ, List.map_append]; rfl
theorem relayD {s g : Int} (hs : 1 ≤ s) (hg : 1 ≤ g) : 0 ≤ (s + g - 1) / g ∧ (s + g - 1) / g ≤ s := by
  constructor
  · exact Int.ediv_nonneg (by omega) (by omega)
  · have : (s + g - 1) / g < s + 1 := by
      rw [Int.ediv_lt_iff_lt_mul (by omega)]
      have : 0 ≤ s * (g - 1) := Int.mul_nonneg (by omega) (by omega)
      have e : (s + 1) * g = s * (g - 1) + s + g := by rw [Int.add_mul, Int.mul_sub]; omega
      omega
    omega
set_option maxRecDepth 4000 in
theorem ctX11_postsFor {SP : CT} (hSP : MONO SP) {sh : List (Nat × Nat)} {h : aH} (hG : GD gE gRL sh h) {v : Int} (hv : 1 ≤ v ∧ v ≤ 1000) : CLd SP 1 mX11_postsFor [.ref 171, .int (I v)] h 0 0 (fun rv h' => h' = h ∧ rv = some (.int (I ((gi h 171 3 - 1 + v - 1) / v - 1)))) := by
  refine x_met _ rfl (Nat.le_of_ble_eq_true rfl) (fun K hK => ?_)
  have hmono := MONO_CLd hSP 0
  refine x_aload_n 1 hK rfl rfl rfl ?_
  have g9 := gri (2) (40) hG (a := 171) (r := 54) (k := 3) rfl rfl
  refine x_getE 4 hK rfl (Or.inl rfl) rfl (sp_171 (h := h) hG) (e := (gi h 171 3)) (rfl) ?_
  refine x_iconst 5 hK rfl rfl ?_
  refine x_isub 6 hK rfl rfl ?_
  refine x_iload_n 7 hK rfl rfl rfl ?_
  refine x_iadd 8 hK rfl rfl ?_
  refine x_iconst 9 hK rfl rfl ?_
  refine x_isub 10 hK rfl rfl ?_
  refine x_iload_n 11 hK rfl rfl rfl ?_
  refine x_idivp 12 hK rfl rfl (by omega) (by omega) (by omega) (by omega) ?_
  refine x_iconst 13 hK rfl rfl ?_
  refine x_isub 14 hK rfl rfl ?_
  exact x_iret hK rfl ⟨rfl, rfl⟩
set_option maxRecDepth 4000 in
theorem ctX11_relay {SP : CT} (hSP : MONO SP) {sh : List (Nat × Nat)} {h : aH} (hG : GD gE gRL sh h) {k : Int} (rk : r32 k) : CLd SP 5 mX11_relay [.ref 171, .int (I k)] h 0 0 (fun rv h' => ((¬ (0 ≤ k ∧ k ≤ 10) ∧ rv = some (.int (I (-1))) ∧ mrow h' = mrow h) ∨ ((0 ≤ k ∧ k ≤ 10) ∧ gi h 171 3 - 2 < k ∧ rv = some (.int (I (-2))) ∧ mrow h' = mrow h) ∨ ((0 ≤ k ∧ k ≤ 10) ∧ k ≤ gi h 171 3 - 2 ∧ rv = some (.int (I (((gi h 171 3 - 1) + k) / (k + 1)))) ∧ mrow h' = rowF (fun n => rlC (gi h 171 3 - 1) (((gi h 171 3 - 1) + k) / (k + 1)) k (n + 1)) k.toNat)) ∧ GD gE gRL sh h' ∧ FRM gRL [(0, 54, 0, 0), (0, 54, 1, 1), (1, 55, 0, 39)] h h' ∧ gi h' 171 0 = 0) := by
  refine x_met _ rfl (Nat.le_of_ble_eq_true rfl) (fun K hK => ?_)
  have hmono := MONO_CLd hSP 4
  have gc := gri 2 40 hG (a := 171) (r := 54) (k := 3) rfl rfl
  have loopF : ∀ (mz : Nat) (g last i : Int) (h4 : aH) (ls : List (Nat × Value)), ((k + 1 - i).toNat = mz) → (g = (((gi h 171 3 - 1) + k) / (k + 1))) → (0 ≤ k ∧ k ≤ 10 ∧ k ≤ gi h 171 3 - 2) → (1 ≤ i ∧ i ≤ k + 1) → (last = rlC (gi h 171 3 - 1) g k (i - 1).toNat) → (gi h4 171 0 = 0) → (gi h4 171 1 = i - 1) → (mrow h4 = rowF (fun n => rlC (gi h 171 3 - 1) g k (n + 1)) (i - 1).toNat) → lk ls 0 = some (.ref 171) → lk ls 1 = some (.int (I k)) → lk ls 2 = some (.int (I g)) → lk ls 3 = some (.int (I last)) → lk ls 4 = some (.int (I i)) → GD gE gRL sh h4 → FRM gRL [(0, 54, 0, 0), (0, 54, 1, 1), (1, 55, 0, 39)] h h4 → K 59 ls [] h4 0 0 := by
    intro mz
    induction mz using Nat.strongRecOn with
    | ind mz ih =>
    intro g last i h4 ls hm gg k0 i0 la t4 r4 e4 l0 l1 l2 l3 l4 hG4 hF4
    have gb := relayB (s := gi h 171 3 - 1) (k := k) (by omega) (by omega)
    have lb1 := rlC_b (s := (gi h 171 3 - 1)) (g := g) (k := k) (by omega) (by omega) (by omega) (i - 1).toNat (by omega)
    rw [← la] at lb1
    have lb2 := fun z : i ≤ k => rlC_b (s := (gi h 171 3 - 1)) (g := g) (k := k) (by omega) (by omega) (by omega) i.toNat (by omega)
    have ls1 := rlC_s (s := gi h 171 3 - 1) (g := g) (k := k) i0.1
    rw [← la] at ls1
    have gm : 0 ≤ g * (k - i + 1) ∧ g * (k - i + 1) ≤ 40 * 10 := ⟨Int.mul_nonneg (by omega) (by omega), Int.mul_le_mul (by omega) (by omega) (by omega) (by omega)⟩
    refine x_iload 61 hK rfl rfl l4 ?_
    refine x_iload_n 62 hK rfl rfl l1 ?_
    refine x_if_icmp_gt 99 65 hK rfl rfl rfl (by omega) (by omega) (fun c3 => ?_) (fun c3 => ?_)
    · refine x_iload_n 100 hK rfl rfl l2 ?_
      obtain rfl : i = k + 1 := by omega
      rw [show k + 1 - 1 = k by omega] at e4
      subst gg
      exact x_iret hK rfl ⟨Or.inr (Or.inr ⟨by omega, by omega, rfl, e4⟩), hG4, hF4, t4⟩
    · refine x_iload_n 66 hK rfl rfl l3 ?_
      refine x_iconst 67 hK rfl rfl ?_
      refine x_iadd 68 hK rfl rfl ?_
      refine x_aload_n 69 hK rfl rfl l0 ?_
      have g10 := gri (2) (40) hG (a := 171) (r := 54) (k := 3) rfl rfl
      refine x_getE 72 hK rfl (Or.inl rfl) rfl (sp_171 (h := h4) hG4) (e := (gi h 171 3)) (FRM_gi hF4 (r := 54) rfl rfl) ?_
      refine x_iconst 73 hK rfl rfl ?_
      refine x_isub 74 hK rfl rfl ?_
      refine x_iload_n 75 hK rfl rfl l2 ?_
      refine x_iload_n 76 hK rfl rfl l1 ?_
      refine x_iload 78 hK rfl rfl l4 ?_
      refine x_isub 79 hK rfl rfl ?_
      refine x_iconst 80 hK rfl rfl ?_
      refine x_iadd 81 hK rfl rfl ?_
      refine x_imul 82 hK rfl rfl ?_
      refine x_isub 83 hK rfl rfl ?_
      refine x_max 86 hK rfl rfl (Nat.le_of_ble_eq_true rfl) (by omega) (by omega) ?_
      refine x_istore_n 87 hK rfl rfl _ rfl ?_
      refine x_aload_n 88 hK rfl rfl (lk1_n l0 (by decide) (Or.inl rfl)) ?_
      refine x_iload_n 89 hK rfl rfl lk1_s ?_
      refine x_i2l 90 hK rfl rfl (by omega) ?_
      have z12 : gi h4 171 1 = (i - 1) := r4
      have z12r : mrow h4 = (mrow h4) := rfl
      refine x_callV 93 hK hmono rfl rfl [.ref 171, .long (J (max (last + 1) (((gi h 171 3) - 1) - (g * ((k - i) + 1)))))] [] rfl rfl (Nat.le_of_ble_eq_true rfl) (Nat.le_of_ble_eq_true rfl) rfl (sp_171 (h := h4) hG4) (CLd_le (Nat.le_of_ble_eq_true rfl) (ctX11_entersF hSP hG4 (by omega) (by omega))) ?_
      rintro v11 h11 ⟨rfl, hG11, hF11, t11, s11⟩
      rw [z12] at t11
      rw [z12r] at s11
      refine x_iinc 96 hK rfl rfl (lk1_n l4 (by decide) (Or.inl rfl)) _ rfl ?_
      refine x_goto 59 hK rfl rfl ?_
      exact ih _ (by omega) g (max (last + 1) (((gi h 171 3) - 1) - (g * ((k - i) + 1)))) (i + 1) _ _ rfl (by omega) (by omega) (by omega) (by rw [show i + 1 - 1 = i by omega]; exact ls1) ((FRM_gi hF11 (r := 54) rfl rfl).trans (t4)) ((t11).trans (by omega)) (by rw [s11, e4, ls1, show (i + 1 - 1).toNat = (i - 1).toNat + 1 by omega, rowF_s, show (i - 1).toNat + 1 = i.toNat by omega]) (lk1_n (lk1_n l0 (by decide) (Or.inl rfl)) (by decide) (Or.inl rfl)) (lk1_n (lk1_n l1 (by decide) (Or.inl rfl)) (by decide) (Or.inl rfl)) (lk1_n (lk1_n l2 (by decide) (Or.inl rfl)) (by decide) (Or.inl rfl)) (lk1_n lk1_s (by decide) (Or.inl rfl)) lk1_s (hG11) ((hF4).trans ((hF11).mono rfl))
  have loopE : ∀ (mz : Nat) (g : Int) (ls : List (Nat × Value)), (((((gi h 171 3 - 1) + k) / (k + 1)) - g).toNat = mz) → (0 ≤ k ∧ k ≤ 10 ∧ k ≤ gi h 171 3 - 2) → (1 ≤ g ∧ g ≤ (((gi h 171 3 - 1) + k) / (k + 1))) → lk ls 0 = some (.ref 171) → lk ls 1 = some (.int (I k)) → lk ls 2 = some (.int (I g)) → K 34 ls [] (wI h 171 0 0) 0 0 := by
    intro mz
    induction mz using Nat.strongRecOn with
    | ind mz ih =>
    intro g ls hm k0 g0 l0 l1 l2
    have gb := relayB (s := gi h 171 3 - 1) (k := k) (by omega) (by omega)
    have gq := relayG (s := gi h 171 3 - 1) (g := g) (k := k) (by omega) (by omega)
    refine x_aload_n 35 hK rfl rfl l0 ?_
    refine x_iload_n 36 hK rfl rfl l2 ?_
    have g13 := gri (2) (40) hG (a := 171) (r := 54) (k := 3) rfl rfl
    have hGp14 : GD gE gRL sh (wI h 171 0 0) := GD_w1 (hG) (r := 54) rfl (by omega) rfl (by omega) (by omega)
    have z15 : gi (wI h 171 0 0) 171 3 = (gi h 171 3) := gi_k (by decide) _
    refine x_callV 39 hK hmono rfl rfl [.ref 171, .int (I g)] [] rfl rfl (Nat.le_of_ble_eq_true rfl) (Nat.le_of_ble_eq_true rfl) rfl (sp_171 (h := h) hG) (CLd_le (Nat.le_of_ble_eq_true rfl) (ctX11_postsFor hSP hGp14 (by omega))) ?_
    rintro v9 h9 ⟨e9, rfl⟩
    rw [e9, z15]
    clear e9
    have pf16 := relayD (s := (gi h 171 3) - 1) (g := g) (by omega) (by omega)
    refine x_iload_n 40 hK rfl rfl l1 ?_
    refine x_if_icmp_le 49 43 hK rfl rfl rfl (by omega) (by omega) (fun c5 => ?_) (fun c5 => ?_)
    · refine x_aload_n 50 hK rfl rfl l0 ?_
      refine x_iconst 51 hK rfl rfl ?_
      refine x_putI 54 hK rfl rfl (sp_171 (h := h) hG) ?_
      refine x_iconst 55 hK rfl rfl ?_
      refine x_istore_n 56 hK rfl rfl _ rfl ?_
      refine x_iconst 57 hK rfl rfl ?_
      refine x_istore 59 hK rfl rfl _ rfl ?_
      exact loopF _ g 0 1 _ _ rfl (by omega) (by omega) (by omega) (rfl) ((gi_k (by decide) _).trans (gi_same (by omega))) (gi_same (by omega)) (mrow_0 (gi_same (by omega))) (lk1_n (lk1_n l0 (by decide) (Or.inl rfl)) (by decide) (Or.inl rfl)) (lk1_n (lk1_n l1 (by decide) (Or.inl rfl)) (by decide) (Or.inl rfl)) (lk1_n (lk1_n l2 (by decide) (Or.inl rfl)) (by decide) (Or.inl rfl)) (lk1_n lk1_s (by decide) (Or.inl rfl)) lk1_s (GD_w1 (GD_w1 (hG) (r := 54) rfl (by omega) rfl (by omega) (by omega)) (r := 54) rfl (by omega) rfl (by omega) (by omega)) (FRM_w (FRM_w ((FRM.rf : FRM gRL [(0, 54, 0, 0), (0, 54, 1, 1), (1, 55, 0, 39)] h h)) (r := 54) rfl rfl) (r := 54) rfl rfl)
    · refine x_iinc 46 hK rfl rfl l2 _ rfl ?_
      refine x_goto 34 hK rfl rfl ?_
      exact ih _ (by omega) (g + 1) _ rfl (by omega) (by omega) (lk1_n l0 (by decide) (Or.inl rfl)) (lk1_n l1 (by decide) (Or.inl rfl)) lk1_s
  refine x_aload_n 1 hK rfl rfl rfl ?_
  refine x_iconst 2 hK rfl rfl ?_
  refine x_putI 5 hK rfl rfl (sp_171 (h := h) hG) ?_
  refine x_iload_n 6 hK rfl rfl rfl ?_
  refine x_i2l 7 hK rfl rfl (by omega) ?_
  refine x_lconstE 8 0 hK rfl rfl rfl ?_
  refine x_ldc2_w 11 hK rfl rfl ?_
  have hGp17 : GD gE gRL sh (wI h 171 0 0) := GD_w1 (hG) (r := 54) rfl (by omega) rfl (by omega) (by omega)
  refine x_callS 14 hK hmono rfl (Or.inl rfl) rfl [.long (J k), .long (J 0), .long (J 10)] [] rfl rfl (Nat.le_of_ble_eq_true rfl) (Nat.le_of_ble_eq_true rfl) (CLd_le (Nat.le_of_ble_eq_true rfl) (ctX11_in (by omega) (by omega) (by omega))) ?_
  rintro v9 h9 ⟨e9, ⟨rfl, i118, i218⟩ | ⟨rfl, i118⟩⟩ <;> rw [e9] <;> clear e9
  · refine x_if_ne 19 17 hK rfl rfl rfl (by omega) (fun _ => ?_) (fun c => by omega)
    refine x_iload_n 20 hK rfl rfl rfl ?_
    refine x_aload_n 21 hK rfl rfl rfl ?_
    have g19 := gri (2) (40) hG (a := 171) (r := 54) (k := 3) rfl rfl
    refine x_getE 24 hK rfl (Or.inl rfl) rfl (sp_171 (h := h) hG) (e := (gi h 171 3)) (gi_k (by decide) _) ?_
    refine x_iconst 25 hK rfl rfl ?_
    refine x_isub 26 hK rfl rfl ?_
    refine x_if_icmp_le 32 29 hK rfl rfl rfl (by omega) (by omega) (fun c15 => ?_) (fun c15 => ?_)
    · refine x_iconst 33 hK rfl rfl ?_
      refine x_istore_n 34 hK rfl rfl [(2, .int (I 1)), (0, .ref 171), (1, .int (I k))] rfl ?_
      have gb := relayB (s := gi h 171 3 - 1) (k := k) (by omega) (by omega)
      exact loopE _ 1 _ rfl (by omega) (by omega) rfl rfl rfl
    · refine x_bipush 31 hK rfl rfl rfl ?_
      exact x_iret hK rfl ⟨Or.inr (Or.inl ⟨by omega, by omega, rfl, mrow_k (by decide)⟩), GD_w1 (hG) (r := 54) rfl (by omega) rfl (by omega) (by omega), FRM_w ((FRM.rf : FRM gRL [(0, 54, 0, 0), (0, 54, 1, 1), (1, 55, 0, 39)] h h)) (r := 54) rfl rfl, gi_same (by omega)⟩
  · refine x_if_ne 19 17 hK rfl rfl rfl (by omega) (fun c => by omega) (fun _ => ?_)
    refine x_iconst 18 hK rfl rfl ?_
    exact x_iret hK rfl ⟨Or.inl ⟨by omega, rfl, mrow_k (by decide)⟩, GD_w1 (hG) (r := 54) rfl (by omega) rfl (by omega) (by omega), FRM_w ((FRM.rf : FRM gRL [(0, 54, 0, 0), (0, 54, 1, 1), (1, 55, 0, 39)] h h)) (r := 54) rfl rfl, gi_same (by omega)⟩
def kps (a x y v : Int) : Int := if v ≤ x + y then a - x else a / 2
/-- nothing else that is bid gives more -/
def rstB (a x y v : Int) : Nat → Bool
  | 0 => true
  | i + 1 => rstB a x y v i && decide (kps a i y v ≤ kps a x y v)
theorem rstB_s {a x y v i : Int} (h : 0 ≤ i) : rstB a x y v (i + 1).toNat = (rstB a x y v i.toNat && decide (kps a i y v ≤ kps a x y v)) := by
  rw [tn_s h]
  show (rstB a x y v i.toNat && decide (kps a (i.toNat : Int) y v ≤ _)) = _
  rw [tn_c h]
def b2i (b : Bool) : Int := if b then 1 else 0
theorem b2i_r (b : Bool) : b2i b = 0 ∨ b2i b = 1 := by cases b <;> simp [b2i]
def rst (a x y v : Int) : Bool := rstB a x y v (min 9 a + 1).toNat
def mtOk (a b v : Int) (x y : Nat) : Bool := rst a x y v && rst b y x v
/-- the pairs in which neither would have more, by rows -/
def mtY (a b v : Int) (x : Nat) : Nat → List (Int × Int)
  | 0 => []
  | y + 1 => mtY a b v x y ++ if mtOk a b v x y then [((x : Int), (y : Int))] else []
def mtX (a b v : Int) : Nat → List (Int × Int)
  | 0 => []
  | x + 1 => mtX a b v x ++ mtY a b v x (min 9 b + 1).toNat
def mtR (l : List (Int × Int)) : List Int := match l with
  | [] => []
  | q :: _ => [q.1, q.2]
theorem mtR_a {l r : List (Int × Int)} (h : l ≠ []) : mtR (l ++ r) = mtR l := by cases l with
  | nil => exact absurd rfl h
  | cons q t => rfl
theorem mtY_l (a b v : Int) (x : Nat) : ∀ y, (mtY a b v x y).length ≤ y
  | 0 => Nat.le_refl _
  | y + 1 => by
    have := mtY_l a b v x y
    show (mtY a b v x y ++ _).length ≤ _
    rw [List.length_append]
    split <;> simp <;> omega
theorem mtX_l (a b v : Int) : ∀ x, (mtX a b v x).length ≤ 10 * x
  | 0 => Nat.le_refl _
  | x + 1 => by
    have := mtX_l a b v x
    have := mtY_l a b v x (min 9 b + 1).toNat
    show (mtX a b v x ++ _).length ≤ _
    rw [List.length_append]
    omega
theorem len0 {l : List (Int × Int)} : l.length = 0 ↔ l = [] := List.length_eq_zero_iff
theorem kps_b (a x y v : Int) (ha : 0 ≤ a ∧ a ≤ 100) (hx : 0 ≤ x ∧ x ≤ 100) : r32 (kps a x y v) := by
  unfold kps
  split <;> omega
set_option maxRecDepth 4000 in
theorem ctX11_keeps {SP : CT} (hSP : MONO SP) {h : aH} {a x y v : Int} (ha : 0 ≤ a ∧ a ≤ 100) (hx : 0 ≤ x ∧ x ≤ 100) (hy : 0 ≤ y ∧ y ≤ 100) (hv : 0 ≤ v ∧ v ≤ 100) : CLd SP 1 mX11_keeps [.int (I a), .int (I x), .int (I y), .int (I v)] h 0 0 (fun rv h' => h' = h ∧ rv = some (.int (I (kps a x y v)))) := by
  refine x_met _ rfl (Nat.le_of_ble_eq_true rfl) (fun K hK => ?_)
  have hmono := MONO_CLd hSP 0
  refine x_iload_n 1 hK rfl rfl rfl ?_
  refine x_iload_n 2 hK rfl rfl rfl ?_
  refine x_iadd 3 hK rfl rfl ?_
  refine x_iload_n 4 hK rfl rfl rfl ?_
  refine x_if_icmp_lt 13 7 hK rfl rfl rfl (by omega) (by omega) (fun c5 => ?_) (fun c5 => ?_)
  · refine x_iload_n 14 hK rfl rfl rfl ?_
    refine x_iconst 15 hK rfl rfl ?_
    refine x_idivp 16 hK rfl rfl (by omega) (by omega) (by omega) (by omega) ?_
    exact x_iret hK rfl ⟨rfl, by rw [show kps a x y v = (a / 2) from if_neg (by omega)]⟩
  · refine x_iload_n 8 hK rfl rfl rfl ?_
    refine x_iload_n 9 hK rfl rfl rfl ?_
    refine x_isub 10 hK rfl rfl ?_
    refine x_goto 16 hK rfl rfl ?_
    exact x_iret hK rfl ⟨rfl, by rw [show kps a x y v = (a - x) from if_pos (by omega)]⟩
theorem rst_step {e n : Int} {b : Bool} {p : Prop} {dp : Decidable p} (h : e = b2i b) (hn : n = if e = 0 then 0 else if p then 1 else 0) : n = b2i (b && decide p) := by
  subst h hn
  cases b
  · simp [b2i]
  · by_cases hp : p <;> simp [b2i, hp]
set_option maxRecDepth 4000 in
theorem ctX11_isRest {SP : CT} (hSP : MONO SP) {h : aH} {a x y v : Int} (ha : 0 ≤ a ∧ a ≤ 100) (hx : 0 ≤ x ∧ x ≤ 100) (hy : 0 ≤ y ∧ y ≤ 100) (hv : 0 ≤ v ∧ v ≤ 100) : CLd SP 2 mX11_isRest [.int (I a), .int (I x), .int (I y), .int (I v)] h 0 0 (fun rv h' => h' = h ∧ rv = some (.int (I (b2i (rst a x y v))))) := by
  refine x_met _ rfl (Nat.le_of_ble_eq_true rfl) (fun K hK => ?_)
  have hmono := MONO_CLd hSP 1
  have loop : ∀ (mz : Nat) (e i : Int) (ls : List (Nat × Value)), ((min 9 a + 1 - i).toNat = mz) → (0 ≤ i ∧ i ≤ min 9 a + 1) → (e = b2i (rstB a x y v i.toNat)) → lk ls 0 = some (.int (I a)) → lk ls 1 = some (.int (I x)) → lk ls 2 = some (.int (I y)) → lk ls 3 = some (.int (I v)) → lk ls 4 = some (.int (I e)) → lk ls 5 = some (.int (I i)) → K 6 ls [] h 0 0 := by
    intro mz
    induction mz using Nat.strongRecOn with
    | ind mz ih =>
    intro e i ls hm i0 ee l0 l1 l2 l3 l4 l5
    have e01 := b2i_r (rstB a x y v i.toNat)
    rw [← ee] at e01
    have rs := rstB_s (a := a) (x := x) (y := y) (v := v) i0.1
    refine x_iload 8 hK rfl rfl l5 ?_
    refine x_bipush 10 hK rfl rfl rfl ?_
    refine x_iload_n 11 hK rfl rfl l0 ?_
    refine x_min 14 hK rfl rfl (Nat.le_of_ble_eq_true rfl) (by omega) (by omega) ?_
    refine x_if_icmp_gt 53 17 hK rfl rfl rfl (by omega) (by omega) (fun c5 => ?_) (fun c5 => ?_)
    · refine x_iload 55 hK rfl rfl l4 ?_
      exact x_zret hK rfl (by omega) ⟨rfl, by rw [ee, show i = min 9 a + 1 by omega]; rfl⟩
    · refine x_iload 19 hK rfl rfl l4 ?_
      refine x_if_eq 44 22 hK rfl rfl rfl (by omega) (fun c9 => ?_) (fun c9 => ?_)
      · refine x_iconst 45 hK rfl rfl ?_
        refine x_istore 47 hK rfl rfl _ rfl ?_
        refine x_iinc 50 hK rfl rfl (lk1_n l5 (by decide) (Or.inl rfl)) _ rfl ?_
        refine x_goto 6 hK rfl rfl ?_
        exact ih _ (by omega) 0 (i + 1) _ rfl (by omega) (by rw [rs]; exact rst_step ee (by first | rw [if_pos (by omega)] | rw [if_neg (by omega), if_pos (by omega)] | rw [if_neg (by omega), if_neg (by omega)])) (lk1_n (lk1_n l0 (by decide) (Or.inl rfl)) (by decide) (Or.inl rfl)) (lk1_n (lk1_n l1 (by decide) (Or.inl rfl)) (by decide) (Or.inl rfl)) (lk1_n (lk1_n l2 (by decide) (Or.inl rfl)) (by decide) (Or.inl rfl)) (lk1_n (lk1_n l3 (by decide) (Or.inl rfl)) (by decide) (Or.inl rfl)) (lk1_n lk1_s (by decide) (Or.inl rfl)) lk1_s
      · refine x_iload_n 23 hK rfl rfl l0 ?_
        refine x_iload 25 hK rfl rfl l5 ?_
        refine x_iload_n 26 hK rfl rfl l2 ?_
        refine x_iload_n 27 hK rfl rfl l3 ?_
        refine x_callS 30 hK hmono rfl (Or.inl rfl) rfl [.int (I a), .int (I i), .int (I y), .int (I v)] [] rfl rfl (Nat.le_of_ble_eq_true rfl) (Nat.le_of_ble_eq_true rfl) (CLd_le (Nat.le_of_ble_eq_true rfl) (ctX11_keeps hSP (by omega) (by omega) (by omega) (by omega))) ?_
        rintro v9 h9 ⟨e9, rfl⟩
        rw [e9]
        clear e9
        have kb20 := kps_b a i y v (by omega) (by omega)
        refine x_iload_n 31 hK rfl rfl l0 ?_
        refine x_iload_n 32 hK rfl rfl l1 ?_
        refine x_iload_n 33 hK rfl rfl l2 ?_
        refine x_iload_n 34 hK rfl rfl l3 ?_
        refine x_callS 37 hK hmono rfl (Or.inl rfl) rfl [.int (I a), .int (I x), .int (I y), .int (I v)] [.int (I (kps a i y v))] rfl rfl (Nat.le_of_ble_eq_true rfl) (Nat.le_of_ble_eq_true rfl) (CLd_le (Nat.le_of_ble_eq_true rfl) (ctX11_keeps hSP (by omega) (by omega) (by omega) (by omega))) ?_
        rintro v9 h9 ⟨e9, rfl⟩
        rw [e9]
        clear e9
        have kb21 := kps_b a x y v (by omega) (by omega)
        refine x_if_icmp_gt 44 40 hK rfl rfl rfl (by omega) (by omega) (fun c25 => ?_) (fun c25 => ?_)
        · refine x_iconst 45 hK rfl rfl ?_
          refine x_istore 47 hK rfl rfl _ rfl ?_
          refine x_iinc 50 hK rfl rfl (lk1_n l5 (by decide) (Or.inl rfl)) _ rfl ?_
          refine x_goto 6 hK rfl rfl ?_
          exact ih _ (by omega) 0 (i + 1) _ rfl (by omega) (by rw [rs]; exact rst_step ee (by first | rw [if_pos (by omega)] | rw [if_neg (by omega), if_pos (by omega)] | rw [if_neg (by omega), if_neg (by omega)])) (lk1_n (lk1_n l0 (by decide) (Or.inl rfl)) (by decide) (Or.inl rfl)) (lk1_n (lk1_n l1 (by decide) (Or.inl rfl)) (by decide) (Or.inl rfl)) (lk1_n (lk1_n l2 (by decide) (Or.inl rfl)) (by decide) (Or.inl rfl)) (lk1_n (lk1_n l3 (by decide) (Or.inl rfl)) (by decide) (Or.inl rfl)) (lk1_n lk1_s (by decide) (Or.inl rfl)) lk1_s
        · refine x_iconst 41 hK rfl rfl ?_
          refine x_goto 45 hK rfl rfl ?_
          refine x_istore 47 hK rfl rfl _ rfl ?_
          refine x_iinc 50 hK rfl rfl (lk1_n l5 (by decide) (Or.inl rfl)) _ rfl ?_
          refine x_goto 6 hK rfl rfl ?_
          exact ih _ (by omega) 1 (i + 1) _ rfl (by omega) (by rw [rs]; exact rst_step ee (by first | rw [if_pos (by omega)] | rw [if_neg (by omega), if_pos (by omega)] | rw [if_neg (by omega), if_neg (by omega)])) (lk1_n (lk1_n l0 (by decide) (Or.inl rfl)) (by decide) (Or.inl rfl)) (lk1_n (lk1_n l1 (by decide) (Or.inl rfl)) (by decide) (Or.inl rfl)) (lk1_n (lk1_n l2 (by decide) (Or.inl rfl)) (by decide) (Or.inl rfl)) (lk1_n (lk1_n l3 (by decide) (Or.inl rfl)) (by decide) (Or.inl rfl)) (lk1_n lk1_s (by decide) (Or.inl rfl)) lk1_s
  refine x_iconst 1 hK rfl rfl ?_
  refine x_istore 3 hK rfl rfl [(4, .int (I 1)), (0, .int (I a)), (1, .int (I x)), (2, .int (I y)), (3, .int (I v))] rfl ?_
  refine x_iconst 4 hK rfl rfl ?_
  refine x_istore 6 hK rfl rfl [(5, .int (I 0)), (4, .int (I 1)), (0, .int (I a)), (1, .int (I x)), (2, .int (I y)), (3, .int (I v))] rfl ?_
  exact loop _ 1 0 _ rfl (by omega) (rfl) rfl rfl rfl rfl rfl rfl
theorem and_no {p q : Bool} (h : b2i p = 0 ∨ b2i q = 0) : (p && q) = false := by cases p <;> cases q <;> simp_all [b2i]
theorem and_ye {p q : Bool} (h : ¬ b2i p = 0) (h' : ¬ b2i q = 0) : (p && q) = true := by cases p <;> cases q <;> simp_all [b2i]
set_option maxRecDepth 4000 in
theorem ctX11_mutiny {SP : CT} (hSP : MONO SP) {sh : List (Nat × Nat)} {h : aH} (hG : GD gE gRL sh h) {a b v : Int} (ra : r32 a) (rb : r32 b) (rv : r32 v) : CLd SP 5 mX11_mutiny [.ref 171, .int (I a), .int (I b), .int (I v)] h 0 0 (fun rv h' => ((((1 ≤ a ∧ a ≤ 20) ∧ (1 ≤ b ∧ b ≤ 20) ∧ 1 ≤ v ∧ v ≤ 18) ∧ rv = some (.int (I ((mtX a b v (min 9 a + 1).toNat).length : Nat))) ∧ mrow h' = mtR (mtX a b v (min 9 a + 1).toNat)) ∨ (¬ ((1 ≤ a ∧ a ≤ 20) ∧ (1 ≤ b ∧ b ≤ 20) ∧ 1 ≤ v ∧ v ≤ 18) ∧ rv = some (.int (I (-1))) ∧ mrow h' = mrow h)) ∧ GD gE gRL sh h' ∧ FRM gRL [(0, 54, 0, 0), (0, 54, 1, 1), (1, 55, 0, 39)] h h' ∧ gi h' 171 0 = 0) := by
  refine x_met _ rfl (Nat.le_of_ble_eq_true rfl) (fun K hK => ?_)
  have hmono := MONO_CLd hSP 4
  have loopX : ∀ (mz : Nat) (f x : Int) (h3 : aH) (ls : List (Nat × Value)), ((min 9 a + 1 - x).toNat = mz) → ((1 ≤ a ∧ a ≤ 20) ∧ (1 ≤ b ∧ b ≤ 20) ∧ 1 ≤ v ∧ v ≤ 18) → (0 ≤ x ∧ x ≤ min 9 a + 1) → (f = ((mtX a b v x.toNat).length : Nat)) → (gi h3 171 0 = 0) → (gi h3 171 1 ≤ 2 ∧ (f = 0 → gi h3 171 1 = 0)) → (mrow h3 = mtR (mtX a b v x.toNat)) → lk ls 0 = some (.ref 171) → lk ls 1 = some (.int (I a)) → lk ls 2 = some (.int (I b)) → lk ls 3 = some (.int (I v)) → lk ls 4 = some (.int (I f)) → lk ls 5 = some (.int (I x)) → GD gE gRL sh h3 → FRM gRL [(0, 54, 0, 0), (0, 54, 1, 1), (1, 55, 0, 39)] h h3 → K 54 ls [] h3 0 0 := by
    intro mz
    induction mz using Nat.strongRecOn with
    | ind mz ih =>
    intro f x h3 ls hm q0 x0 fe t3 r3 e3 l0 l1 l2 l3 l4 l5 hG3 hF3
    have ihX := ih
    have lx := mtX_l a b v x.toNat
    have g31 := gri 0 40 hG3 (a := 171) (r := 54) (k := 1) rfl rfl
    have loopY : ∀ (mz : Nat) (f y : Int) (h4 : aH) (ls : List (Nat × Value)), ((min 9 b + 1 - y).toNat = mz) → (x ≤ min 9 a) → (0 ≤ y ∧ y ≤ min 9 b + 1) → (f = ((mtX a b v x.toNat ++ mtY a b v x.toNat y.toNat).length : Nat)) → (gi h4 171 0 = 0) → (gi h4 171 1 ≤ 2 ∧ (f = 0 → gi h4 171 1 = 0)) → (mrow h4 = mtR (mtX a b v x.toNat ++ mtY a b v x.toNat y.toNat)) → lk ls 0 = some (.ref 171) → lk ls 1 = some (.int (I a)) → lk ls 2 = some (.int (I b)) → lk ls 3 = some (.int (I v)) → lk ls 4 = some (.int (I f)) → lk ls 5 = some (.int (I x)) → lk ls 6 = some (.int (I y)) → GD gE gRL sh h4 → FRM gRL [(0, 54, 0, 0), (0, 54, 1, 1), (1, 55, 0, 39)] h h4 → K 68 ls [] h4 0 0 := by
      intro mz
      induction mz using Nat.strongRecOn with
      | ind mz ih =>
      intro f y h4 ls hm x1 y0 fe t4 r4 e4 l0 l1 l2 l3 l4 l5 l6 hG4 hF4
      have ly := mtY_l a b v x.toNat y.toNat
      have fl : (mtX a b v x.toNat ++ mtY a b v x.toNat y.toNat).length ≤ 110 := by rw [List.length_append]; omega
      have g41 := gri 0 40 hG4 (a := 171) (r := 54) (k := 1) rfl rfl
      have ys : ∀ c : Bool, mtOk a b v x.toNat y.toNat = c → (mtX a b v x.toNat ++ mtY a b v x.toNat (y + 1).toNat) = (mtX a b v x.toNat ++ mtY a b v x.toNat y.toNat) ++ if c then [(x, y)] else [] := by
        intro c hc
        rw [tn_s y0.1]
        show mtX a b v x.toNat ++ (mtY a b v x.toNat y.toNat ++ if mtOk a b v x.toNat y.toNat then [((x.toNat : Int), (y.toNat : Int))] else []) = _
        rw [hc, tn_c x0.1, tn_c y0.1, List.append_assoc]
      have ok : mtOk a b v x.toNat y.toNat = (rst a x y v && rst b y x v) := by show (rst a (x.toNat : Int) (y.toNat : Int) v && rst b (y.toNat : Int) (x.toNat : Int) v) = _; rw [tn_c x0.1, tn_c y0.1]
      refine x_iload 70 hK rfl rfl l6 ?_
      refine x_bipush 72 hK rfl rfl rfl ?_
      refine x_iload_n 73 hK rfl rfl l2 ?_
      refine x_min 76 hK rfl rfl (Nat.le_of_ble_eq_true rfl) (by omega) (by omega) ?_
      refine x_if_icmp_gt 131 79 hK rfl rfl rfl (by omega) (by omega) (fun c5 => ?_) (fun c5 => ?_)
      · obtain rfl : y = min 9 b + 1 := by omega
        refine x_iinc 134 hK rfl rfl l5 _ rfl ?_
        refine x_goto 54 hK rfl rfl ?_
        exact ihX _ (by omega) f (x + 1) _ _ rfl (q0) (by omega) (by rw [tn_s x0.1]; exact fe) (t4) (r4) (by rw [tn_s x0.1]; exact e4) (lk1_n l0 (by decide) (Or.inl rfl)) (lk1_n l1 (by decide) (Or.inl rfl)) (lk1_n l2 (by decide) (Or.inl rfl)) (lk1_n l3 (by decide) (Or.inl rfl)) (lk1_n l4 (by decide) (Or.inl rfl)) lk1_s (hG4) (hF4)
      · refine x_iload_n 80 hK rfl rfl l1 ?_
        refine x_iload 82 hK rfl rfl l5 ?_
        refine x_iload 84 hK rfl rfl l6 ?_
        refine x_iload_n 85 hK rfl rfl l3 ?_
        refine x_callS 88 hK hmono rfl (Or.inl rfl) rfl [.int (I a), .int (I x), .int (I y), .int (I v)] [] rfl rfl (Nat.le_of_ble_eq_true rfl) (Nat.le_of_ble_eq_true rfl) (CLd_le (Nat.le_of_ble_eq_true rfl) (ctX11_isRest hSP (by omega) (by omega) (by omega) (by omega))) ?_
        rintro v9 h9 ⟨e9, rfl⟩
        rw [e9]
        clear e9
        have rb22 := b2i_r (rst a x y v)
        refine x_if_eq 125 91 hK rfl rfl rfl (by omega) (fun c15 => ?_) (fun c15 => ?_)
        · refine x_iinc 128 hK rfl rfl l6 _ rfl ?_
          refine x_goto 68 hK rfl rfl ?_
          have ys0 := ys false (by rw [ok]; exact and_no (by first | exact Or.inl (by omega) | exact Or.inr (by omega)))
          rw [show (if false = true then [(x, y)] else []) = ([] : List (Int × Int)) from rfl, List.append_nil] at ys0
          exact ih _ (by omega) f (y + 1) _ _ rfl (by omega) (by omega) (by rw [ys0]; exact fe) (t4) (r4) (by rw [ys0]; exact e4) (lk1_n l0 (by decide) (Or.inl rfl)) (lk1_n l1 (by decide) (Or.inl rfl)) (lk1_n l2 (by decide) (Or.inl rfl)) (lk1_n l3 (by decide) (Or.inl rfl)) (lk1_n l4 (by decide) (Or.inl rfl)) (lk1_n l5 (by decide) (Or.inl rfl)) lk1_s (hG4) (hF4)
        · refine x_iload_n 92 hK rfl rfl l2 ?_
          refine x_iload 94 hK rfl rfl l6 ?_
          refine x_iload 96 hK rfl rfl l5 ?_
          refine x_iload_n 97 hK rfl rfl l3 ?_
          refine x_callS 100 hK hmono rfl (Or.inl rfl) rfl [.int (I b), .int (I y), .int (I x), .int (I v)] [] rfl rfl (Nat.le_of_ble_eq_true rfl) (Nat.le_of_ble_eq_true rfl) (CLd_le (Nat.le_of_ble_eq_true rfl) (ctX11_isRest hSP (by omega) (by omega) (by omega) (by omega))) ?_
          rintro v9 h9 ⟨e9, rfl⟩
          rw [e9]
          clear e9
          have rb23 := b2i_r (rst b y x v)
          refine x_if_eq 125 103 hK rfl rfl rfl (by omega) (fun c24 => ?_) (fun c24 => ?_)
          · refine x_iinc 128 hK rfl rfl l6 _ rfl ?_
            refine x_goto 68 hK rfl rfl ?_
            have ys0 := ys false (by rw [ok]; exact and_no (by first | exact Or.inl (by omega) | exact Or.inr (by omega)))
            rw [show (if false = true then [(x, y)] else []) = ([] : List (Int × Int)) from rfl, List.append_nil] at ys0
            exact ih _ (by omega) f (y + 1) _ _ rfl (by omega) (by omega) (by rw [ys0]; exact fe) (t4) (r4) (by rw [ys0]; exact e4) (lk1_n l0 (by decide) (Or.inl rfl)) (lk1_n l1 (by decide) (Or.inl rfl)) (lk1_n l2 (by decide) (Or.inl rfl)) (lk1_n l3 (by decide) (Or.inl rfl)) (lk1_n l4 (by decide) (Or.inl rfl)) (lk1_n l5 (by decide) (Or.inl rfl)) lk1_s (hG4) (hF4)
          · by_cases fz : f = 0
            · have lz : (mtX a b v x.toNat ++ mtY a b v x.toNat y.toNat) = [] := len0.mp (by omega)
              have ez : mrow h4 = [] := by rw [e4, lz]; rfl
              refine x_iload 105 hK rfl rfl l4 ?_
              refine x_if_ne 122 108 hK rfl rfl rfl (by omega) (fun c => by omega) (fun _ => ?_)
              refine x_aload_n 109 hK rfl rfl l0 ?_
              refine x_iload 111 hK rfl rfl l5 ?_
              refine x_i2l 112 hK rfl rfl (by omega) ?_
              have z25 : gi h4 171 1 = 0 := (r4.2 fz)
              have z25r : mrow h4 = [] := ez
              refine x_callV 115 hK hmono rfl rfl [.ref 171, .long (J x)] [] rfl rfl (Nat.le_of_ble_eq_true rfl) (Nat.le_of_ble_eq_true rfl) rfl (sp_171 (h := h4) hG4) (CLd_le (Nat.le_of_ble_eq_true rfl) (ctX11_entersF hSP hG4 (by omega) (by omega))) ?_
              rintro v24 h24 ⟨rfl, hG24, hF24, t24, s24⟩
              rw [z25] at t24
              rw [z25r] at s24
              replace t24 : gi h24 171 1 = 1 := t24
              change mrow h24 = [x] at s24
              refine x_aload_n 116 hK rfl rfl l0 ?_
              refine x_iload 118 hK rfl rfl l6 ?_
              refine x_i2l 119 hK rfl rfl (by omega) ?_
              have z27 : gi h24 171 1 = 1 := t24
              have z27r : mrow h24 = [x] := s24
              refine x_callV 122 hK hmono rfl rfl [.ref 171, .long (J y)] [] rfl rfl (Nat.le_of_ble_eq_true rfl) (Nat.le_of_ble_eq_true rfl) rfl (sp_171 (h := h24) hG24) (CLd_le (Nat.le_of_ble_eq_true rfl) (ctX11_entersF hSP hG24 (by omega) (by omega))) ?_
              rintro v26 h26 ⟨rfl, hG26, hF26, t26, s26⟩
              rw [z27] at t26
              rw [z27r] at s26
              replace t26 : gi h26 171 1 = 2 := t26
              change mrow h26 = [x, y] at s26
              refine x_iinc 125 hK rfl rfl l4 _ rfl ?_
              refine x_iinc 128 hK rfl rfl (lk1_n l6 (by decide) (Or.inl rfl)) _ rfl ?_
              refine x_goto 68 hK rfl rfl ?_
              have ys1 := ys true (by rw [ok]; exact and_ye (by omega) (by omega))
              rw [if_pos rfl] at ys1
              have ne : (mtX a b v x.toNat ++ mtY a b v x.toNat y.toNat) = [] := len0.mp (by omega)
              rw [ne, List.nil_append] at ys1
              exact ih _ (by omega) (f + 1) (y + 1) _ _ rfl (by omega) (by omega) (by rw [ys1, fz]; rfl) ((FRM_gi hF26 (r := 54) rfl rfl).trans ((FRM_gi hF24 (r := 54) rfl rfl).trans (t4))) (by rw [show gi h26 171 1 = _ from t26]; exact ⟨by omega, fun z => by omega⟩) (by rw [ys1]; exact s26) (lk1_n (lk1_n l0 (by decide) (Or.inl rfl)) (by decide) (Or.inl rfl)) (lk1_n (lk1_n l1 (by decide) (Or.inl rfl)) (by decide) (Or.inl rfl)) (lk1_n (lk1_n l2 (by decide) (Or.inl rfl)) (by decide) (Or.inl rfl)) (lk1_n (lk1_n l3 (by decide) (Or.inl rfl)) (by decide) (Or.inl rfl)) (lk1_n lk1_s (by decide) (Or.inl rfl)) (lk1_n (lk1_n l5 (by decide) (Or.inl rfl)) (by decide) (Or.inl rfl)) lk1_s (hG26) (((hF4).trans ((hF24).mono rfl)).trans ((hF26).mono rfl))
            · refine x_iload 105 hK rfl rfl l4 ?_
              refine x_if_ne 122 108 hK rfl rfl rfl (by omega) (fun _ => ?_) (fun c => by omega)
              refine x_iinc 125 hK rfl rfl l4 _ rfl ?_
              refine x_iinc 128 hK rfl rfl (lk1_n l6 (by decide) (Or.inl rfl)) _ rfl ?_
              refine x_goto 68 hK rfl rfl ?_
              have ys1 := ys true (by rw [ok]; exact and_ye (by omega) (by omega))
              rw [if_pos rfl] at ys1
              have ne : (mtX a b v x.toNat ++ mtY a b v x.toNat y.toNat) ≠ [] := fun z => by rw [z] at fe; exact absurd fe (by simpa using fz)
              exact ih _ (by omega) (f + 1) (y + 1) _ _ rfl (by omega) (by omega) (by rw [ys1, List.length_append, fe]; simp) (t4) (⟨r4.1, fun z => by omega⟩) (by rw [ys1, mtR_a ne]; exact e4) (lk1_n (lk1_n l0 (by decide) (Or.inl rfl)) (by decide) (Or.inl rfl)) (lk1_n (lk1_n l1 (by decide) (Or.inl rfl)) (by decide) (Or.inl rfl)) (lk1_n (lk1_n l2 (by decide) (Or.inl rfl)) (by decide) (Or.inl rfl)) (lk1_n (lk1_n l3 (by decide) (Or.inl rfl)) (by decide) (Or.inl rfl)) (lk1_n lk1_s (by decide) (Or.inl rfl)) (lk1_n (lk1_n l5 (by decide) (Or.inl rfl)) (by decide) (Or.inl rfl)) lk1_s (hG4) (hF4)
    refine x_iload 56 hK rfl rfl l5 ?_
    refine x_bipush 58 hK rfl rfl rfl ?_
    refine x_iload_n 59 hK rfl rfl l1 ?_
    refine x_min 62 hK rfl rfl (Nat.le_of_ble_eq_true rfl) (by omega) (by omega) ?_
    refine x_if_icmp_gt 137 65 hK rfl rfl rfl (by omega) (by omega) (fun c5 => ?_) (fun c5 => ?_)
    · refine x_iload 139 hK rfl rfl l4 ?_
      obtain rfl : x = min 9 a + 1 := by omega
      exact x_iret hK rfl ⟨Or.inl ⟨q0, by rw [fe], e3⟩, hG3, hF3, t3⟩
    · refine x_iconst 66 hK rfl rfl ?_
      refine x_istore 68 hK rfl rfl _ rfl ?_
      exact loopY _ f 0 _ _ rfl (by omega) (by omega) (by rw [fe]; simp [mtY]) (t3) (r3) (by rw [e3]; simp [mtY]) (lk1_n l0 (by decide) (Or.inl rfl)) (lk1_n l1 (by decide) (Or.inl rfl)) (lk1_n l2 (by decide) (Or.inl rfl)) (lk1_n l3 (by decide) (Or.inl rfl)) (lk1_n l4 (by decide) (Or.inl rfl)) (lk1_n l5 (by decide) (Or.inl rfl)) lk1_s (hG3) (hF3)
  refine x_aload_n 1 hK rfl rfl rfl ?_
  refine x_iconst 2 hK rfl rfl ?_
  refine x_putI 5 hK rfl rfl (sp_171 (h := h) hG) ?_
  refine x_iload_n 6 hK rfl rfl rfl ?_
  refine x_i2l 7 hK rfl rfl (by omega) ?_
  refine x_lconstE 8 1 hK rfl rfl rfl ?_
  refine x_ldc2_w 11 hK rfl rfl ?_
  have hGp28 : GD gE gRL sh (wI h 171 0 0) := GD_w1 (hG) (r := 54) rfl (by omega) rfl (by omega) (by omega)
  refine x_callS 14 hK hmono rfl (Or.inl rfl) rfl [.long (J a), .long (J 1), .long (J 20)] [] rfl rfl (Nat.le_of_ble_eq_true rfl) (Nat.le_of_ble_eq_true rfl) (CLd_le (Nat.le_of_ble_eq_true rfl) (ctX11_in (by omega) (by omega) (by omega))) ?_
  rintro v9 h9 ⟨e9, ⟨rfl, i129, i229⟩ | ⟨rfl, i129⟩⟩ <;> rw [e9] <;> clear e9
  · refine x_if_eq 41 17 hK rfl rfl rfl (by omega) (fun c => by omega) (fun _ => ?_)
    refine x_iload_n 18 hK rfl rfl rfl ?_
    refine x_i2l 19 hK rfl rfl (by omega) ?_
    refine x_lconstE 20 1 hK rfl rfl rfl ?_
    refine x_ldc2_w 23 hK rfl rfl ?_
    have hGp30 : GD gE gRL sh (wI h 171 0 0) := GD_w1 (hG) (r := 54) rfl (by omega) rfl (by omega) (by omega)
    refine x_callS 26 hK hmono rfl (Or.inl rfl) rfl [.long (J b), .long (J 1), .long (J 20)] [] rfl rfl (Nat.le_of_ble_eq_true rfl) (Nat.le_of_ble_eq_true rfl) (CLd_le (Nat.le_of_ble_eq_true rfl) (ctX11_in (by omega) (by omega) (by omega))) ?_
    rintro v9 h9 ⟨e9, ⟨rfl, i131, i231⟩ | ⟨rfl, i131⟩⟩ <;> rw [e9] <;> clear e9
    · refine x_if_eq 41 29 hK rfl rfl rfl (by omega) (fun c => by omega) (fun _ => ?_)
      refine x_iload_n 30 hK rfl rfl rfl ?_
      refine x_i2l 31 hK rfl rfl (by omega) ?_
      refine x_lconstE 32 1 hK rfl rfl rfl ?_
      refine x_ldc2_w 35 hK rfl rfl ?_
      have hGp32 : GD gE gRL sh (wI h 171 0 0) := GD_w1 (hG) (r := 54) rfl (by omega) rfl (by omega) (by omega)
      refine x_callS 38 hK hmono rfl (Or.inl rfl) rfl [.long (J v), .long (J 1), .long (J 18)] [] rfl rfl (Nat.le_of_ble_eq_true rfl) (Nat.le_of_ble_eq_true rfl) (CLd_le (Nat.le_of_ble_eq_true rfl) (ctX11_in (by omega) (by omega) (by omega))) ?_
      rintro v9 h9 ⟨e9, ⟨rfl, i133, i233⟩ | ⟨rfl, i133⟩⟩ <;> rw [e9] <;> clear e9
      · refine x_if_ne 43 41 hK rfl rfl rfl (by omega) (fun _ => ?_) (fun c => by omega)
        refine x_iconst 44 hK rfl rfl ?_
        refine x_istore 46 hK rfl rfl [(4, .int (I 0)), (0, .ref 171), (1, .int (I a)), (2, .int (I b)), (3, .int (I v))] rfl ?_
        refine x_aload_n 47 hK rfl rfl rfl ?_
        refine x_iconst 48 hK rfl rfl ?_
        refine x_putI 51 hK rfl rfl (sp_171 (h := h) hG) ?_
        refine x_iconst 52 hK rfl rfl ?_
        refine x_istore 54 hK rfl rfl [(5, .int (I 0)), (4, .int (I 0)), (0, .ref 171), (1, .int (I a)), (2, .int (I b)), (3, .int (I v))] rfl ?_
        exact loopX _ 0 0 _ _ rfl (by omega) (by omega) (rfl) ((gi_k (by decide) _).trans (gi_same (by omega))) (by rw [show gi (wI (wI h 171 0 0) 171 1 0) 171 1 = _ from gi_same (by omega)]; exact ⟨by omega, fun _ => rfl⟩) (mrow_0 (gi_same (by omega))) rfl rfl rfl rfl rfl rfl (GD_w1 (GD_w1 (hG) (r := 54) rfl (by omega) rfl (by omega) (by omega)) (r := 54) rfl (by omega) rfl (by omega) (by omega)) (FRM_w (FRM_w ((FRM.rf : FRM gRL [(0, 54, 0, 0), (0, 54, 1, 1), (1, 55, 0, 39)] h h)) (r := 54) rfl rfl) (r := 54) rfl rfl)
      · refine x_if_ne 43 41 hK rfl rfl rfl (by omega) (fun c => by omega) (fun _ => ?_)
        refine x_iconst 42 hK rfl rfl ?_
        exact x_iret hK rfl ⟨Or.inr ⟨by omega, rfl, mrow_k (by decide)⟩, GD_w1 (hG) (r := 54) rfl (by omega) rfl (by omega) (by omega), FRM_w ((FRM.rf : FRM gRL [(0, 54, 0, 0), (0, 54, 1, 1), (1, 55, 0, 39)] h h)) (r := 54) rfl rfl, gi_same (by omega)⟩
    · refine x_if_eq 41 29 hK rfl rfl rfl (by omega) (fun _ => ?_) (fun c => by omega)
      refine x_iconst 42 hK rfl rfl ?_
      exact x_iret hK rfl ⟨Or.inr ⟨by omega, rfl, mrow_k (by decide)⟩, GD_w1 (hG) (r := 54) rfl (by omega) rfl (by omega) (by omega), FRM_w ((FRM.rf : FRM gRL [(0, 54, 0, 0), (0, 54, 1, 1), (1, 55, 0, 39)] h h)) (r := 54) rfl rfl, gi_same (by omega)⟩
  · refine x_if_eq 41 17 hK rfl rfl rfl (by omega) (fun _ => ?_) (fun c => by omega)
    refine x_iconst 42 hK rfl rfl ?_
    exact x_iret hK rfl ⟨Or.inr ⟨by omega, rfl, mrow_k (by decide)⟩, GD_w1 (hG) (r := 54) rfl (by omega) rfl (by omega) (by omega), FRM_w ((FRM.rf : FRM gRL [(0, 54, 0, 0), (0, 54, 1, 1), (1, 55, 0, 39)] h h)) (r := 54) rfl rfl, gi_same (by omega)⟩
set_option maxRecDepth 4000 in
theorem ctX11_clears {SP : CT} (hSP : MONO SP) {sh : List (Nat × Nat)} {h : aH} (hG : GD gE gRL sh h) (hX : XI h) (hn : 0 ≤ gi h 178 0 ∧ gi h 178 0 ≤ 2147480000) : CLd SP 20 mX11_clears [.ref 171] h 0 0 (fun rv h' => (∃ e, rv = some (.int (I e))) ∧ GD gE gRL sh h' ∧ FRM gRL [(0, 54, 0, 0), (0, 54, 1, 1), (0, 67, 0, 79), (0, 68, 0, 3), (1, 55, 0, 39)] h h' ∧ gi h' 171 0 = 0 ∧ gi h' 171 1 = 1) := by
  refine x_met _ rfl (Nat.le_of_ble_eq_true rfl) (fun K hK => ?_)
  have hmono := MONO_CLd hSP 19
  have gn := gi_r h 178 0
  have loopB : ∀ (mz : Nat) (far ahd bits lan t : Int) (h4 : aH) (ls : List (Nat × Value)), ((far + 1 - t).toNat = mz) → (0 ≤ far ∧ far ≤ 999) → (r32 ahd) → (r32 bits) → (r32 lan) → (1 ≤ t ∧ t ≤ far + 1) → (gi h4 171 0 = 0) → lk ls 0 = some (.ref 171) → lk ls 1 = some (.int (I far)) → lk ls 2 = some (.int (I ahd)) → lk ls 3 = some (.int (I bits)) → lk ls 4 = some (.int (I lan)) → lk ls 5 = some (.int (I t)) → GD gE gRL sh h4 → FRM gRL [(0, 54, 0, 0), (0, 54, 1, 1), (0, 67, 0, 79), (0, 68, 0, 3), (1, 55, 0, 39)] h h4 → K 104 ls [] h4 0 0 := by
    intro mz
    induction mz using Nat.strongRecOn with
    | ind mz ih =>
    intro far ahd bits lan t h4 ls hm rf ra rb rl t0 t4 l0 l1 l2 l3 l4 l5 hG4 hF4
    have ihB := ih
    have loopD : ∀ (mz : Nat) (bits lan r : Int) (h6 : aH) (ls : List (Nat × Value)), ((gi h 171 6 - r).toNat = mz) → (r32 bits) → (r32 lan) → (0 ≤ r ∧ r ≤ gi h 171 6) → (t ≤ far) → (gi h6 171 0 = 0) → lk ls 0 = some (.ref 171) → lk ls 1 = some (.int (I far)) → lk ls 2 = some (.int (I ahd)) → lk ls 3 = some (.int (I bits)) → lk ls 4 = some (.int (I lan)) → lk ls 5 = some (.int (I t)) → lk ls 6 = some (.int (I r)) → GD gE gRL sh h6 → FRM gRL [(0, 54, 0, 0), (0, 54, 1, 1), (0, 67, 0, 79), (0, 68, 0, 3), (1, 55, 0, 39)] h h6 → K 180 ls [] h6 0 0 := by
      intro mz
      induction mz using Nat.strongRecOn with
      | ind mz ih =>
      intro bits lan r h6 ls hm rb rl r0 tt t6 l0 l1 l2 l3 l4 l5 l6 hG6 hF6
      have g6 := gri 0 16 hG (a := 171) (r := 54) (k := 6) rfl rfl
      refine x_iload 182 hK rfl rfl l6 ?_
      refine x_aload_n 183 hK rfl rfl l0 ?_
      have g34 := gri (0) (16) hG (a := 171) (r := 54) (k := 6) rfl rfl
      refine x_getE 186 hK rfl (Or.inl rfl) rfl (sp_171 (h := h6) hG6) (e := (gi h 171 6)) (FRM_gi hF6 (r := 54) rfl rfl) ?_
      refine x_if_icmp_ge 254 189 hK rfl rfl rfl (by omega) (by omega) (fun c4 => ?_) (fun c4 => ?_)
      · refine x_iinc 257 hK rfl rfl l5 _ rfl ?_
        refine x_goto 104 hK rfl rfl ?_
        exact ihB _ (by omega) far ahd bits lan (t + 1) _ _ rfl (by omega) (by omega) (by omega) (by omega) (by omega) (t6) (lk1_n l0 (by decide) (Or.inl rfl)) (lk1_n l1 (by decide) (Or.inl rfl)) (lk1_n l2 (by decide) (Or.inl rfl)) (lk1_n l3 (by decide) (Or.inl rfl)) (lk1_n l4 (by decide) (Or.inl rfl)) lk1_s (hG6) (hF6)
      · refine x_aload_n 190 hK rfl rfl l0 ?_
        refine x_getR 193 hK rfl rfl (sp_171 (h := h6) hG6) (rf_171_11 (h := h6) hG6) ?_
        refine x_iload 195 hK rfl rfl l6 ?_
        have g35 := grn (0) (999) hG (a := 175) (r := 58) (k := r.toNat) rfl rfl (by omega)
        refine x_ialoadE 196 hK rfl rfl (sp_175 (h := h6) hG6) (by omega) (by omega) (by omega) (e' := (gi h 175 r.toNat)) (FRM_gi hF6 (r := 58) rfl rfl) ?_
        refine x_aload_n 197 hK rfl rfl l0 ?_
        refine x_getR 200 hK rfl rfl (sp_171 (h := h6) hG6) (rf_171_14 (h := h6) hG6) ?_
        refine x_iconst 201 hK rfl rfl ?_
        have g36 := gi_r h 178 0
        refine x_ialoadE 202 hK rfl rfl (sp_178 (h := h6) hG6) (by omega) (by omega) (by omega) (e' := (gi h 178 0)) (FRM_gi hF6 (r := 61) rfl rfl) ?_
        refine x_iload 204 hK rfl rfl l5 ?_
        refine x_iadd 205 hK rfl rfl ?_
        refine x_if_icmp_ne 212 208 hK rfl rfl rfl (by omega) (by omega) (fun c18 => ?_) (fun c18 => ?_)
        · refine x_iconst 213 hK rfl rfl ?_
          refine x_istore 215 hK rfl rfl _ rfl ?_
          refine x_iload_n 216 hK rfl rfl (lk1_n l3 (by decide) (Or.inl rfl)) ?_
          refine x_iload 218 hK rfl rfl lk1_s ?_
          refine x_if_eq 245 221 hK rfl rfl rfl (by omega) (fun _ => ?_) (fun c => by omega)
          refine x_iconst 246 hK rfl rfl ?_
          refine x_iorX 247 hK rfl rfl (fun q25 rq25 => ?_)
          refine x_istore_n 248 hK rfl rfl _ rfl ?_
          refine x_iinc 251 hK rfl rfl (lk1_n (lk1_n l6 (by decide) (Or.inl rfl)) (by decide) (Or.inl rfl)) _ rfl ?_
          refine x_goto 180 hK rfl rfl ?_
          exact ih _ (by omega) q25 lan (r + 1) _ _ rfl (by omega) (by omega) (by omega) (by omega) (t6) (lk1_n (lk1_n (lk1_n l0 (by decide) (Or.inl rfl)) (by decide) (Or.inl rfl)) (by decide) (Or.inl rfl)) (lk1_n (lk1_n (lk1_n l1 (by decide) (Or.inl rfl)) (by decide) (Or.inl rfl)) (by decide) (Or.inl rfl)) (lk1_n (lk1_n (lk1_n l2 (by decide) (Or.inl rfl)) (by decide) (Or.inl rfl)) (by decide) (Or.inl rfl)) (lk1_n lk1_s (by decide) (Or.inl rfl)) (lk1_n (lk1_n (lk1_n l4 (by decide) (Or.inl rfl)) (by decide) (Or.inl rfl)) (by decide) (Or.inl rfl)) (lk1_n (lk1_n (lk1_n l5 (by decide) (Or.inl rfl)) (by decide) (Or.inl rfl)) (by decide) (Or.inl rfl)) lk1_s (hG6) (hF6)
        · refine x_iconst 209 hK rfl rfl ?_
          refine x_goto 213 hK rfl rfl ?_
          refine x_istore 215 hK rfl rfl _ rfl ?_
          refine x_iload_n 216 hK rfl rfl (lk1_n l3 (by decide) (Or.inl rfl)) ?_
          refine x_iload 218 hK rfl rfl lk1_s ?_
          refine x_if_eq 245 221 hK rfl rfl rfl (by omega) (fun c => by omega) (fun _ => ?_)
          refine x_iload 223 hK rfl rfl (lk1_n l4 (by decide) (Or.inl rfl)) ?_
          refine x_iconst 224 hK rfl rfl ?_
          refine x_aload_n 225 hK rfl rfl (lk1_n l0 (by decide) (Or.inl rfl)) ?_
          refine x_getR 228 hK rfl rfl (sp_171 (h := h6) hG6) (rf_171_12 (h := h6) hG6) ?_
          refine x_iload 230 hK rfl rfl (lk1_n l6 (by decide) (Or.inl rfl)) ?_
          have g37 := gi_r h 176 r.toNat
          refine x_ialoadE 231 hK rfl rfl (sp_176 (h := h6) hG6) (by omega) (by omega) (by omega) (e' := (gi h 176 r.toNat)) (FRM_gi hF6 (r := 59) rfl rfl) ?_
          refine x_ishlX 232 hK rfl rfl (fun q42 rq42 => ?_)
          refine x_iconst 233 hK rfl rfl ?_
          refine x_ixorX 234 hK rfl rfl (fun q44 rq44 => ?_)
          refine x_iandX 235 hK rfl rfl (fun q45 rq45 => ?_)
          refine x_if_eq 245 238 hK rfl rfl rfl (by omega) (fun c46 => ?_) (fun c46 => ?_)
          · refine x_iconst 246 hK rfl rfl ?_
            refine x_iorX 247 hK rfl rfl (fun q48 rq48 => ?_)
            refine x_istore_n 248 hK rfl rfl _ rfl ?_
            refine x_iinc 251 hK rfl rfl (lk1_n (lk1_n l6 (by decide) (Or.inl rfl)) (by decide) (Or.inl rfl)) _ rfl ?_
            refine x_goto 180 hK rfl rfl ?_
            exact ih _ (by omega) q48 lan (r + 1) _ _ rfl (by omega) (by omega) (by omega) (by omega) (t6) (lk1_n (lk1_n (lk1_n l0 (by decide) (Or.inl rfl)) (by decide) (Or.inl rfl)) (by decide) (Or.inl rfl)) (lk1_n (lk1_n (lk1_n l1 (by decide) (Or.inl rfl)) (by decide) (Or.inl rfl)) (by decide) (Or.inl rfl)) (lk1_n (lk1_n (lk1_n l2 (by decide) (Or.inl rfl)) (by decide) (Or.inl rfl)) (by decide) (Or.inl rfl)) (lk1_n lk1_s (by decide) (Or.inl rfl)) (lk1_n (lk1_n (lk1_n l4 (by decide) (Or.inl rfl)) (by decide) (Or.inl rfl)) (by decide) (Or.inl rfl)) (lk1_n (lk1_n (lk1_n l5 (by decide) (Or.inl rfl)) (by decide) (Or.inl rfl)) (by decide) (Or.inl rfl)) lk1_s (hG6) (hF6)
          · refine x_iconst 239 hK rfl rfl ?_
            refine x_iload 241 hK rfl rfl (lk1_n l6 (by decide) (Or.inl rfl)) ?_
            refine x_ishlX 242 hK rfl rfl (fun q55 rq55 => ?_)
            refine x_goto 246 hK rfl rfl ?_
            refine x_iorX 247 hK rfl rfl (fun q57 rq57 => ?_)
            refine x_istore_n 248 hK rfl rfl _ rfl ?_
            refine x_iinc 251 hK rfl rfl (lk1_n (lk1_n l6 (by decide) (Or.inl rfl)) (by decide) (Or.inl rfl)) _ rfl ?_
            refine x_goto 180 hK rfl rfl ?_
            exact ih _ (by omega) q57 lan (r + 1) _ _ rfl (by omega) (by omega) (by omega) (by omega) (t6) (lk1_n (lk1_n (lk1_n l0 (by decide) (Or.inl rfl)) (by decide) (Or.inl rfl)) (by decide) (Or.inl rfl)) (lk1_n (lk1_n (lk1_n l1 (by decide) (Or.inl rfl)) (by decide) (Or.inl rfl)) (by decide) (Or.inl rfl)) (lk1_n (lk1_n (lk1_n l2 (by decide) (Or.inl rfl)) (by decide) (Or.inl rfl)) (by decide) (Or.inl rfl)) (lk1_n lk1_s (by decide) (Or.inl rfl)) (lk1_n (lk1_n (lk1_n l4 (by decide) (Or.inl rfl)) (by decide) (Or.inl rfl)) (by decide) (Or.inl rfl)) (lk1_n (lk1_n (lk1_n l5 (by decide) (Or.inl rfl)) (by decide) (Or.inl rfl)) (by decide) (Or.inl rfl)) lk1_s (hG6) (hF6)
    have loopC : ∀ (mz : Nat) (lan k : Int) (h5 : aH) (ls : List (Nat × Value)), ((t - k).toNat = mz) → (r32 lan) → (0 ≤ k ∧ k ≤ t) → (t ≤ far) → (gi h5 171 0 = 0) → lk ls 0 = some (.ref 171) → lk ls 1 = some (.int (I far)) → lk ls 2 = some (.int (I ahd)) → lk ls 3 = some (.int (I bits)) → lk ls 4 = some (.int (I lan)) → lk ls 5 = some (.int (I t)) → lk ls 6 = some (.int (I k)) → GD gE gRL sh h5 → FRM gRL [(0, 54, 0, 0), (0, 54, 1, 1), (0, 67, 0, 79), (0, 68, 0, 3), (1, 55, 0, 39)] h h5 → K 131 ls [] h5 0 0 := by
      intro mz
      induction mz using Nat.strongRecOn with
      | ind mz ih =>
      intro lan k h5 ls hm rl k0 tt t5 l0 l1 l2 l3 l4 l5 l6 hG5 hF5
      refine x_iload 133 hK rfl rfl l6 ?_
      refine x_iload 135 hK rfl rfl l5 ?_
      refine x_if_icmp_ge 177 138 hK rfl rfl rfl (by omega) (by omega) (fun c3 => ?_) (fun c3 => ?_)
      · refine x_iconst 178 hK rfl rfl ?_
        refine x_istore 180 hK rfl rfl _ rfl ?_
        have g6 := gri 0 16 hG (a := 171) (r := 54) (k := 6) rfl rfl
        exact loopD _ bits lan 0 _ _ rfl (by omega) (by omega) (by omega) (by omega) (t5) (lk1_n l0 (by decide) (Or.inl rfl)) (lk1_n l1 (by decide) (Or.inl rfl)) (lk1_n l2 (by decide) (Or.inl rfl)) (lk1_n l3 (by decide) (Or.inl rfl)) (lk1_n l4 (by decide) (Or.inl rfl)) (lk1_n l5 (by decide) (Or.inl rfl)) lk1_s (hG5) (hF5)
      · refine x_iload 140 hK rfl rfl l4 ?_
        refine x_aload_n 141 hK rfl rfl l0 ?_
        refine x_iload 143 hK rfl rfl l6 ?_
        refine x_iload 145 hK rfl rfl l5 ?_
        refine x_callV 148 hK hmono rfl rfl [.ref 171, .int (I k), .int (I t)] [.int (I lan)] rfl rfl (Nat.le_of_ble_eq_true rfl) (Nat.le_of_ble_eq_true rfl) rfl (sp_171 (h := h5) hG5) (CLd_le (Nat.le_of_ble_eq_true rfl) (kX11_comesAt_0 hSP [.ref 171, .int (I k), .int (I t)] _ (xOk_ok rfl _ h5 hF5 hX) ⟨gv_r (by decide) rfl, ⟨_, rfl, i32_lo _, i32_hi _, trivial⟩, ⟨_, rfl, i32_lo _, i32_hi _, trivial⟩, trivial⟩ hG5 gov_n)) ?_
        rintro v38 h38 ⟨hG38, hF38, o38, m38, q38, z38, -⟩
        obtain ⟨w38, rw38, rfl⟩ := int_ans m38 rfl q38
        refine x_if_eq 167 151 hK rfl rfl rfl (by omega) (fun c12 => ?_) (fun c12 => ?_)
        · refine x_iconst 168 hK rfl rfl ?_
          refine x_iorX 169 hK rfl rfl (fun q14 rq14 => ?_)
          refine x_istore 171 hK rfl rfl _ rfl ?_
          refine x_iinc 174 hK rfl rfl (lk1_n l6 (by decide) (Or.inl rfl)) _ rfl ?_
          refine x_goto 131 hK rfl rfl ?_
          exact ih _ (by omega) q14 (k + 1) _ _ rfl (by omega) (by omega) (by omega) ((FRM_gi hF38 (r := 54) rfl rfl).trans (t5)) (lk1_n (lk1_n l0 (by decide) (Or.inl rfl)) (by decide) (Or.inl rfl)) (lk1_n (lk1_n l1 (by decide) (Or.inl rfl)) (by decide) (Or.inl rfl)) (lk1_n (lk1_n l2 (by decide) (Or.inl rfl)) (by decide) (Or.inl rfl)) (lk1_n (lk1_n l3 (by decide) (Or.inl rfl)) (by decide) (Or.inl rfl)) (lk1_n lk1_s (by decide) (Or.inl rfl)) (lk1_n (lk1_n l5 (by decide) (Or.inl rfl)) (by decide) (Or.inl rfl)) lk1_s (hG38) ((hF5).trans ((hF38).mono rfl))
        · refine x_iload 153 hK rfl rfl l4 ?_
          refine x_iconst 154 hK rfl rfl ?_
          refine x_callS 157 hK hmono rfl (Or.inl rfl) rfl [.int (I lan), .int (I (-1))] [.int (I lan)] rfl rfl (Nat.le_of_ble_eq_true rfl) (Nat.le_of_ble_eq_true rfl) (CLd_le (Nat.le_of_ble_eq_true rfl) (kX11_moved_0 hSP [.int (I lan), .int (I (-1))] _ (xOk_ok rfl _ h38 hF38 (xOk_ok rfl _ h5 hF5 hX)) ⟨⟨_, rfl, i32_lo _, i32_hi _, trivial⟩, ⟨_, rfl, i32_lo _, i32_hi _, trivial⟩, trivial⟩ hG38 gov_n)) ?_
          rintro v39 h39 ⟨hG39, hF39, o39, m39, q39, z39, -⟩
          obtain ⟨w39, rw39, rfl⟩ := int_ans m39 rfl q39
          refine x_iload 159 hK rfl rfl l4 ?_
          refine x_iconst 160 hK rfl rfl ?_
          refine x_callS 163 hK hmono rfl (Or.inl rfl) rfl [.int (I lan), .int (I 1)] [.int (I w39), .int (I lan)] rfl rfl (Nat.le_of_ble_eq_true rfl) (Nat.le_of_ble_eq_true rfl) (CLd_le (Nat.le_of_ble_eq_true rfl) (kX11_moved_0 hSP [.int (I lan), .int (I 1)] _ (xOk_ok rfl _ h39 hF39 (xOk_ok rfl _ h38 hF38 (xOk_ok rfl _ h5 hF5 hX))) ⟨⟨_, rfl, i32_lo _, i32_hi _, trivial⟩, ⟨_, rfl, i32_lo _, i32_hi _, trivial⟩, trivial⟩ hG39 gov_n)) ?_
          rintro v40 h40 ⟨hG40, hF40, o40, m40, q40, z40, -⟩
          obtain ⟨w40, rw40, rfl⟩ := int_ans m40 rfl q40
          refine x_iorX 164 hK rfl rfl (fun q25 rq25 => ?_)
          refine x_goto 168 hK rfl rfl ?_
          refine x_iorX 169 hK rfl rfl (fun q27 rq27 => ?_)
          refine x_istore 171 hK rfl rfl _ rfl ?_
          refine x_iinc 174 hK rfl rfl (lk1_n l6 (by decide) (Or.inl rfl)) _ rfl ?_
          refine x_goto 131 hK rfl rfl ?_
          exact ih _ (by omega) q27 (k + 1) _ _ rfl (by omega) (by omega) (by omega) ((FRM_gi hF40 (r := 54) rfl rfl).trans ((FRM_gi hF39 (r := 54) rfl rfl).trans ((FRM_gi hF38 (r := 54) rfl rfl).trans (t5)))) (lk1_n (lk1_n l0 (by decide) (Or.inl rfl)) (by decide) (Or.inl rfl)) (lk1_n (lk1_n l1 (by decide) (Or.inl rfl)) (by decide) (Or.inl rfl)) (lk1_n (lk1_n l2 (by decide) (Or.inl rfl)) (by decide) (Or.inl rfl)) (lk1_n (lk1_n l3 (by decide) (Or.inl rfl)) (by decide) (Or.inl rfl)) (lk1_n lk1_s (by decide) (Or.inl rfl)) (lk1_n (lk1_n l5 (by decide) (Or.inl rfl)) (by decide) (Or.inl rfl)) lk1_s (hG40) ((((hF5).trans ((hF38).mono rfl)).trans ((hF39).mono rfl)).trans ((hF40).mono rfl))
    refine x_iload 106 hK rfl rfl l5 ?_
    refine x_iload_n 107 hK rfl rfl l1 ?_
    refine x_if_icmp_gt 260 110 hK rfl rfl rfl (by omega) (by omega) (fun c3 => ?_) (fun c3 => ?_)
    · refine x_aload_n 261 hK rfl rfl l0 ?_
      refine x_iconst 262 hK rfl rfl ?_
      refine x_putI 265 hK rfl rfl (sp_171 (h := h4) hG4) ?_
      refine x_aload_n 266 hK rfl rfl l0 ?_
      refine x_iload_n 267 hK rfl rfl l2 ?_
      refine x_iload_n 268 hK rfl rfl l3 ?_
      refine x_iconst 269 hK rfl rfl ?_
      refine x_ixorX 270 hK rfl rfl (fun q11 rq11 => ?_)
      refine x_iandX 271 hK rfl rfl (fun q12 rq12 => ?_)
      refine x_i2l 272 hK rfl rfl (by omega) ?_
      have hGp41 : GD gE gRL sh (wI h4 171 1 0) := GD_w1 (hG4) (r := 54) rfl (by omega) rfl (by omega) (by omega)
      have z43 : gi (wI h4 171 1 0) 171 1 = 0 := gi_same (by omega)
      have z43r : mrow (wI h4 171 1 0) = [] := mrow_0 (gi_same (by omega))
      refine x_callV 275 hK hmono rfl rfl [.ref 171, .long (J q12)] [] rfl rfl (Nat.le_of_ble_eq_true rfl) (Nat.le_of_ble_eq_true rfl) rfl (sp_171 (h := h4) hG4) (CLd_le (Nat.le_of_ble_eq_true rfl) (ctX11_entersF hSP hGp41 (by omega) (by omega))) ?_
      rintro v42 h42 ⟨rfl, hG42, hF42, t42, s42⟩
      rw [z43] at t42
      rw [z43r] at s42
      replace t42 : gi h42 171 1 = 1 := t42
      change mrow h42 = [q12] at s42
      refine x_iload_n 276 hK rfl rfl l3 ?_
      have z0 : gi h42 171 0 = 0 := (FRM_gi hF42 (r := 54) rfl rfl).trans ((gi_k (by decide) _).trans (t4))
      have z1 : gi h42 171 1 = 1 := t42
      have zf : FRM gRL [(0, 54, 0, 0), (0, 54, 1, 1), (0, 67, 0, 79), (0, 68, 0, 3), (1, 55, 0, 39)] h h42 := (FRM_w (hF4) (r := 54) rfl rfl).trans ((hF42).mono rfl)
      exact x_iret hK rfl ⟨⟨_, rfl⟩, hG42, zf, z0, z1⟩
    · refine x_aload_n 111 hK rfl rfl l0 ?_
      refine x_iload 113 hK rfl rfl l4 ?_
      refine x_iload 115 hK rfl rfl l5 ?_
      refine x_callV 118 hK hmono rfl rfl [.ref 171, .int (I lan), .int (I t)] [] rfl rfl (Nat.le_of_ble_eq_true rfl) (Nat.le_of_ble_eq_true rfl) rfl (sp_171 (h := h4) hG4) (CLd_le (Nat.le_of_ble_eq_true rfl) (kX11_movedByDue_0 hSP [.ref 171, .int (I lan), .int (I t)] _ (xOk_ok rfl _ h4 hF4 hX) ⟨gv_r (by decide) rfl, ⟨_, rfl, i32_lo _, i32_hi _, trivial⟩, ⟨_, rfl, i32_lo _, i32_hi _, trivial⟩, trivial⟩ hG4 gov_n)) ?_
      rintro v44 h44 ⟨hG44, hF44, o44, m44, q44, z44, -⟩
      obtain ⟨w44, rw44, rfl⟩ := int_ans m44 rfl q44
      refine x_istore 120 hK rfl rfl _ rfl ?_
      refine x_iconst 121 hK rfl rfl ?_
      refine x_iload 123 hK rfl rfl (lk1_n l5 (by decide) (Or.inl rfl)) ?_
      refine x_bipush 125 hK rfl rfl rfl ?_
      refine x_isub 126 hK rfl rfl ?_
      refine x_max 129 hK rfl rfl (Nat.le_of_ble_eq_true rfl) (by omega) (by omega) ?_
      refine x_istore 131 hK rfl rfl _ rfl ?_
      exact loopC _ w44 (max 0 (t - 12)) _ _ rfl (by omega) (by omega) (by omega) ((FRM_gi hF44 (r := 54) rfl rfl).trans (t4)) (lk1_n (lk1_n l0 (by decide) (Or.inl rfl)) (by decide) (Or.inl rfl)) (lk1_n (lk1_n l1 (by decide) (Or.inl rfl)) (by decide) (Or.inl rfl)) (lk1_n (lk1_n l2 (by decide) (Or.inl rfl)) (by decide) (Or.inl rfl)) (lk1_n (lk1_n l3 (by decide) (Or.inl rfl)) (by decide) (Or.inl rfl)) (lk1_n lk1_s (by decide) (Or.inl rfl)) (lk1_n (lk1_n l5 (by decide) (Or.inl rfl)) (by decide) (Or.inl rfl)) lk1_s (hG44) ((hF4).trans ((hF44).mono rfl))
  have loopA : ∀ (mz : Nat) (far ahd r : Int) (ls : List (Nat × Value)), ((gi h 171 6 - r).toNat = mz) → (0 ≤ far ∧ far ≤ 999) → (r32 ahd) → (0 ≤ r ∧ r ≤ gi h 171 6) → lk ls 0 = some (.ref 171) → lk ls 1 = some (.int (I far)) → lk ls 2 = some (.int (I ahd)) → lk ls 3 = some (.int (I r)) → K 11 ls [] (wI h 171 0 0) 0 0 := by
    intro mz
    induction mz using Nat.strongRecOn with
    | ind mz ih =>
    intro far ahd r ls hm rf ra r0 l0 l1 l2 l3
    have g6 := gri 0 16 hG (a := 171) (r := 54) (k := 6) rfl rfl
    refine x_iload_n 12 hK rfl rfl l3 ?_
    refine x_aload_n 13 hK rfl rfl l0 ?_
    have g45 := gri (0) (16) hG (a := 171) (r := 54) (k := 6) rfl rfl
    refine x_getE 16 hK rfl (Or.inl rfl) rfl (sp_171 (h := h) hG) (e := (gi h 171 6)) (gi_k (by decide) _) ?_
    refine x_if_icmp_ge 89 19 hK rfl rfl rfl (by omega) (by omega) (fun c4 => ?_) (fun c4 => ?_)
    · refine x_iconst 90 hK rfl rfl ?_
      refine x_istore_n 91 hK rfl rfl _ rfl ?_
      refine x_iconst 92 hK rfl rfl ?_
      refine x_aload_n 93 hK rfl rfl (lk1_n l0 (by decide) (Or.inl rfl)) ?_
      refine x_getR 96 hK rfl rfl (sp_171 (h := h) hG) (rf_171_14 (h := h) hG) ?_
      refine x_iconst 97 hK rfl rfl ?_
      have g46 := gri (0) (8) hG (a := 178) (r := 61) (k := 1) rfl rfl
      refine x_ialoadE 98 hK rfl rfl (sp_178 (h := h) hG) (by omega) (by omega) (by omega) (e' := (gi h 178 1)) (gi_a (by decide) _) ?_
      refine x_ishlX 99 hK rfl rfl (fun q12 rq12 => ?_)
      refine x_istore 101 hK rfl rfl _ rfl ?_
      refine x_iconst 102 hK rfl rfl ?_
      refine x_istore 104 hK rfl rfl _ rfl ?_
      exact loopB _ far ahd 0 q12 1 _ _ rfl (by omega) (by omega) (by omega) (by omega) (by omega) (gi_same (by omega)) (lk1_n (lk1_n (lk1_n l0 (by decide) (Or.inl rfl)) (by decide) (Or.inl rfl)) (by decide) (Or.inl rfl)) (lk1_n (lk1_n (lk1_n l1 (by decide) (Or.inl rfl)) (by decide) (Or.inl rfl)) (by decide) (Or.inl rfl)) (lk1_n (lk1_n (lk1_n l2 (by decide) (Or.inl rfl)) (by decide) (Or.inl rfl)) (by decide) (Or.inl rfl)) (lk1_n (lk1_n lk1_s (by decide) (Or.inl rfl)) (by decide) (Or.inl rfl)) (lk1_n lk1_s (by decide) (Or.inl rfl)) lk1_s (GD_w1 (hG) (r := 54) rfl (by omega) rfl (by omega) (by omega)) (FRM_w ((FRM.rf : FRM gRL [(0, 54, 0, 0), (0, 54, 1, 1), (0, 67, 0, 79), (0, 68, 0, 3), (1, 55, 0, 39)] h h)) (r := 54) rfl rfl)
    · refine x_aload_n 20 hK rfl rfl l0 ?_
      refine x_getR 23 hK rfl rfl (sp_171 (h := h) hG) (rf_171_11 (h := h) hG) ?_
      refine x_iload_n 24 hK rfl rfl l3 ?_
      have g47 := grn (0) (999) hG (a := 175) (r := 58) (k := r.toNat) rfl rfl (by omega)
      refine x_ialoadE 25 hK rfl rfl (sp_175 (h := h) hG) (by omega) (by omega) (by omega) (e' := (gi h 175 r.toNat)) (gi_a (by decide) _) ?_
      refine x_aload_n 26 hK rfl rfl l0 ?_
      refine x_getR 29 hK rfl rfl (sp_171 (h := h) hG) (rf_171_14 (h := h) hG) ?_
      refine x_iconst 30 hK rfl rfl ?_
      have g48 := gi_r h 178 0
      refine x_ialoadE 31 hK rfl rfl (sp_178 (h := h) hG) (by omega) (by omega) (by omega) (e' := (gi h 178 0)) (gi_a (by decide) _) ?_
      refine x_if_icmp_le 38 34 hK rfl rfl rfl (by omega) (by omega) (fun c25 => ?_) (fun c25 => ?_)
      · refine x_iconst 39 hK rfl rfl ?_
        refine x_istore 41 hK rfl rfl _ rfl ?_
        refine x_iload 43 hK rfl rfl lk1_s ?_
        refine x_if_eq 66 46 hK rfl rfl rfl (by omega) (fun _ => ?_) (fun c => by omega)
        refine x_iload_n 67 hK rfl rfl (lk1_n l1 (by decide) (Or.inl rfl)) ?_
        refine x_istore_n 68 hK rfl rfl _ rfl ?_
        refine x_iload_n 69 hK rfl rfl (lk1_n (lk1_n l2 (by decide) (Or.inl rfl)) (by decide) (Or.inl rfl)) ?_
        refine x_iload 71 hK rfl rfl (lk1_n lk1_s (by decide) (Or.inl rfl)) ?_
        refine x_if_eq 80 74 hK rfl rfl rfl (by omega) (fun _ => ?_) (fun c => by omega)
        refine x_iconst 81 hK rfl rfl ?_
        refine x_iorX 82 hK rfl rfl (fun q36 rq36 => ?_)
        refine x_istore_n 83 hK rfl rfl _ rfl ?_
        refine x_iinc 86 hK rfl rfl (lk1_n (lk1_n (lk1_n l3 (by decide) (Or.inl rfl)) (by decide) (Or.inl rfl)) (by decide) (Or.inl rfl)) _ rfl ?_
        refine x_goto 11 hK rfl rfl ?_
        exact ih _ (by omega) far q36 (r + 1) _ rfl (by omega) (by omega) (by omega) (lk1_n (lk1_n (lk1_n (lk1_n l0 (by decide) (Or.inl rfl)) (by decide) (Or.inl rfl)) (by decide) (Or.inl rfl)) (by decide) (Or.inl rfl)) (lk1_n (lk1_n lk1_s (by decide) (Or.inl rfl)) (by decide) (Or.inl rfl)) (lk1_n lk1_s (by decide) (Or.inl rfl)) lk1_s
      · refine x_iconst 35 hK rfl rfl ?_
        refine x_goto 39 hK rfl rfl ?_
        refine x_istore 41 hK rfl rfl _ rfl ?_
        refine x_iload 43 hK rfl rfl lk1_s ?_
        refine x_if_eq 66 46 hK rfl rfl rfl (by omega) (fun c => by omega) (fun _ => ?_)
        refine x_iload_n 47 hK rfl rfl (lk1_n l1 (by decide) (Or.inl rfl)) ?_
        refine x_aload_n 48 hK rfl rfl (lk1_n l0 (by decide) (Or.inl rfl)) ?_
        refine x_getR 51 hK rfl rfl (sp_171 (h := h) hG) (rf_171_11 (h := h) hG) ?_
        refine x_iload_n 52 hK rfl rfl (lk1_n l3 (by decide) (Or.inl rfl)) ?_
        refine x_ialoadE 53 hK rfl rfl (sp_175 (h := h) hG) (by omega) (by omega) (by omega) (e' := (gi h 175 r.toNat)) (gi_a (by decide) _) ?_
        refine x_aload_n 54 hK rfl rfl (lk1_n l0 (by decide) (Or.inl rfl)) ?_
        refine x_getR 57 hK rfl rfl (sp_171 (h := h) hG) (rf_171_14 (h := h) hG) ?_
        refine x_iconst 58 hK rfl rfl ?_
        refine x_ialoadE 59 hK rfl rfl (sp_178 (h := h) hG) (by omega) (by omega) (by omega) (e' := (gi h 178 0)) (gi_a (by decide) _) ?_
        refine x_isub 60 hK rfl rfl ?_
        refine x_max 63 hK rfl rfl (Nat.le_of_ble_eq_true rfl) (by omega) (by omega) ?_
        refine x_goto 67 hK rfl rfl ?_
        refine x_istore_n 68 hK rfl rfl _ rfl ?_
        refine x_iload_n 69 hK rfl rfl (lk1_n (lk1_n l2 (by decide) (Or.inl rfl)) (by decide) (Or.inl rfl)) ?_
        refine x_iload 71 hK rfl rfl (lk1_n lk1_s (by decide) (Or.inl rfl)) ?_
        refine x_if_eq 80 74 hK rfl rfl rfl (by omega) (fun c => by omega) (fun _ => ?_)
        refine x_iconst 75 hK rfl rfl ?_
        refine x_iload_n 76 hK rfl rfl (lk1_n (lk1_n l3 (by decide) (Or.inl rfl)) (by decide) (Or.inl rfl)) ?_
        refine x_ishlX 77 hK rfl rfl (fun q64 rq64 => ?_)
        refine x_goto 81 hK rfl rfl ?_
        refine x_iorX 82 hK rfl rfl (fun q66 rq66 => ?_)
        refine x_istore_n 83 hK rfl rfl _ rfl ?_
        refine x_iinc 86 hK rfl rfl (lk1_n (lk1_n (lk1_n l3 (by decide) (Or.inl rfl)) (by decide) (Or.inl rfl)) (by decide) (Or.inl rfl)) _ rfl ?_
        refine x_goto 11 hK rfl rfl ?_
        exact ih _ (by omega) (max far ((gi h 175 r.toNat) - (gi h 178 0))) q66 (r + 1) _ rfl (by omega) (by omega) (by omega) (lk1_n (lk1_n (lk1_n (lk1_n l0 (by decide) (Or.inl rfl)) (by decide) (Or.inl rfl)) (by decide) (Or.inl rfl)) (by decide) (Or.inl rfl)) (lk1_n (lk1_n lk1_s (by decide) (Or.inl rfl)) (by decide) (Or.inl rfl)) (lk1_n lk1_s (by decide) (Or.inl rfl)) lk1_s
  refine x_aload_n 1 hK rfl rfl rfl ?_
  refine x_iconst 2 hK rfl rfl ?_
  refine x_putI 5 hK rfl rfl (sp_171 (h := h) hG) ?_
  refine x_iconst 6 hK rfl rfl ?_
  refine x_istore_n 7 hK rfl rfl [(1, .int (I 0)), (0, .ref 171)] rfl ?_
  refine x_iconst 8 hK rfl rfl ?_
  refine x_istore_n 9 hK rfl rfl [(2, .int (I 0)), (1, .int (I 0)), (0, .ref 171)] rfl ?_
  refine x_iconst 10 hK rfl rfl ?_
  refine x_istore_n 11 hK rfl rfl [(3, .int (I 0)), (2, .int (I 0)), (1, .int (I 0)), (0, .ref 171)] rfl ?_
  have g6 := gri 0 16 hG (a := 171) (r := 54) (k := 6) rfl rfl
  exact loopA _ 0 0 0 _ rfl (by omega) (by omega) (by omega) rfl rfl rfl rfl
