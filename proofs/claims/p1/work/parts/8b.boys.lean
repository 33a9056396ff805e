/-! POSTS SET OUT, BOYS -/
/-- a boy's next step in a ship L long -/
def bst (L : Int) (q : Int × Int) : Int × Int := (q.1 + q.2, if q.1 + q.2 = L - 1 then -1 else if q.1 + q.2 = 0 then 1 else q.2)
def bN (L : Int) : Nat → Int × Int
  | 0 => (0, 1)
  | n + 1 => bst L (bN L n)
theorem mod_s {n m : Int} (hm : 0 < m) : (n + 1) % m = if n % m + 1 = m then 0 else n % m + 1 := by
  have h1 := Int.emod_nonneg n (show m ≠ 0 by omega)
  have h2 := Int.emod_lt_of_pos n hm
  have e : n + 1 = (n % m + 1) + m * (n / m) := by have := Int.emod_add_mul_ediv n m; omega
  rw [e, Int.add_mul_emod_self_left]
  split
  · rename_i c; rw [c, Int.emod_self]
  · exact Int.emod_eq_of_lt (by omega) (by omega)
theorem bN_c {L : Int} (hL : 2 ≤ L) : ∀ n : Nat, bN L n = (if (n : Int) % (2 * (L - 1)) < L then (n : Int) % (2 * (L - 1)) else 2 * (L - 1) - (n : Int) % (2 * (L - 1)), if (n : Int) % (2 * (L - 1)) < L - 1 then 1 else -1)
  | 0 => by
    have e : ((0 : Nat) : Int) % (2 * (L - 1)) = 0 := Int.zero_emod _
    rw [e, if_pos (by omega), if_pos (by omega)]; rfl
  | n + 1 => by
    have h1 := Int.emod_nonneg (n : Int) (show 2 * (L - 1) ≠ 0 by omega)
    have h2 := Int.emod_lt_of_pos (n : Int) (show 0 < 2 * (L - 1) by omega)
    show bst L (bN L n) = _
    rw [bN_c hL n, show (((n + 1 : Nat) : Int)) = (n : Int) + 1 from rfl, mod_s (show 0 < 2 * (L - 1) by omega)]
    generalize (n : Int) % (2 * (L - 1)) = r at h1 h2 ⊢
    unfold bst
    by_cases a : r < L - 1
    · rw [if_pos (show r < L by omega), if_pos a, if_neg (show ¬ r + 1 = 2 * (L - 1) by omega), if_pos (show r + 1 < L by omega)]
      by_cases b : r + 1 = L - 1
      · rw [if_pos b, if_neg (by omega)]
      · rw [if_neg b, if_neg (by omega), if_pos (by omega)]
    · rw [if_neg a]
      by_cases b : r < L
      · rw [if_pos b]
        by_cases c : r + 1 = 2 * (L - 1)
        · rw [if_pos c, if_neg (by omega), if_pos (by omega), if_pos (by omega), if_pos (by omega)]
          exact Prod.ext (by show r + -1 = 0; omega) rfl
        · rw [if_neg c, if_neg (by omega), if_neg (by omega), if_neg (by omega), if_neg (by omega)]
          exact Prod.ext (by show r + -1 = 2 * (L - 1) - (r + 1); omega) rfl
      · rw [if_neg b]
        by_cases c : r + 1 = 2 * (L - 1)
        · rw [if_pos c, if_neg (by omega), if_pos (by omega), if_pos (by omega), if_pos (by omega)]
          exact Prod.ext (by show 2 * (L - 1) - r + -1 = 0; omega) rfl
        · rw [if_neg c, if_neg (by omega), if_neg (by omega), if_neg (by omega), if_neg (by omega)]
          exact Prod.ext (by show 2 * (L - 1) - r + -1 = 2 * (L - 1) - (r + 1); omega) rfl
theorem bN_b {L : Int} (hL : 2 ≤ L) (n : Nat) : (0 ≤ (bN L n).1 ∧ (bN L n).1 ≤ L - 1) ∧ ((bN L n).2 = 1 ∨ (bN L n).2 = -1) := by
  have h1 := Int.emod_nonneg (n : Int) (show 2 * (L - 1) ≠ 0 by omega)
  have h2 := Int.emod_lt_of_pos (n : Int) (show 0 < 2 * (L - 1) by omega)
  rw [bN_c hL n]
  refine ⟨?_, ?_⟩
  · show 0 ≤ (if (n : Int) % (2 * (L - 1)) < L then (n : Int) % (2 * (L - 1)) else 2 * (L - 1) - (n : Int) % (2 * (L - 1))) ∧ (if (n : Int) % (2 * (L - 1)) < L then (n : Int) % (2 * (L - 1)) else 2 * (L - 1) - (n : Int) % (2 * (L - 1))) ≤ L - 1
    split <;> omega
  · show (if (n : Int) % (2 * (L - 1)) < L - 1 then (1 : Int) else -1) = 1 ∨ (if (n : Int) % (2 * (L - 1)) < L - 1 then (1 : Int) else -1) = -1
    split <;> omega
/-- the other boy, from the stern -/
theorem bN_o {L : Int} (hL : 2 ≤ L) : bN L (L - 1).toNat = (L - 1, -1) := by
  have e : ((L - 1).toNat : Int) % (2 * (L - 1)) = L - 1 := by rw [show (((L - 1).toNat : Nat) : Int) = L - 1 by omega]; exact Int.emod_eq_of_lt (by omega) (by omega)
  rw [bN_c hL, e, if_pos (by omega), if_neg (by omega)]
/-- how many steps he has gone -/
theorem wk_b {k r : Int} (hk : 0 ≤ k) (hr : 2 ≤ r ∧ r ≤ 9) : 0 ≤ k / r ∧ k / r ≤ k := by
  rcases (show r = 2 ∨ r = 3 ∨ r = 4 ∨ r = 5 ∨ r = 6 ∨ r = 7 ∨ r = 8 ∨ r = 9 by omega) with rfl | rfl | rfl | rfl | rfl | rfl | rfl | rfl <;> omega
theorem wk_s {k r : Int} (hk : 1 ≤ k) (hr : 2 ≤ r ∧ r ≤ 9) : (k % r = 0 → (k - k / r).toNat = (k - 1 - (k - 1) / r).toNat) ∧ (k % r ≠ 0 → (k - k / r).toNat = (k - 1 - (k - 1) / r).toNat + 1) := by
  rcases (show r = 2 ∨ r = 3 ∨ r = 4 ∨ r = 5 ∨ r = 6 ∨ r = 7 ∨ r = 8 ∨ r = 9 by omega) with rfl | rfl | rfl | rfl | rfl | rfl | rfl | rfl <;> omega
def meQ (L r k : Int) : Prop := (bN L (k - k / r).toNat).1 = (bN L (L - 1 + k).toNat).1
def mtG (L r : Int) : Nat → Int
  | 0 => -2
  | m + 1 => if (bN L ((999 - (m : Int)) - (999 - (m : Int)) / r).toNat).1 = (bN L (L - 1 + (999 - (m : Int))).toNat).1 then 999 - (m : Int) else mtG L r m
theorem mtG_u {L r k : Int} (hk : 1 ≤ k ∧ k ≤ 999) : mtG L r (1000 - k).toNat = if (bN L (k - k / r).toNat).1 = (bN L (L - 1 + k).toNat).1 then k else mtG L r (1000 - (k + 1)).toNat := by
  obtain ⟨m, hm⟩ : ∃ m : Nat, (1000 - k).toNat = m + 1 := ⟨(1000 - (k + 1)).toNat, by omega⟩
  have e : 999 - (m : Int) = k := by omega
  rw [hm, show (1000 - (k + 1)).toNat = m by omega]
  show (if (bN L ((999 - (m : Int)) - (999 - (m : Int)) / r).toNat).1 = (bN L (L - 1 + (999 - (m : Int))).toNat).1 then 999 - (m : Int) else mtG L r m) = _
  rw [e]
theorem mtG_r {L r : Int} : ∀ m : Nat, m ≤ 999 → r32 (mtG L r m)
  | 0, _ => by unfold mtG; omega
  | m + 1, h => by
    have := mtG_r (L := L) (r := r) m (by omega)
    unfold mtG
    split <;> omega
set_option maxRecDepth 4000 in
theorem ctX10_fewest {SP : CT} (hSP : MONO SP) {sh : List (Nat × Nat)} {h : aH} (hG : GD gE gRL sh h) {s t : Nat} (hP : PT h) (hw : SW h s t) (hL : 2 ≤ gi h s 0 ∧ gi h s 0 ≤ 40) {v : Int} (rv : r32 v) : CLd SP 2 mX10_fewest [.ref 0, .int (I v)] h 0 0 (fun rv h' => h' = h ∧ rv = some (.int (I (if 1 ≤ v ∧ v ≤ 39 then ((gi h s 0) - 1 + v - 1) / v - 1 else -1)))) := by
  refine x_met _ rfl (Nat.le_of_ble_eq_true rfl) (fun K hK => ?_)
  have hmono := MONO_CLd hSP 1
  have h5s : s = 5 ∨ s = 8 := by have := hw.1; omega
  have h5t : t = 5 ∨ t = 8 := by have := hw.1; omega
  have hst := hw.1
  refine x_iload_n 1 hK rfl rfl rfl ?_
  refine x_iconst 2 hK rfl rfl ?_
  refine x_if_icmp_lt 11 5 hK rfl rfl rfl (by omega) (by omega) (fun c3 => ?_) (fun c3 => ?_)
  · refine x_iconst 12 hK rfl rfl ?_
    exact x_iret hK rfl ⟨rfl, by rw [if_neg (by omega)]⟩
  · refine x_iload_n 6 hK rfl rfl rfl ?_
    refine x_bipush 8 hK rfl rfl rfl ?_
    refine x_if_icmp_le 13 11 hK rfl rfl rfl (by omega) (by omega) (fun c8 => ?_) (fun c8 => ?_)
    · refine x_aload_n 14 hK rfl rfl rfl ?_
      refine x_getR 17 hK rfl rfl (sp_0 (h := h) hG) (hw.2.1) ?_
      have g289 := gri (-1000000) (1000000) hG (a := s) (r := 5) (k := 0) (ss_r h5s).1 rfl
      refine x_getE 20 hK rfl (Or.inl rfl) rfl (shx (h := h) hG (r := 5) (ss_r h5s).1 rfl) (e := (gi h s 0)) (rfl) ?_
      refine x_iconst 21 hK rfl rfl ?_
      refine x_isub 22 hK rfl rfl ?_
      refine x_iload_n 23 hK rfl rfl rfl ?_
      refine x_iadd 24 hK rfl rfl ?_
      refine x_iconst 25 hK rfl rfl ?_
      refine x_isub 26 hK rfl rfl ?_
      refine x_iload_n 27 hK rfl rfl rfl ?_
      refine x_idivp 28 hK rfl rfl (by omega) (by omega) (by omega) (by omega) ?_
      refine x_iconst 29 hK rfl rfl ?_
      refine x_isub 30 hK rfl rfl ?_
      exact x_iret hK rfl ⟨rfl, by rw [if_pos (by omega)]⟩
    · refine x_iconst 12 hK rfl rfl ?_
      exact x_iret hK rfl ⟨rfl, by rw [if_neg (by omega)]⟩
set_option maxRecDepth 4000 in
theorem ctX11_fewest {SP : CT} (hSP : MONO SP) {sh : List (Nat × Nat)} {h : aH} (hG : GD gE gRL sh h) {v : Int} (rv : r32 v) : CLd SP 2 mX11_fewest [.ref 171, .int (I v)] h 0 0 (fun rv h' => rv = some (.int (I (if 1 ≤ v ∧ v ≤ 39 then (gi h 171 3 - 1 + v - 1) / v - 1 else -1))) ∧ GD gE gRL sh h' ∧ FRM gRL [(0, 54, 0, 0)] h h' ∧ gi h' 171 0 = 0) := by
  refine x_met _ rfl (Nat.le_of_ble_eq_true rfl) (fun K hK => ?_)
  have hmono := MONO_CLd hSP 1
  have gL := gri 2 40 hG (a := 171) (r := 54) (k := 3) rfl rfl
  refine x_aload_n 1 hK rfl rfl rfl ?_
  refine x_iconst 2 hK rfl rfl ?_
  refine x_putI 5 hK rfl rfl (sp_171 (h := h) hG) ?_
  refine x_iload_n 6 hK rfl rfl rfl ?_
  refine x_i2l 7 hK rfl rfl (by omega) ?_
  refine x_lconstE 8 1 hK rfl rfl rfl ?_
  refine x_ldc2_w 11 hK rfl rfl ?_
  have hGp290 : GD gE gRL sh (wI h 171 0 0) := GD_w1 (hG) (r := 54) rfl (by omega) rfl (by omega) (by omega)
  refine x_callS 14 hK hmono rfl (Or.inl rfl) rfl [.long (J v), .long (J 1), .long (J 39)] [] rfl rfl (Nat.le_of_ble_eq_true rfl) (Nat.le_of_ble_eq_true rfl) (CLd_le (Nat.le_of_ble_eq_true rfl) (ctX11_in (by omega) (by omega) (by omega))) ?_
  rintro v9 h9 ⟨e9, ⟨rfl, i1291, i2291⟩ | ⟨rfl, i1291⟩⟩ <;> rw [e9] <;> clear e9
  · refine x_if_eq 25 17 hK rfl rfl rfl (by omega) (fun c => by omega) (fun _ => ?_)
    refine x_aload_n 18 hK rfl rfl rfl ?_
    refine x_iload_n 19 hK rfl rfl rfl ?_
    have g292 := gri (2) (40) hG (a := 171) (r := 54) (k := 3) rfl rfl
    have hGp293 : GD gE gRL sh (wI h 171 0 0) := GD_w1 (hG) (r := 54) rfl (by omega) rfl (by omega) (by omega)
    have z294 : gi (wI h 171 0 0) 171 3 = (gi h 171 3) := gi_k (by decide) _
    refine x_callV 22 hK hmono rfl rfl [.ref 171, .int (I v)] [] rfl rfl (Nat.le_of_ble_eq_true rfl) (Nat.le_of_ble_eq_true rfl) rfl (sp_171 (h := h) hG) (CLd_le (Nat.le_of_ble_eq_true rfl) (ctX11_postsFor hSP hGp293 (by omega))) ?_
    rintro v9 h9 ⟨e9, rfl⟩
    rw [e9, z294]
    clear e9
    have pf295 := relayD (s := (gi h 171 3) - 1) (g := v) (by omega) (by omega)
    refine x_goto 26 hK rfl rfl ?_
    exact x_iret hK rfl ⟨by rw [if_pos (by omega)], GD_w1 (hG) (r := 54) rfl (by omega) rfl (by omega) (by omega), FRM_w ((FRM.rf : FRM gRL [(0, 54, 0, 0)] h h)) (r := 54) rfl rfl, gi_same (by omega)⟩
  · refine x_if_eq 25 17 hK rfl rfl rfl (by omega) (fun _ => ?_) (fun c => by omega)
    refine x_iconst 26 hK rfl rfl ?_
    exact x_iret hK rfl ⟨by rw [if_neg (by omega)], GD_w1 (hG) (r := 54) rfl (by omega) rfl (by omega) (by omega), FRM_w ((FRM.rf : FRM gRL [(0, 54, 0, 0)] h h)) (r := 54) rfl rfl, gi_same (by omega)⟩
set_option maxRecDepth 4000 in
theorem ctX10_relay {SP : CT} (hSP : MONO SP) {sh : List (Nat × Nat)} {h : aH} (hG : GD gE gRL sh h) {s t : Nat} (hP : PT h) (hw : SW h s t) (hL : 2 ≤ gi h s 0 ∧ gi h s 0 ≤ 40) {k : Int} (rk : r32 k) : CLd SP 4 mX10_relay [.ref 0, .int (I k)] h 0 0 (fun rv h' => rv = some (.int (I (if 0 ≤ k ∧ k ≤ 10 then (if k ≤ gi h s 0 - 2 then (((gi h s 0 - 1) + k) / (k + 1)) else -2) else -1))) ∧ GD gE gRL sh h' ∧ FRM gRL [(0, 3, 1, 1), (1, 4, 0, 29)] h h' ∧ crow h' = if (0 ≤ k ∧ k ≤ 10) ∧ k ≤ gi h s 0 - 2 then rowF (fun n => rlC (gi h s 0 - 1) (((gi h s 0 - 1) + k) / (k + 1)) k (n + 1)) k.toNat else crow h) := by
  refine x_met _ rfl (Nat.le_of_ble_eq_true rfl) (fun K hK => ?_)
  have hmono := MONO_CLd hSP 3
  have h5s : s = 5 ∨ s = 8 := by have := hw.1; omega
  have h5t : t = 5 ∨ t = 8 := by have := hw.1; omega
  have hst := hw.1
  have loopF : ∀ (mz : Nat) (last b : Int) (h4 : aH) (ls : List (Nat × Value)), (b.toNat = mz) → ((0 ≤ k ∧ k ≤ 10) ∧ k ≤ gi h s 0 - 2) → (0 ≤ b ∧ b ≤ k) → (last = rlC (gi h s 0 - 1) (((gi h s 0 - 1) + k) / (k + 1)) k (k - b).toNat) → (gi h4 3 1 = k - b) → (crow h4 = rowF (fun n => rlC (gi h s 0 - 1) (((gi h s 0 - 1) + k) / (k + 1)) k (n + 1)) (k - b).toNat) → lk ls 0 = some (.ref 0) → lk ls 1 = some (.int (I k)) → lk ls 2 = some (.int (I (gi h s 0 - 1))) → lk ls 3 = some (.int (I (((gi h s 0 - 1) + k) / (k + 1)))) → lk ls 4 = some (.int (I last)) → lk ls 5 = some (.int (I b)) → GD gE gRL sh h4 → FRM gRL [(0, 3, 1, 1), (1, 4, 0, 29)] h h4 → K 53 ls [] h4 0 0 := by
    intro mz
    induction mz using Nat.strongRecOn with
    | ind mz ih =>
    intro last b h4 ls hm k0 i0 la r4 e4 l0 l1 l2 l3 l4 l5 hG4 hF4
    have gb := relayB (s := (gi h s 0 - 1)) (k := k) (by omega) (by omega)
    have lb1 := rlC_b (s := (gi h s 0 - 1)) (g := (((gi h s 0 - 1) + k) / (k + 1))) (k := k) (by omega) (by omega) (by omega) (k - b).toNat (by omega)
    rw [← la] at lb1
    have ls1 : 1 ≤ b → max (last + 1) ((gi h s 0 - 1) - (((gi h s 0 - 1) + k) / (k + 1)) * b) = rlC (gi h s 0 - 1) (((gi h s 0 - 1) + k) / (k + 1)) k (k - (b - 1)).toNat := fun z => by
      have q := rlC_s (s := (gi h s 0 - 1)) (g := (((gi h s 0 - 1) + k) / (k + 1))) (k := k) (i := k - (b - 1)) (by omega)
      rw [show k - (k - (b - 1)) + 1 = b by omega, show k - (b - 1) - 1 = k - b by omega, ← la] at q
      exact q
    have gm : 0 ≤ (((gi h s 0 - 1) + k) / (k + 1)) * b ∧ (((gi h s 0 - 1) + k) / (k + 1)) * b ≤ 40 * 10 := ⟨Int.mul_nonneg (by omega) (by omega), Int.mul_le_mul (by omega) (by omega) (by omega) (by omega)⟩
    have lb2 := fun z : 1 ≤ b => rlC_b (s := (gi h s 0 - 1)) (g := (((gi h s 0 - 1) + k) / (k + 1))) (k := k) (by omega) (by omega) (by omega) (k - (b - 1)).toNat (by omega)
    refine x_iload 55 hK rfl rfl l5 ?_
    refine x_iconst 56 hK rfl rfl ?_
    refine x_if_icmp_lt 90 59 hK rfl rfl rfl (by omega) (by omega) (fun c3 => ?_) (fun c3 => ?_)
    · refine x_iload_n 91 hK rfl rfl l3 ?_
      obtain rfl : b = 0 := by omega
      rw [Int.sub_zero] at e4
      exact x_iret hK rfl ⟨by rw [if_pos k0.1, if_pos k0.2], hG4, hF4, by rw [if_pos k0]; exact e4⟩
    · refine x_iload 61 hK rfl rfl l4 ?_
      refine x_iconst 62 hK rfl rfl ?_
      refine x_iadd 63 hK rfl rfl ?_
      refine x_iload_n 64 hK rfl rfl l2 ?_
      refine x_iload_n 65 hK rfl rfl l3 ?_
      refine x_iload 67 hK rfl rfl l5 ?_
      refine x_imul 68 hK rfl rfl ?_
      refine x_isub 69 hK rfl rfl ?_
      refine x_max 72 hK rfl rfl (Nat.le_of_ble_eq_true rfl) (by omega) (by omega) ?_
      have ls2 := ls1 (by omega)
      have lb3 := lb2 (by omega)
      rw [← ls2] at lb3
      refine x_istore 74 hK rfl rfl _ rfl ?_
      refine x_aload_n 75 hK rfl rfl (lk1_n l0 (by decide) (Or.inl rfl)) ?_
      refine x_getR 78 hK rfl rfl (sp_0 (h := h4) hG4) (rf_0_1 (h := h4) hG4) ?_
      refine x_iload 80 hK rfl rfl lk1_s ?_
      refine x_i2l 81 hK rfl rfl (by omega) ?_
      have z297 : gi h4 3 1 = (k - b) := r4
      have z297r : crow h4 = (crow h4) := rfl
      refine x_callV 84 hK hmono rfl rfl [.ref 3, .long (J (max (last + 1) ((gi h s 0 - 1) - ((((gi h s 0 - 1) + k) / (k + 1)) * b))))] [] rfl rfl (Nat.le_of_ble_eq_true rfl) (Nat.le_of_ble_eq_true rfl) rfl (sp_3 (h := h4) hG4) (CLd_le (Nat.le_of_ble_eq_true rfl) (ctX3_add hSP hG4 (by omega) (by omega))) ?_
      rintro v296 h296 ⟨rfl, hG296, hF296, t296, s296⟩
      rw [z297] at t296
      rw [z297r] at s296
      refine x_iinc 87 hK rfl rfl (lk1_n l5 (by decide) (Or.inl rfl)) _ rfl ?_
      refine x_goto 53 hK rfl rfl ?_
      exact ih _ (by omega) (max (last + 1) ((gi h s 0 - 1) - ((((gi h s 0 - 1) + k) / (k + 1)) * b))) (b + (-1)) _ _ rfl (k0) (by omega) ((by rw [show b + (-1) = b - 1 by omega]; exact ls1 (by omega))) ((t296).trans (by omega)) ((by rw [s296, e4, ls1 (by omega), show (k - (b + (-1))).toNat = (k - b).toNat + 1 by omega, rowF_s, show (k - (b - 1)).toNat = (k - b).toNat + 1 by omega])) (lk1_n (lk1_n l0 (by decide) (Or.inl rfl)) (by decide) (Or.inl rfl)) (lk1_n (lk1_n l1 (by decide) (Or.inl rfl)) (by decide) (Or.inl rfl)) (lk1_n (lk1_n l2 (by decide) (Or.inl rfl)) (by decide) (Or.inl rfl)) (lk1_n (lk1_n l3 (by decide) (Or.inl rfl)) (by decide) (Or.inl rfl)) (lk1_n lk1_s (by decide) (Or.inl rfl)) lk1_s (hG296) ((hF4).trans ((hF296).mono rfl))
  refine x_iload_n 1 hK rfl rfl rfl ?_
  refine x_if_lt 10 4 hK rfl rfl rfl (by omega) (fun c2 => ?_) (fun c2 => ?_)
  · refine x_iconst 11 hK rfl rfl ?_
    exact x_iret hK rfl ⟨by rw [if_neg (by omega)], hG, (FRM.rf : FRM gRL [(0, 3, 1, 1), (1, 4, 0, 29)] h h), by rw [if_neg (by omega)]⟩
  · refine x_iload_n 5 hK rfl rfl rfl ?_
    refine x_bipush 7 hK rfl rfl rfl ?_
    refine x_if_icmp_le 12 10 hK rfl rfl rfl (by omega) (by omega) (fun c7 => ?_) (fun c7 => ?_)
    · refine x_aload_n 13 hK rfl rfl rfl ?_
      refine x_getR 16 hK rfl rfl (sp_0 (h := h) hG) (hw.2.1) ?_
      have g298 := gri (-1000000) (1000000) hG (a := s) (r := 5) (k := 0) (ss_r h5s).1 rfl
      refine x_getE 19 hK rfl (Or.inl rfl) rfl (shx (h := h) hG (r := 5) (ss_r h5s).1 rfl) (e := (gi h s 0)) (rfl) ?_
      refine x_iconst 20 hK rfl rfl ?_
      refine x_isub 21 hK rfl rfl ?_
      refine x_istore_n 22 hK rfl rfl [(2, .int (I ((gi h s 0) - 1))), (0, .ref 0), (1, .int (I k))] rfl ?_
      refine x_iload_n 23 hK rfl rfl rfl ?_
      refine x_iload_n 24 hK rfl rfl rfl ?_
      refine x_iconst 25 hK rfl rfl ?_
      refine x_isub 26 hK rfl rfl ?_
      refine x_if_icmp_le 32 29 hK rfl rfl rfl (by omega) (by omega) (fun c18 => ?_) (fun c18 => ?_)
      · refine x_iload_n 33 hK rfl rfl rfl ?_
        refine x_iload_n 34 hK rfl rfl rfl ?_
        refine x_iadd 35 hK rfl rfl ?_
        refine x_iload_n 36 hK rfl rfl rfl ?_
        refine x_iconst 37 hK rfl rfl ?_
        refine x_iadd 38 hK rfl rfl ?_
        have gb := relayB (s := (gi h s 0 - 1)) (k := k) (by omega) (by omega)
        refine x_idivp 39 hK rfl rfl (by omega) (by omega) (by omega) (by omega) ?_
        refine x_istore_n 40 hK rfl rfl [(3, .int (I ((((gi h s 0) - 1) + k) / (k + 1)))), (2, .int (I ((gi h s 0) - 1))), (0, .ref 0), (1, .int (I k))] rfl ?_
        refine x_aload_n 41 hK rfl rfl rfl ?_
        refine x_getR 44 hK rfl rfl (sp_0 (h := h) hG) (rf_0_1 (h := h) hG) ?_
        refine x_callV 47 hK hmono rfl rfl [.ref 3] [] rfl rfl (Nat.le_of_ble_eq_true rfl) (Nat.le_of_ble_eq_true rfl) rfl (sp_3 (h := h) hG) (CLd_le (Nat.le_of_ble_eq_true rfl) (ctX3_clear hSP hG)) ?_
        rintro v299 h299 ⟨rfl, hG299, hF299, t299, s299⟩
        refine x_iconst 48 hK rfl rfl ?_
        refine x_istore 50 hK rfl rfl [(4, .int (I 0)), (3, .int (I ((((gi h s 0) - 1) + k) / (k + 1)))), (2, .int (I ((gi h s 0) - 1))), (0, .ref 0), (1, .int (I k))] rfl ?_
        refine x_iload_n 51 hK rfl rfl rfl ?_
        refine x_istore 53 hK rfl rfl [(5, .int (I k)), (4, .int (I 0)), (3, .int (I ((((gi h s 0) - 1) + k) / (k + 1)))), (2, .int (I ((gi h s 0) - 1))), (0, .ref 0), (1, .int (I k))] rfl ?_
        exact loopF _ 0 k _ _ rfl (by omega) (by omega) ((by rw [Int.sub_self]; rfl)) ((t299).trans (by omega)) ((by rw [s299, Int.sub_self]; rfl)) rfl rfl rfl rfl rfl rfl (hG299) ((hF299).mono rfl)
      · refine x_bipush 31 hK rfl rfl rfl ?_
        exact x_iret hK rfl ⟨by rw [if_pos (by omega), if_neg (by omega)], hG, (FRM.rf : FRM gRL [(0, 3, 1, 1), (1, 4, 0, 29)] h h), by rw [if_neg (by omega)]⟩
    · refine x_iconst 11 hK rfl rfl ?_
      exact x_iret hK rfl ⟨by rw [if_neg (by omega)], hG, (FRM.rf : FRM gRL [(0, 3, 1, 1), (1, 4, 0, 29)] h h), by rw [if_neg (by omega)]⟩
set_option maxRecDepth 4000 in
theorem ctX10_lap {SP : CT} (hSP : MONO SP) {sh : List (Nat × Nat)} {h : aH} (hG : GD gE gRL sh h) {s t : Nat} (hP : PT h) (hw : SW h s t) (hL : 2 ≤ gi h s 0 ∧ gi h s 0 ≤ 40) : CLd SP 1 mX10_lap [.ref 0] h 0 0 (fun rv h' => h' = h ∧ rv = some (.int (I (2 * ((gi h s 0) - 1))))) := by
  refine x_met _ rfl (Nat.le_of_ble_eq_true rfl) (fun K hK => ?_)
  have hmono := MONO_CLd hSP 0
  have h5s : s = 5 ∨ s = 8 := by have := hw.1; omega
  have h5t : t = 5 ∨ t = 8 := by have := hw.1; omega
  have hst := hw.1
  refine x_iconst 1 hK rfl rfl ?_
  refine x_iconst 2 hK rfl rfl ?_
  refine x_aload_n 3 hK rfl rfl rfl ?_
  refine x_getR 6 hK rfl rfl (sp_0 (h := h) hG) (hw.2.1) ?_
  have g300 := gri (-1000000) (1000000) hG (a := s) (r := 5) (k := 0) (ss_r h5s).1 rfl
  refine x_getE 9 hK rfl (Or.inl rfl) rfl (shx (h := h) hG (r := 5) (ss_r h5s).1 rfl) (e := (gi h s 0)) (rfl) ?_
  refine x_iconst 10 hK rfl rfl ?_
  refine x_isub 11 hK rfl rfl ?_
  refine x_max 14 hK rfl rfl (Nat.le_of_ble_eq_true rfl) (by omega) (by omega) ?_
  refine x_imul 15 hK rfl rfl ?_
  exact x_iret hK rfl ⟨rfl, by rw [show max 1 ((gi h s 0) - 1) = (gi h s 0) - 1 by omega]⟩
set_option maxRecDepth 4000 in
theorem ctX10_cellAfter {SP : CT} (hSP : MONO SP) {sh : List (Nat × Nat)} {h : aH} (hG : GD gE gRL sh h) {s t : Nat} (hP : PT h) (hw : SW h s t) (hL : 2 ≤ gi h s 0 ∧ gi h s 0 ≤ 40) {w : Int} (hw0 : 0 ≤ w ∧ w ≤ 1000000) : CLd SP 2 mX10_cellAfter [.ref 0, .int (I w)] h 0 0 (fun rv h' => h' = h ∧ rv = some (.int (I (bN (gi h s 0) w.toNat).1))) := by
  refine x_met _ rfl (Nat.le_of_ble_eq_true rfl) (fun K hK => ?_)
  have hmono := MONO_CLd hSP 1
  have h5s : s = 5 ∨ s = 8 := by have := hw.1; omega
  have h5t : t = 5 ∨ t = 8 := by have := hw.1; omega
  have hst := hw.1
  have m1 := Int.emod_nonneg w (show 2 * ((gi h s 0) - 1) ≠ 0 by omega)
  have m2 := Int.emod_lt_of_pos w (show 0 < 2 * ((gi h s 0) - 1) by omega)
  have bc := bN_c hL.1 w.toNat
  rw [tn_c hw0.1] at bc
  refine x_iload_n 1 hK rfl rfl rfl ?_
  refine x_aload_n 2 hK rfl rfl rfl ?_
  refine x_callV 5 hK hmono rfl rfl [.ref 0] [.int (I w)] rfl rfl (Nat.le_of_ble_eq_true rfl) (Nat.le_of_ble_eq_true rfl) rfl (sp_0 (h := h) hG) (CLd_le (Nat.le_of_ble_eq_true rfl) (ctX10_lap hSP hG hP hw hL)) ?_
  rintro v9 h9 ⟨e9, rfl⟩
  rw [e9]
  clear e9
  refine x_iremp 6 hK rfl rfl (by omega) (by omega) (by omega) (by omega) ?_
  refine x_istore_n 7 hK rfl rfl [(2, .int (I (w % (2 * ((gi h s 0) - 1))))), (0, .ref 0), (1, .int (I w))] rfl ?_
  refine x_iload_n 8 hK rfl rfl rfl ?_
  refine x_aload_n 9 hK rfl rfl rfl ?_
  refine x_getR 12 hK rfl rfl (sp_0 (h := h) hG) (hw.2.1) ?_
  have g301 := gri (-1000000) (1000000) hG (a := s) (r := 5) (k := 0) (ss_r h5s).1 rfl
  refine x_getE 15 hK rfl (Or.inl rfl) rfl (shx (h := h) hG (r := 5) (ss_r h5s).1 rfl) (e := (gi h s 0)) (rfl) ?_
  refine x_if_icmp_ge 22 18 hK rfl rfl rfl (by omega) (by omega) (fun c10 => ?_) (fun c10 => ?_)
  · refine x_aload_n 23 hK rfl rfl rfl ?_
    refine x_callV 26 hK hmono rfl rfl [.ref 0] [] rfl rfl (Nat.le_of_ble_eq_true rfl) (Nat.le_of_ble_eq_true rfl) rfl (sp_0 (h := h) hG) (CLd_le (Nat.le_of_ble_eq_true rfl) (ctX10_lap hSP hG hP hw hL)) ?_
    rintro v9 h9 ⟨e9, rfl⟩
    rw [e9]
    clear e9
    refine x_iload_n 27 hK rfl rfl rfl ?_
    refine x_isub 28 hK rfl rfl ?_
    have e9 : (bN (gi h s 0) w.toNat).1 = ((2 * ((gi h s 0) - 1)) - (w % (2 * ((gi h s 0) - 1)))) := by rw [bc]; exact if_neg (by omega)
    exact x_iret hK rfl ⟨rfl, by rw [e9]⟩
  · refine x_iload_n 19 hK rfl rfl rfl ?_
    refine x_goto 28 hK rfl rfl ?_
    have e9 : (bN (gi h s 0) w.toNat).1 = (w % (2 * ((gi h s 0) - 1))) := by rw [bc]; exact if_pos (by omega)
    exact x_iret hK rfl ⟨rfl, by rw [e9]⟩
set_option maxRecDepth 4000 in
theorem ctX10_boy {SP : CT} (hSP : MONO SP) {sh : List (Nat × Nat)} {h : aH} (hG : GD gE gRL sh h) {s t : Nat} (hP : PT h) (hw : SW h s t) (hL : 2 ≤ gi h s 0 ∧ gi h s 0 ≤ 40) {n r : Int} (rn : r32 n) (rr : r32 r) : CLd SP 4 mX10_boy [.ref 0, .int (I n), .int (I r)] h 0 0 (fun rv h' => rv = some (.int (I (if (0 ≤ n ∧ n ≤ 99999) ∧ 2 ≤ r ∧ r ≤ 9 then (bN (gi h s 0) (n - n / r).toNat).1 else -1))) ∧ GD gE gRL sh h' ∧ FRM gRL [(0, 3, 1, 1), (1, 4, 0, 29)] h h' ∧ crow h' = if (0 ≤ n ∧ n ≤ 99999) ∧ 2 ≤ r ∧ r ≤ 9 then [(bN (gi h s 0) (n - n / r).toNat).2] else crow h) := by
  refine x_met _ rfl (Nat.le_of_ble_eq_true rfl) (fun K hK => ?_)
  have hmono := MONO_CLd hSP 3
  have h5s : s = 5 ∨ s = 8 := by have := hw.1; omega
  have h5t : t = 5 ∨ t = 8 := by have := hw.1; omega
  have hst := hw.1
  have wb := fun (z : (0 ≤ n ∧ n ≤ 99999) ∧ 2 ≤ r ∧ r ≤ 9) => wk_b (k := n) (r := r) z.1.1 z.2
  refine x_iload_n 1 hK rfl rfl rfl ?_
  refine x_if_lt 22 4 hK rfl rfl rfl (by omega) (fun c2 => ?_) (fun c2 => ?_)
  · refine x_iconst 23 hK rfl rfl ?_
    exact x_iret hK rfl ⟨by rw [if_neg (by omega)], hG, (FRM.rf : FRM gRL [(0, 3, 1, 1), (1, 4, 0, 29)] h h), by rw [if_neg (by omega)]⟩
  · refine x_iload_n 5 hK rfl rfl rfl ?_
    refine x_ldc_w 8 hK rfl rfl ?_
    refine x_if_icmp_gt 22 11 hK rfl rfl rfl (by omega) (by omega) (fun c7 => ?_) (fun c7 => ?_)
    · refine x_iconst 23 hK rfl rfl ?_
      exact x_iret hK rfl ⟨by rw [if_neg (by omega)], hG, (FRM.rf : FRM gRL [(0, 3, 1, 1), (1, 4, 0, 29)] h h), by rw [if_neg (by omega)]⟩
    · refine x_iload_n 12 hK rfl rfl rfl ?_
      refine x_iconst 13 hK rfl rfl ?_
      refine x_if_icmp_lt 22 16 hK rfl rfl rfl (by omega) (by omega) (fun c12 => ?_) (fun c12 => ?_)
      · refine x_iconst 23 hK rfl rfl ?_
        exact x_iret hK rfl ⟨by rw [if_neg (by omega)], hG, (FRM.rf : FRM gRL [(0, 3, 1, 1), (1, 4, 0, 29)] h h), by rw [if_neg (by omega)]⟩
      · refine x_iload_n 17 hK rfl rfl rfl ?_
        refine x_bipush 19 hK rfl rfl rfl ?_
        refine x_if_icmp_le 24 22 hK rfl rfl rfl (by omega) (by omega) (fun c17 => ?_) (fun c17 => ?_)
        · refine x_iload_n 25 hK rfl rfl rfl ?_
          refine x_iload_n 26 hK rfl rfl rfl ?_
          refine x_iload_n 27 hK rfl rfl rfl ?_
          replace wb := wb (by omega)
          have m1 := Int.emod_nonneg (n - n / r) (show 2 * ((gi h s 0) - 1) ≠ 0 by omega)
          have m2 := Int.emod_lt_of_pos (n - n / r) (show 0 < 2 * ((gi h s 0) - 1) by omega)
          have bc := bN_c hL.1 (n - n / r).toNat
          rw [tn_c (by omega)] at bc
          refine x_idivp 28 hK rfl rfl (by omega) (by omega) (by omega) (by omega) ?_
          refine x_isub 29 hK rfl rfl ?_
          refine x_istore_n 30 hK rfl rfl [(3, .int (I (n - (n / r)))), (0, .ref 0), (1, .int (I n)), (2, .int (I r))] rfl ?_
          refine x_aload_n 31 hK rfl rfl rfl ?_
          refine x_getR 34 hK rfl rfl (sp_0 (h := h) hG) (rf_0_1 (h := h) hG) ?_
          refine x_iload_n 35 hK rfl rfl rfl ?_
          refine x_aload_n 36 hK rfl rfl rfl ?_
          refine x_callV 39 hK hmono rfl rfl [.ref 0] [.int (I (n - (n / r))), .ref 3] rfl rfl (Nat.le_of_ble_eq_true rfl) (Nat.le_of_ble_eq_true rfl) rfl (sp_0 (h := h) hG) (CLd_le (Nat.le_of_ble_eq_true rfl) (ctX10_lap hSP hG hP hw hL)) ?_
          rintro v9 h9 ⟨e9, rfl⟩
          rw [e9]
          clear e9
          refine x_iremp 40 hK rfl rfl (by omega) (by omega) (by omega) (by omega) ?_
          refine x_aload_n 41 hK rfl rfl rfl ?_
          refine x_getR 44 hK rfl rfl (sp_0 (h := h) hG) (hw.2.1) ?_
          have g302 := gri (-1000000) (1000000) hG (a := s) (r := 5) (k := 0) (ss_r h5s).1 rfl
          refine x_getE 47 hK rfl (Or.inl rfl) rfl (shx (h := h) hG (r := 5) (ss_r h5s).1 rfl) (e := (gi h s 0)) (rfl) ?_
          refine x_iconst 48 hK rfl rfl ?_
          refine x_isub 49 hK rfl rfl ?_
          refine x_if_icmp_ge 56 52 hK rfl rfl rfl (by omega) (by omega) (fun c36 => ?_) (fun c36 => ?_)
          · refine x_ldc2_w 59 hK rfl rfl ?_
            refine x_callV 62 hK hmono rfl rfl [.ref 3, .long (J (-1))] [] rfl rfl (Nat.le_of_ble_eq_true rfl) (Nat.le_of_ble_eq_true rfl) rfl (sp_3 (h := h) hG) (CLd_le (Nat.le_of_ble_eq_true rfl) (ctX3_tellOne hSP hG (by omega))) ?_
            rintro v303 h303 ⟨rfl, hG303, hF303, t303, s303⟩
            refine x_aload_n 63 hK rfl rfl rfl ?_
            refine x_iload_n 64 hK rfl rfl rfl ?_
            have ls304 : gi h303 s 0 = gi h s 0 := FRM_gi hF303 (r := 5) (ss_r h5s).1 rfl
            have sw304 : SW h303 s t := ⟨hw.1, (FRM_aR hF303 (r := 0) rfl rfl).trans hw.2.1, (FRM_aR hF303 (r := 0) rfl rfl).trans hw.2.2⟩
            refine x_callV 67 hK hmono rfl rfl [.ref 0, .int (I (n - (n / r)))] [] rfl rfl (Nat.le_of_ble_eq_true rfl) (Nat.le_of_ble_eq_true rfl) rfl (sp_0 (h := h303) hG303) (CLd_le (Nat.le_of_ble_eq_true rfl) (ctX10_cellAfter hSP hG303 (PT_F hF303 (by decide) hP) sw304 (by rw [ls304]; exact hL) (w := (n - (n / r))) (by omega))) ?_
            rw [ls304]
            rintro v9 h9 ⟨e9, rfl⟩
            rw [e9]
            clear e9
            have bb304 := bN_b hL.1 (n - (n / r)).toNat
            have e9 : (bN (gi h s 0) (n - n / r).toNat).2 = (-1) := by rw [bc]; exact if_neg (by omega)
            exact x_iret hK rfl ⟨by rw [if_pos (by omega)], hG303, hF303, by rw [if_pos (by omega), e9]; exact s303⟩
          · refine x_lconstE 53 1 hK rfl rfl rfl ?_
            refine x_goto 59 hK rfl rfl ?_
            refine x_callV 62 hK hmono rfl rfl [.ref 3, .long (J 1)] [] rfl rfl (Nat.le_of_ble_eq_true rfl) (Nat.le_of_ble_eq_true rfl) rfl (sp_3 (h := h) hG) (CLd_le (Nat.le_of_ble_eq_true rfl) (ctX3_tellOne hSP hG (by omega))) ?_
            rintro v305 h305 ⟨rfl, hG305, hF305, t305, s305⟩
            refine x_aload_n 63 hK rfl rfl rfl ?_
            refine x_iload_n 64 hK rfl rfl rfl ?_
            have ls306 : gi h305 s 0 = gi h s 0 := FRM_gi hF305 (r := 5) (ss_r h5s).1 rfl
            have sw306 : SW h305 s t := ⟨hw.1, (FRM_aR hF305 (r := 0) rfl rfl).trans hw.2.1, (FRM_aR hF305 (r := 0) rfl rfl).trans hw.2.2⟩
            refine x_callV 67 hK hmono rfl rfl [.ref 0, .int (I (n - (n / r)))] [] rfl rfl (Nat.le_of_ble_eq_true rfl) (Nat.le_of_ble_eq_true rfl) rfl (sp_0 (h := h305) hG305) (CLd_le (Nat.le_of_ble_eq_true rfl) (ctX10_cellAfter hSP hG305 (PT_F hF305 (by decide) hP) sw306 (by rw [ls306]; exact hL) (w := (n - (n / r))) (by omega))) ?_
            rw [ls306]
            rintro v9 h9 ⟨e9, rfl⟩
            rw [e9]
            clear e9
            have bb306 := bN_b hL.1 (n - (n / r)).toNat
            have e9 : (bN (gi h s 0) (n - n / r).toNat).2 = 1 := by rw [bc]; exact if_pos (by omega)
            exact x_iret hK rfl ⟨by rw [if_pos (by omega)], hG305, hF305, by rw [if_pos (by omega), e9]; exact s305⟩
        · refine x_iconst 23 hK rfl rfl ?_
          exact x_iret hK rfl ⟨by rw [if_neg (by omega)], hG, (FRM.rf : FRM gRL [(0, 3, 1, 1), (1, 4, 0, 29)] h h), by rw [if_neg (by omega)]⟩
set_option maxRecDepth 4000 in
theorem ctX10_meets {SP : CT} (hSP : MONO SP) {sh : List (Nat × Nat)} {h : aH} (hG : GD gE gRL sh h) {s t : Nat} (hP : PT h) (hw : SW h s t) (hL : 2 ≤ gi h s 0 ∧ gi h s 0 ≤ 40) {r : Int} (rr : r32 r) : CLd SP 4 mX10_meets [.ref 0, .int (I r)] h 0 0 (fun rv h' => rv = some (.int (I (if 2 ≤ r ∧ r ≤ 9 then mtG (gi h s 0) r 999 else -1))) ∧ GD gE gRL sh h' ∧ FRM gRL [(0, 3, 1, 1), (1, 4, 0, 29)] h h' ∧ crow h' = if (2 ≤ r ∧ r ≤ 9) ∧ 0 < mtG (gi h s 0) r 999 then [(bN (gi h s 0) ((gi h s 0) - 1 + mtG (gi h s 0) r 999).toNat).1] else crow h) := by
  refine x_met _ rfl (Nat.le_of_ble_eq_true rfl) (fun K hK => ?_)
  have hmono := MONO_CLd hSP 3
  have h5s : s = 5 ∨ s = 8 := by have := hw.1; omega
  have h5t : t = 5 ∨ t = 8 := by have := hw.1; omega
  have hst := hw.1
  have loop : ∀ (mz : Nat) (k : Int) (ls : List (Nat × Value)), ((1000 - k).toNat = mz) → (2 ≤ r ∧ r ≤ 9) → (1 ≤ k ∧ k ≤ 1000) → (mtG (gi h s 0) r (1000 - k).toNat = mtG (gi h s 0) r 999) → lk ls 0 = some (.ref 0) → lk ls 1 = some (.int (I r)) → lk ls 2 = some (.int (I ((gi h s 0) - 1))) → lk ls 3 = some (.int (I k)) → K 25 ls [] h 0 0 := by
    intro mz
    induction mz using Nat.strongRecOn with
    | ind mz ih =>
    intro k ls hm q0 k0 sv l0 l1 l2 l3
    have wb := wk_b (k := k) (r := r) (by omega) q0
    have u := fun z : k ≤ 999 => mtG_u (L := (gi h s 0)) (r := r) ⟨k0.1, z⟩
    refine x_iload_n 26 hK rfl rfl l3 ?_
    refine x_sipush 29 hK rfl rfl rfl ?_
    refine x_if_icmp_gt 73 32 hK rfl rfl rfl (by omega) (by omega) (fun c3 => ?_) (fun c3 => ?_)
    · refine x_bipush 75 hK rfl rfl rfl ?_
      have e9 : mtG (gi h s 0) r 999 = -2 := by rw [← sv, show (1000 - k).toNat = 0 by omega]; rfl
      exact x_iret hK rfl ⟨by rw [if_pos q0, e9], hG, (FRM.rf : FRM gRL [(0, 3, 1, 1), (1, 4, 0, 29)] h h), by rw [if_neg (by omega)]⟩
    · refine x_aload_n 33 hK rfl rfl l0 ?_
      refine x_iload_n 34 hK rfl rfl l3 ?_
      refine x_iload_n 35 hK rfl rfl l3 ?_
      refine x_iload_n 36 hK rfl rfl l1 ?_
      refine x_idivp 37 hK rfl rfl (by omega) (by omega) (by omega) (by omega) ?_
      refine x_isub 38 hK rfl rfl ?_
      refine x_callV 41 hK hmono rfl rfl [.ref 0, .int (I (k - (k / r)))] [] rfl rfl (Nat.le_of_ble_eq_true rfl) (Nat.le_of_ble_eq_true rfl) rfl (sp_0 (h := h) hG) (CLd_le (Nat.le_of_ble_eq_true rfl) (ctX10_cellAfter hSP hG hP hw hL (w := (k - (k / r))) (by omega))) ?_
      rintro v9 h9 ⟨e9, rfl⟩
      rw [e9]
      clear e9
      have bb307 := bN_b hL.1 (k - (k / r)).toNat
      refine x_istore 43 hK rfl rfl _ rfl ?_
      refine x_iload 45 hK rfl rfl lk1_s ?_
      refine x_aload_n 46 hK rfl rfl (lk1_n l0 (by decide) (Or.inl rfl)) ?_
      refine x_iload_n 47 hK rfl rfl (lk1_n l2 (by decide) (Or.inl rfl)) ?_
      refine x_iload_n 48 hK rfl rfl (lk1_n l3 (by decide) (Or.inl rfl)) ?_
      refine x_iadd 49 hK rfl rfl ?_
      refine x_callV 52 hK hmono rfl rfl [.ref 0, .int (I (((gi h s 0) - 1) + k))] [.int (I (bN (gi h s 0) (k - (k / r)).toNat).1)] rfl rfl (Nat.le_of_ble_eq_true rfl) (Nat.le_of_ble_eq_true rfl) rfl (sp_0 (h := h) hG) (CLd_le (Nat.le_of_ble_eq_true rfl) (ctX10_cellAfter hSP hG hP hw hL (w := (((gi h s 0) - 1) + k)) (by omega))) ?_
      rintro v9 h9 ⟨e9, rfl⟩
      rw [e9]
      clear e9
      have bb308 := bN_b hL.1 (((gi h s 0) - 1) + k).toNat
      refine x_if_icmp_ne 67 55 hK rfl rfl rfl (by omega) (by omega) (fun c20 => ?_) (fun c20 => ?_)
      · refine x_iinc 70 hK rfl rfl (lk1_n l3 (by decide) (Or.inl rfl)) _ rfl ?_
        refine x_goto 25 hK rfl rfl ?_
        exact ih _ (by omega) (k + 1) _ rfl (q0) (by omega) (by rw [← sv, u (by omega), if_neg (by omega)]) (lk1_n (lk1_n l0 (by decide) (Or.inl rfl)) (by decide) (Or.inl rfl)) (lk1_n (lk1_n l1 (by decide) (Or.inl rfl)) (by decide) (Or.inl rfl)) (lk1_n (lk1_n l2 (by decide) (Or.inl rfl)) (by decide) (Or.inl rfl)) lk1_s
      · refine x_aload_n 56 hK rfl rfl (lk1_n l0 (by decide) (Or.inl rfl)) ?_
        refine x_getR 59 hK rfl rfl (sp_0 (h := h) hG) (rf_0_1 (h := h) hG) ?_
        refine x_iload 61 hK rfl rfl lk1_s ?_
        refine x_i2l 62 hK rfl rfl (by omega) ?_
        refine x_callV 65 hK hmono rfl rfl [.ref 3, .long (J (bN (gi h s 0) (k - (k / r)).toNat).1)] [] rfl rfl (Nat.le_of_ble_eq_true rfl) (Nat.le_of_ble_eq_true rfl) rfl (sp_3 (h := h) hG) (CLd_le (Nat.le_of_ble_eq_true rfl) (ctX3_tellOne hSP hG (by omega))) ?_
        rintro v309 h309 ⟨rfl, hG309, hF309, t309, s309⟩
        refine x_iload_n 66 hK rfl rfl (lk1_n l3 (by decide) (Or.inl rfl)) ?_
        have e9 : mtG (gi h s 0) r 999 = k := by rw [← sv, u (by omega), if_pos (by omega)]
        exact x_iret hK rfl ⟨by rw [if_pos q0, e9], hG309, hF309, by rw [if_pos ⟨q0, by omega⟩, e9]; exact (s309).trans (congrArg (fun z => [z]) (by omega))⟩
  refine x_iload_n 1 hK rfl rfl rfl ?_
  refine x_iconst 2 hK rfl rfl ?_
  refine x_if_icmp_lt 11 5 hK rfl rfl rfl (by omega) (by omega) (fun c3 => ?_) (fun c3 => ?_)
  · refine x_iconst 12 hK rfl rfl ?_
    exact x_iret hK rfl ⟨by rw [if_neg (by omega)], hG, (FRM.rf : FRM gRL [(0, 3, 1, 1), (1, 4, 0, 29)] h h), by rw [if_neg (by omega)]⟩
  · refine x_iload_n 6 hK rfl rfl rfl ?_
    refine x_bipush 8 hK rfl rfl rfl ?_
    refine x_if_icmp_le 13 11 hK rfl rfl rfl (by omega) (by omega) (fun c8 => ?_) (fun c8 => ?_)
    · refine x_aload_n 14 hK rfl rfl rfl ?_
      refine x_getR 17 hK rfl rfl (sp_0 (h := h) hG) (hw.2.1) ?_
      have g310 := gri (-1000000) (1000000) hG (a := s) (r := 5) (k := 0) (ss_r h5s).1 rfl
      refine x_getE 20 hK rfl (Or.inl rfl) rfl (shx (h := h) hG (r := 5) (ss_r h5s).1 rfl) (e := (gi h s 0)) (rfl) ?_
      refine x_iconst 21 hK rfl rfl ?_
      refine x_isub 22 hK rfl rfl ?_
      refine x_istore_n 23 hK rfl rfl [(2, .int (I ((gi h s 0) - 1))), (0, .ref 0), (1, .int (I r))] rfl ?_
      refine x_iconst 24 hK rfl rfl ?_
      refine x_istore_n 25 hK rfl rfl [(3, .int (I 1)), (2, .int (I ((gi h s 0) - 1))), (0, .ref 0), (1, .int (I r))] rfl ?_
      exact loop _ 1 _ rfl (by omega) (by omega) (rfl) rfl rfl rfl rfl
    · refine x_iconst 12 hK rfl rfl ?_
      exact x_iret hK rfl ⟨by rw [if_neg (by omega)], hG, (FRM.rf : FRM gRL [(0, 3, 1, 1), (1, 4, 0, 29)] h h), by rw [if_neg (by omega)]⟩
set_option maxRecDepth 4000 in
theorem ctX11_boyGoes {SP : CT} (hSP : MONO SP) {sh : List (Nat × Nat)} {h : aH} (hG : GD gE gRL sh h) {j : Nat} (h1 : gi h 171 48 = (bN (gi h 171 3) j).1) (h2 : gi h 171 49 = (bN (gi h 171 3) j).2) : CLd SP 1 mX11_boyGoes [.ref 171] h 0 0 (fun rv h' => rv = none ∧ GD gE gRL sh h' ∧ FRM gRL [(0, 54, 48, 49)] h h' ∧ gi h' 171 48 = (bN (gi h 171 3) (j + 1)).1 ∧ gi h' 171 49 = (bN (gi h 171 3) (j + 1)).2) := by
  refine x_met _ rfl (Nat.le_of_ble_eq_true rfl) (fun K hK => ?_)
  have hmono := MONO_CLd hSP 0
  have gL := gri 2 40 hG (a := 171) (r := 54) (k := 3) rfl rfl
  have bb := bN_b gL.1 j
  have e1 : (bN (gi h 171 3) (j + 1)).1 = (bN (gi h 171 3) j).1 + (bN (gi h 171 3) j).2 := rfl
  have e2 : (bN (gi h 171 3) (j + 1)).2 = if (bN (gi h 171 3) j).1 + (bN (gi h 171 3) j).2 = (gi h 171 3) - 1 then -1 else if (bN (gi h 171 3) j).1 + (bN (gi h 171 3) j).2 = 0 then 1 else (bN (gi h 171 3) j).2 := rfl
  refine x_aload_n 1 hK rfl rfl rfl ?_
  refine x_dup 2 hK rfl rfl rfl ?_
  refine x_getE 5 hK rfl (Or.inl rfl) rfl (sp_171 (h := h) hG) (e := (bN (gi h 171 3) j).1) (h1) ?_
  refine x_aload_n 6 hK rfl rfl rfl ?_
  refine x_getE 9 hK rfl (Or.inl rfl) rfl (sp_171 (h := h) hG) (e := (bN (gi h 171 3) j).2) (h2) ?_
  refine x_iadd 10 hK rfl rfl ?_
  refine x_putI 13 hK rfl rfl (sp_171 (h := h) hG) ?_
  refine x_aload_n 14 hK rfl rfl rfl ?_
  refine x_aload_n 15 hK rfl rfl rfl ?_
  refine x_getE 18 hK rfl (Or.inl rfl) rfl (sp_171 (h := h) hG) (e := ((bN (gi h 171 3) j).1 + (bN (gi h 171 3) j).2)) (gi_same (by omega)) ?_
  refine x_aload_n 19 hK rfl rfl rfl ?_
  have g311 := gri (2) (40) hG (a := 171) (r := 54) (k := 3) rfl rfl
  refine x_getE 22 hK rfl (Or.inl rfl) rfl (sp_171 (h := h) hG) (e := (gi h 171 3)) (gi_k (by decide) _) ?_
  refine x_iconst 23 hK rfl rfl ?_
  refine x_isub 24 hK rfl rfl ?_
  refine x_if_icmp_ne 31 27 hK rfl rfl rfl (by omega) (by omega) (fun c15 => ?_) (fun c15 => ?_)
  · refine x_aload_n 32 hK rfl rfl rfl ?_
    refine x_getE 35 hK rfl (Or.inl rfl) rfl (sp_171 (h := h) hG) (e := ((bN (gi h 171 3) j).1 + (bN (gi h 171 3) j).2)) (gi_same (by omega)) ?_
    refine x_if_ne 42 38 hK rfl rfl rfl (by omega) (fun c18 => ?_) (fun c18 => ?_)
    · refine x_aload_n 43 hK rfl rfl rfl ?_
      refine x_getE 46 hK rfl (Or.inl rfl) rfl (sp_171 (h := h) hG) (e := (bN (gi h 171 3) j).2) ((gi_k (by decide) _).trans (h2)) ?_
      refine x_putI 49 hK rfl rfl (sp_171 (h := h) hG) ?_
      exact x_vret hK rfl ⟨rfl, GD_w0 (GD_w0 (hG) (r := 54) rfl rfl) (r := 54) rfl rfl, FRM_w (FRM_w ((FRM.rf : FRM gRL [(0, 54, 48, 49)] h h)) (r := 54) rfl rfl) (r := 54) rfl rfl, ((gi_k (by decide) _).trans (gi_same (by omega))).trans e1.symm, (gi_same (by omega)).trans (by rw [e2]; first | rw [if_pos (by omega)] | rw [if_neg (by omega), if_pos (by omega)] | rw [if_neg (by omega), if_neg (by omega)])⟩
    · refine x_iconst 39 hK rfl rfl ?_
      refine x_goto 46 hK rfl rfl ?_
      refine x_putI 49 hK rfl rfl (sp_171 (h := h) hG) ?_
      exact x_vret hK rfl ⟨rfl, GD_w0 (GD_w0 (hG) (r := 54) rfl rfl) (r := 54) rfl rfl, FRM_w (FRM_w ((FRM.rf : FRM gRL [(0, 54, 48, 49)] h h)) (r := 54) rfl rfl) (r := 54) rfl rfl, ((gi_k (by decide) _).trans (gi_same (by omega))).trans e1.symm, (gi_same (by omega)).trans (by rw [e2]; first | rw [if_pos (by omega)] | rw [if_neg (by omega), if_pos (by omega)] | rw [if_neg (by omega), if_neg (by omega)])⟩
  · refine x_iconst 28 hK rfl rfl ?_
    refine x_goto 46 hK rfl rfl ?_
    refine x_putI 49 hK rfl rfl (sp_171 (h := h) hG) ?_
    exact x_vret hK rfl ⟨rfl, GD_w0 (GD_w0 (hG) (r := 54) rfl rfl) (r := 54) rfl rfl, FRM_w (FRM_w ((FRM.rf : FRM gRL [(0, 54, 48, 49)] h h)) (r := 54) rfl rfl) (r := 54) rfl rfl, ((gi_k (by decide) _).trans (gi_same (by omega))).trans e1.symm, (gi_same (by omega)).trans (by rw [e2]; first | rw [if_pos (by omega)] | rw [if_neg (by omega), if_pos (by omega)] | rw [if_neg (by omega), if_neg (by omega)])⟩
set_option maxRecDepth 4000 in
theorem ctX11_boyBegins {SP : CT} (hSP : MONO SP) {sh : List (Nat × Nat)} {h : aH} (hG : GD gE gRL sh h) : CLd SP 1 mX11_boyBegins [.ref 171, .int (I 0), .int (I 1)] h 0 0 (fun rv h' => rv = none ∧ GD gE gRL sh h' ∧ FRM gRL [(0, 54, 48, 49)] h h' ∧ gi h' 171 48 = 0 ∧ gi h' 171 49 = 1) := by
  refine x_met _ rfl (Nat.le_of_ble_eq_true rfl) (fun K hK => ?_)
  have hmono := MONO_CLd hSP 0
  refine x_aload_n 1 hK rfl rfl rfl ?_
  refine x_iload_n 2 hK rfl rfl rfl ?_
  refine x_putI 5 hK rfl rfl (sp_171 (h := h) hG) ?_
  refine x_aload_n 6 hK rfl rfl rfl ?_
  refine x_iload_n 7 hK rfl rfl rfl ?_
  refine x_putI 10 hK rfl rfl (sp_171 (h := h) hG) ?_
  exact x_vret hK rfl ⟨rfl, GD_w0 (GD_w0 (hG) (r := 54) rfl rfl) (r := 54) rfl rfl, FRM_w (FRM_w ((FRM.rf : FRM gRL [(0, 54, 48, 49)] h h)) (r := 54) rfl rfl) (r := 54) rfl rfl, (gi_k (by decide) _).trans (gi_same (by omega)), gi_same (by omega)⟩
set_option maxRecDepth 4000 in
theorem ctX11_canRest {SP : CT} (hSP : MONO SP) {h : aH} {r : Int} (rr : r32 r) : CLd SP 2 mX11_canRest [.int (I r)] h 0 0 (fun rv h' => h' = h ∧ ((rv = some (.int (I 1)) ∧ 2 ≤ r ∧ r ≤ 9) ∨ (rv = some (.int (I 0)) ∧ ¬ (2 ≤ r ∧ r ≤ 9)))) := by
  refine x_met _ rfl (Nat.le_of_ble_eq_true rfl) (fun K hK => ?_)
  have hmono := MONO_CLd hSP 1
  refine x_iload_n 1 hK rfl rfl rfl ?_
  refine x_i2l 2 hK rfl rfl (by omega) ?_
  refine x_ldc2_w 5 hK rfl rfl ?_
  refine x_ldc2_w 8 hK rfl rfl ?_
  refine x_callS 11 hK hmono rfl (Or.inl rfl) rfl [.long (J r), .long (J 2), .long (J 9)] [] rfl rfl (Nat.le_of_ble_eq_true rfl) (Nat.le_of_ble_eq_true rfl) (CLd_le (Nat.le_of_ble_eq_true rfl) (ctX11_in (by omega) (by omega) (by omega))) ?_
  rintro v9 h9 ⟨e9, ⟨rfl, i1312, i2312⟩ | ⟨rfl, i1312⟩⟩ <;> rw [e9] <;> clear e9
  · exact x_zret hK rfl (by omega) ⟨rfl, Or.inl ⟨rfl, by omega⟩⟩
  · exact x_zret hK rfl (by omega) ⟨rfl, Or.inr ⟨rfl, by omega⟩⟩
set_option maxRecDepth 4000 in
theorem ctX11_boy {SP : CT} (hSP : MONO SP) {sh : List (Nat × Nat)} {h : aH} (hG : GD gE gRL sh h) {n r : Int} (rn : r32 n) (rr : r32 r) : CLd SP 4 mX11_boy [.ref 171, .int (I n), .int (I r)] h 0 0 (fun rv h' => rv = some (.int (I (if (0 ≤ n ∧ n ≤ 99999) ∧ 2 ≤ r ∧ r ≤ 9 then (bN (gi h 171 3) (n - n / r).toNat).1 else -1))) ∧ GD gE gRL sh h' ∧ FRM gRL [(0, 54, 0, 0), (0, 54, 1, 1), (0, 54, 48, 49), (1, 55, 0, 39)] h h' ∧ gi h' 171 0 = 0 ∧ mrow h' = if (0 ≤ n ∧ n ≤ 99999) ∧ 2 ≤ r ∧ r ≤ 9 then [(bN (gi h 171 3) (n - n / r).toNat).2] else mrow h) := by
  refine x_met _ rfl (Nat.le_of_ble_eq_true rfl) (fun K hK => ?_)
  have hmono := MONO_CLd hSP 3
  have gL := gri 2 40 hG (a := 171) (r := 54) (k := 3) rfl rfl
  have loop : ∀ (mz : Nat) (k : Int) (h4 : aH) (ls : List (Nat × Value)), ((n + 1 - k).toNat = mz) → ((0 ≤ n ∧ n ≤ 99999) ∧ 2 ≤ r ∧ r ≤ 9) → (1 ≤ k ∧ k ≤ n + 1) → (gi h4 171 0 = 0) → (gi h4 171 48 = (bN (gi h 171 3) ((k - 1) - (k - 1) / r).toNat).1) → (gi h4 171 49 = (bN (gi h 171 3) ((k - 1) - (k - 1) / r).toNat).2) → lk ls 0 = some (.ref 171) → lk ls 1 = some (.int (I n)) → lk ls 2 = some (.int (I r)) → lk ls 3 = some (.int (I k)) → GD gE gRL sh h4 → FRM gRL [(0, 54, 0, 0), (0, 54, 1, 1), (0, 54, 48, 49), (1, 55, 0, 39)] h h4 → K 34 ls [] h4 0 0 := by
    intro mz
    induction mz using Nat.strongRecOn with
    | ind mz ih =>
    intro k h4 ls hm q0 k0 t4 d8 d9 l0 l1 l2 l3 hG4 hF4
    have ws := wk_s (k := k) (r := r) k0.1 q0.2
    have bb := bN_b gL.1 ((k - 1) - (k - 1) / r).toNat
    have e3 : gi h4 171 3 = gi h 171 3 := FRM_gi hF4 (r := 54) rfl rfl
    have km := Int.emod_nonneg k (show r ≠ 0 by omega)
    have kl := Int.emod_lt_of_pos k (show 0 < r by omega)
    refine x_iload_n 35 hK rfl rfl l3 ?_
    refine x_iload_n 36 hK rfl rfl l1 ?_
    refine x_if_icmp_gt 55 39 hK rfl rfl rfl (by omega) (by omega) (fun c3 => ?_) (fun c3 => ?_)
    · refine x_aload_n 56 hK rfl rfl l0 ?_
      refine x_iconst 57 hK rfl rfl ?_
      refine x_putI 60 hK rfl rfl (sp_171 (h := h4) hG4) ?_
      refine x_aload_n 61 hK rfl rfl l0 ?_
      refine x_aload_n 62 hK rfl rfl l0 ?_
      refine x_getE 65 hK rfl (Or.inl rfl) rfl (sp_171 (h := h4) hG4) (e := (bN (gi h 171 3) ((k - 1) - (k - 1) / r).toNat).2) ((gi_k (by decide) _).trans (d9)) ?_
      refine x_i2l 66 hK rfl rfl (by omega) ?_
      have hGp313 : GD gE gRL sh (wI h4 171 1 0) := GD_w1 (hG4) (r := 54) rfl (by omega) rfl (by omega) (by omega)
      have z315 : gi (wI h4 171 1 0) 171 1 = 0 := gi_same (by omega)
      have z315r : mrow (wI h4 171 1 0) = [] := mrow_0 (gi_same (by omega))
      refine x_callV 69 hK hmono rfl rfl [.ref 171, .long (J (bN (gi h 171 3) ((k - 1) - (k - 1) / r).toNat).2)] [] rfl rfl (Nat.le_of_ble_eq_true rfl) (Nat.le_of_ble_eq_true rfl) rfl (sp_171 (h := h4) hG4) (CLd_le (Nat.le_of_ble_eq_true rfl) (ctX11_entersF hSP hGp313 (by omega) (by omega))) ?_
      rintro v314 h314 ⟨rfl, hG314, hF314, t314, s314⟩
      rw [z315] at t314
      rw [z315r] at s314
      replace t314 : gi h314 171 1 = 1 := t314
      change mrow h314 = [(bN (gi h 171 3) ((k - 1) - (k - 1) / r).toNat).2] at s314
      refine x_aload_n 70 hK rfl rfl l0 ?_
      refine x_getE 73 hK rfl (Or.inl rfl) rfl (sp_171 (h := h314) hG314) (e := (bN (gi h 171 3) ((k - 1) - (k - 1) / r).toNat).1) ((FRM_gi hF314 (r := 54) rfl rfl).trans ((gi_k (by decide) _).trans (d8))) ?_
      have kn : k - 1 = n := by omega
      have r9 := s314
      skip
      exact x_iret hK rfl ⟨by rw [if_pos q0, kn], hG314, (FRM_w (hF4) (r := 54) rfl rfl).trans ((hF314).mono rfl), (FRM_gi hF314 (r := 54) rfl rfl).trans ((gi_k (by decide) _).trans (t4)), by rw [if_pos q0, ← kn]; exact r9⟩
    · refine x_iload_n 40 hK rfl rfl l3 ?_
      refine x_iload_n 41 hK rfl rfl l2 ?_
      refine x_iremp 42 hK rfl rfl (by omega) (by omega) (by omega) (by omega) ?_
      refine x_if_eq 49 45 hK rfl rfl rfl (by omega) (fun c18 => ?_) (fun c18 => ?_)
      · refine x_iinc 52 hK rfl rfl l3 _ rfl ?_
        refine x_goto 34 hK rfl rfl ?_
        exact ih _ (by omega) (k + 1) _ _ rfl (q0) (by omega) (t4) ((by rw [show k + 1 - 1 = k by omega, (ws.1 (by omega))]; exact d8)) ((by rw [show k + 1 - 1 = k by omega, (ws.1 (by omega))]; exact d9)) (lk1_n l0 (by decide) (Or.inl rfl)) (lk1_n l1 (by decide) (Or.inl rfl)) (lk1_n l2 (by decide) (Or.inl rfl)) lk1_s (hG4) (hF4)
      · refine x_aload_n 46 hK rfl rfl l0 ?_
        have z48 : gi h4 171 48 = (bN (gi h 171 3) ((k - 1) - (k - 1) / r).toNat).1 := d8
        have z49 : gi h4 171 49 = (bN (gi h 171 3) ((k - 1) - (k - 1) / r).toNat).2 := d9
        have z3 : gi h4 171 3 = (gi h 171 3) := e3
        refine x_callV 49 hK hmono rfl rfl [.ref 171] [] rfl rfl (Nat.le_of_ble_eq_true rfl) (Nat.le_of_ble_eq_true rfl) rfl (sp_171 (h := h4) hG4) (CLd_le (Nat.le_of_ble_eq_true rfl) (ctX11_boyGoes hSP hG4 (j := ((k - 1) - (k - 1) / r).toNat) (by rw [z3]; exact z48) (by rw [z3]; exact z49))) ?_
        rw [z3]
        rintro v316 h316 ⟨rfl, hG316, hF316, a316, b316⟩
        refine x_iinc 52 hK rfl rfl l3 _ rfl ?_
        refine x_goto 34 hK rfl rfl ?_
        exact ih _ (by omega) (k + 1) _ _ rfl (q0) (by omega) ((FRM_gi hF316 (r := 54) rfl rfl).trans (t4)) ((by rw [show k + 1 - 1 = k by omega, (ws.2 (by omega))]; exact a316)) ((by rw [show k + 1 - 1 = k by omega, (ws.2 (by omega))]; exact b316)) (lk1_n l0 (by decide) (Or.inl rfl)) (lk1_n l1 (by decide) (Or.inl rfl)) (lk1_n l2 (by decide) (Or.inl rfl)) lk1_s (hG316) ((hF4).trans ((hF316).mono rfl))
  refine x_aload_n 1 hK rfl rfl rfl ?_
  refine x_iconst 2 hK rfl rfl ?_
  refine x_putI 5 hK rfl rfl (sp_171 (h := h) hG) ?_
  refine x_iload_n 6 hK rfl rfl rfl ?_
  refine x_i2l 7 hK rfl rfl (by omega) ?_
  refine x_lconstE 8 0 hK rfl rfl rfl ?_
  refine x_ldc2_w 11 hK rfl rfl ?_
  have hGp317 : GD gE gRL sh (wI h 171 0 0) := GD_w1 (hG) (r := 54) rfl (by omega) rfl (by omega) (by omega)
  refine x_callS 14 hK hmono rfl (Or.inl rfl) rfl [.long (J n), .long (J 0), .long (J 99999)] [] rfl rfl (Nat.le_of_ble_eq_true rfl) (Nat.le_of_ble_eq_true rfl) (CLd_le (Nat.le_of_ble_eq_true rfl) (ctX11_in (by omega) (by omega) (by omega))) ?_
  rintro v9 h9 ⟨e9, ⟨rfl, i1318, i2318⟩ | ⟨rfl, i1318⟩⟩ <;> rw [e9] <;> clear e9
  · refine x_if_eq 24 17 hK rfl rfl rfl (by omega) (fun c => by omega) (fun _ => ?_)
    refine x_iload_n 18 hK rfl rfl rfl ?_
    have hGp319 : GD gE gRL sh (wI h 171 0 0) := GD_w1 (hG) (r := 54) rfl (by omega) rfl (by omega) (by omega)
    refine x_callS 21 hK hmono rfl (Or.inl rfl) rfl [.int (I r)] [] rfl rfl (Nat.le_of_ble_eq_true rfl) (Nat.le_of_ble_eq_true rfl) (CLd_le (Nat.le_of_ble_eq_true rfl) (ctX11_canRest hSP (by omega))) ?_
    rintro v9 h9 ⟨e9, ⟨rfl, i1320, i2320⟩ | ⟨rfl, i1320⟩⟩ <;> rw [e9] <;> clear e9
    · refine x_if_ne 26 24 hK rfl rfl rfl (by omega) (fun _ => ?_) (fun c => by omega)
      refine x_aload_n 27 hK rfl rfl rfl ?_
      refine x_iconst 28 hK rfl rfl ?_
      refine x_iconst 29 hK rfl rfl ?_
      have hGp321 : GD gE gRL sh (wI h 171 0 0) := GD_w1 (hG) (r := 54) rfl (by omega) rfl (by omega) (by omega)
      refine x_callV 32 hK hmono rfl rfl [.ref 171, .int (I 0), .int (I 1)] [] rfl rfl (Nat.le_of_ble_eq_true rfl) (Nat.le_of_ble_eq_true rfl) rfl (sp_171 (h := h) hG) (CLd_le (Nat.le_of_ble_eq_true rfl) (ctX11_boyBegins hSP hGp321)) ?_
      rintro v322 h322 ⟨rfl, hG322, hF322, a322, b322⟩
      refine x_iconst 33 hK rfl rfl ?_
      refine x_istore_n 34 hK rfl rfl [(3, .int (I 1)), (0, .ref 171), (1, .int (I n)), (2, .int (I r))] rfl ?_
      exact loop _ 1 _ _ rfl (by omega) (by omega) ((FRM_gi hF322 (r := 54) rfl rfl).trans (gi_same (by omega))) ((by rw [show ((1 : Int) - 1 - (1 - 1) / r).toNat = 0 by rw [show (1 : Int) - 1 = 0 from rfl, Int.zero_ediv]; rfl]; exact a322)) ((by rw [show ((1 : Int) - 1 - (1 - 1) / r).toNat = 0 by rw [show (1 : Int) - 1 = 0 from rfl, Int.zero_ediv]; rfl]; exact b322)) rfl rfl rfl rfl (hG322) ((FRM_w ((FRM.rf : FRM gRL [(0, 54, 0, 0), (0, 54, 1, 1), (0, 54, 48, 49), (1, 55, 0, 39)] h h)) (r := 54) rfl rfl).trans ((hF322).mono rfl))
    · refine x_if_ne 26 24 hK rfl rfl rfl (by omega) (fun c => by omega) (fun _ => ?_)
      refine x_iconst 25 hK rfl rfl ?_
      exact x_iret hK rfl ⟨by rw [if_neg (by omega)], GD_w1 (hG) (r := 54) rfl (by omega) rfl (by omega) (by omega), FRM_w ((FRM.rf : FRM gRL [(0, 54, 0, 0), (0, 54, 1, 1), (0, 54, 48, 49), (1, 55, 0, 39)] h h)) (r := 54) rfl rfl, gi_same (by omega), by rw [if_neg (by omega)]; exact mrow_k (by decide)⟩
  · refine x_if_eq 24 17 hK rfl rfl rfl (by omega) (fun _ => ?_) (fun c => by omega)
    refine x_iconst 25 hK rfl rfl ?_
    exact x_iret hK rfl ⟨by rw [if_neg (by omega)], GD_w1 (hG) (r := 54) rfl (by omega) rfl (by omega) (by omega), FRM_w ((FRM.rf : FRM gRL [(0, 54, 0, 0), (0, 54, 1, 1), (0, 54, 48, 49), (1, 55, 0, 39)] h h)) (r := 54) rfl rfl, gi_same (by omega), by rw [if_neg (by omega)]; exact mrow_k (by decide)⟩
set_option maxRecDepth 4000 in
theorem ctX11_meets {SP : CT} (hSP : MONO SP) {sh : List (Nat × Nat)} {h : aH} (hG : GD gE gRL sh h) {r : Int} (rr : r32 r) : CLd SP 4 mX11_meets [.ref 171, .int (I r)] h 0 0 (fun rv h' => rv = some (.int (I (if 2 ≤ r ∧ r ≤ 9 then mtG (gi h 171 3) r 999 else -1))) ∧ GD gE gRL sh h' ∧ FRM gRL [(0, 54, 0, 0), (0, 54, 1, 1), (0, 54, 48, 49), (1, 55, 0, 39)] h h' ∧ gi h' 171 0 = 0 ∧ mrow h' = if (2 ≤ r ∧ r ≤ 9) ∧ 0 < mtG (gi h 171 3) r 999 then [(bN (gi h 171 3) ((gi h 171 3) - 1 + mtG (gi h 171 3) r 999).toNat).1] else mrow h) := by
  refine x_met _ rfl (Nat.le_of_ble_eq_true rfl) (fun K hK => ?_)
  have hmono := MONO_CLd hSP 3
  have gL := gri 2 40 hG (a := 171) (r := 54) (k := 3) rfl rfl
  have loop : ∀ (mz : Nat) (oa ow k : Int) (h4 : aH) (ls : List (Nat × Value)), ((1000 - k).toNat = mz) → (2 ≤ r ∧ r ≤ 9) → (1 ≤ k ∧ k ≤ 1000) → (oa = (bN (gi h 171 3) ((gi h 171 3) - 1 + (k - 1)).toNat).1) → (ow = (bN (gi h 171 3) ((gi h 171 3) - 1 + (k - 1)).toNat).2) → (gi h4 171 0 = 0) → (gi h4 171 48 = (bN (gi h 171 3) ((k - 1) - (k - 1) / r).toNat).1) → (gi h4 171 49 = (bN (gi h 171 3) ((k - 1) - (k - 1) / r).toNat).2) → (mtG (gi h 171 3) r (1000 - k).toNat = mtG (gi h 171 3) r 999) → (mrow h4 = mrow h) → lk ls 0 = some (.ref 171) → lk ls 1 = some (.int (I r)) → lk ls 2 = some (.int (I oa)) → lk ls 3 = some (.int (I ow)) → lk ls 4 = some (.int (I k)) → GD gE gRL sh h4 → FRM gRL [(0, 54, 0, 0), (0, 54, 1, 1), (0, 54, 48, 49), (1, 55, 0, 39)] h h4 → K 32 ls [] h4 0 0 := by
    intro mz
    induction mz using Nat.strongRecOn with
    | ind mz ih =>
    intro oa ow k h4 ls hm q0 k0 oe of t4 d8 d9 sv rw4 l0 l1 l2 l3 l4 hG4 hF4
    have ws := wk_s (k := k) (r := r) k0.1 q0
    have bb := bN_b gL.1 ((k - 1) - (k - 1) / r).toNat
    have bo := bN_b gL.1 ((gi h 171 3) - 1 + (k - 1)).toNat
    rw [← oe, ← of] at bo
    have e3 : gi h4 171 3 = gi h 171 3 := FRM_gi hF4 (r := 54) rfl rfl
    have km := Int.emod_nonneg k (show r ≠ 0 by omega)
    have kl := Int.emod_lt_of_pos k (show 0 < r by omega)
    have u := fun z : k ≤ 999 => mtG_u (L := (gi h 171 3)) (r := r) ⟨k0.1, z⟩
    have on : (bN (gi h 171 3) ((gi h 171 3) - 1 + k).toNat) = (oa + ow, if oa + ow = (gi h 171 3) - 1 then -1 else if oa + ow = 0 then 1 else ow) := by rw [show ((gi h 171 3) - 1 + k).toNat = ((gi h 171 3) - 1 + (k - 1)).toNat + 1 by omega, oe, of]; rfl
    refine x_iload 34 hK rfl rfl l4 ?_
    refine x_sipush 37 hK rfl rfl rfl ?_
    refine x_if_icmp_gt 107 40 hK rfl rfl rfl (by omega) (by omega) (fun c3 => ?_) (fun c3 => ?_)
    · refine x_bipush 109 hK rfl rfl rfl ?_
      have e9 : mtG (gi h 171 3) r 999 = -2 := by rw [← sv, show (1000 - k).toNat = 0 by omega]; rfl
      exact x_iret hK rfl ⟨by rw [if_pos q0, e9], hG4, hF4, t4, by rw [if_neg (by omega)]; exact rw4⟩
    · refine x_iload 42 hK rfl rfl l4 ?_
      refine x_iload_n 43 hK rfl rfl l1 ?_
      refine x_iremp 44 hK rfl rfl (by omega) (by omega) (by omega) (by omega) ?_
      refine x_if_eq 51 47 hK rfl rfl rfl (by omega) (fun c9 => ?_) (fun c9 => ?_)
      · have we := ws.1 (by omega)
        have bk := bN_b gL.1 (k - k / r).toNat
        rw [we] at bk
        refine x_iload_n 52 hK rfl rfl l2 ?_
        refine x_iload_n 53 hK rfl rfl l3 ?_
        refine x_iadd 54 hK rfl rfl ?_
        refine x_istore_n 55 hK rfl rfl _ rfl ?_
        refine x_iload_n 56 hK rfl rfl lk1_s ?_
        refine x_aload_n 57 hK rfl rfl (lk1_n l0 (by decide) (Or.inl rfl)) ?_
        have g323 := gri (2) (40) hG (a := 171) (r := 54) (k := 3) rfl rfl
        refine x_getE 60 hK rfl (Or.inl rfl) rfl (sp_171 (h := h4) hG4) (e := (gi h 171 3)) (e3) ?_
        refine x_iconst 61 hK rfl rfl ?_
        refine x_isub 62 hK rfl rfl ?_
        refine x_if_icmp_ne 69 65 hK rfl rfl rfl (by omega) (by omega) (fun c20 => ?_) (fun c20 => ?_)
        · refine x_iload_n 70 hK rfl rfl lk1_s ?_
          refine x_if_ne 77 73 hK rfl rfl rfl (by omega) (fun c22 => ?_) (fun c22 => ?_)
          · refine x_iload_n 78 hK rfl rfl (lk1_n l3 (by decide) (Or.inl rfl)) ?_
            refine x_istore_n 79 hK rfl rfl _ rfl ?_
            refine x_iload_n 80 hK rfl rfl (lk1_n lk1_s (by decide) (Or.inl rfl)) ?_
            refine x_aload_n 81 hK rfl rfl (lk1_n (lk1_n l0 (by decide) (Or.inl rfl)) (by decide) (Or.inl rfl)) ?_
            refine x_getE 84 hK rfl (Or.inl rfl) rfl (sp_171 (h := h4) hG4) (e := (bN (gi h 171 3) ((k - 1) - (k - 1) / r).toNat).1) (d8) ?_
            refine x_if_icmp_ne 101 87 hK rfl rfl rfl (by omega) (by omega) (fun c28 => ?_) (fun c28 => ?_)
            · refine x_iinc 104 hK rfl rfl (lk1_n (lk1_n l4 (by decide) (Or.inl rfl)) (by decide) (Or.inl rfl)) _ rfl ?_
              refine x_goto 32 hK rfl rfl ?_
              exact ih _ (by omega) (oa + ow) ow (k + 1) _ _ rfl (q0) (by omega) ((by rw [show k + 1 - 1 = k by omega, on])) ((by rw [show k + 1 - 1 = k by omega, on]; show ow = if oa + ow = (gi h 171 3) - 1 then -1 else if oa + ow = 0 then 1 else ow; first | rw [if_pos (by omega)] | rw [if_neg (by omega), if_pos (by omega)] | rw [if_neg (by omega), if_neg (by omega)])) (t4) ((by rw [show k + 1 - 1 = k by omega, we]; exact d8)) ((by rw [show k + 1 - 1 = k by omega, we]; exact d9)) ((by rw [← sv, u (by omega), if_neg (fun z => by rw [we, on] at z; simp only at z; omega)])) (rw4) (lk1_n (lk1_n (lk1_n l0 (by decide) (Or.inl rfl)) (by decide) (Or.inl rfl)) (by decide) (Or.inl rfl)) (lk1_n (lk1_n (lk1_n l1 (by decide) (Or.inl rfl)) (by decide) (Or.inl rfl)) (by decide) (Or.inl rfl)) (lk1_n (lk1_n lk1_s (by decide) (Or.inl rfl)) (by decide) (Or.inl rfl)) (lk1_n lk1_s (by decide) (Or.inl rfl)) lk1_s (hG4) (hF4)
            · refine x_aload_n 88 hK rfl rfl (lk1_n (lk1_n l0 (by decide) (Or.inl rfl)) (by decide) (Or.inl rfl)) ?_
              refine x_iconst 89 hK rfl rfl ?_
              refine x_putI 92 hK rfl rfl (sp_171 (h := h4) hG4) ?_
              refine x_aload_n 93 hK rfl rfl (lk1_n (lk1_n l0 (by decide) (Or.inl rfl)) (by decide) (Or.inl rfl)) ?_
              refine x_iload_n 94 hK rfl rfl (lk1_n lk1_s (by decide) (Or.inl rfl)) ?_
              refine x_i2l 95 hK rfl rfl (by omega) ?_
              have hGp324 : GD gE gRL sh (wI h4 171 1 0) := GD_w1 (hG4) (r := 54) rfl (by omega) rfl (by omega) (by omega)
              have z326 : gi (wI h4 171 1 0) 171 1 = 0 := gi_same (by omega)
              have z326r : mrow (wI h4 171 1 0) = [] := mrow_0 (gi_same (by omega))
              refine x_callV 98 hK hmono rfl rfl [.ref 171, .long (J (oa + ow))] [] rfl rfl (Nat.le_of_ble_eq_true rfl) (Nat.le_of_ble_eq_true rfl) rfl (sp_171 (h := h4) hG4) (CLd_le (Nat.le_of_ble_eq_true rfl) (ctX11_entersF hSP hGp324 (by omega) (by omega))) ?_
              rintro v325 h325 ⟨rfl, hG325, hF325, t325, s325⟩
              rw [z326] at t325
              rw [z326r] at s325
              replace t325 : gi h325 171 1 = 1 := t325
              change mrow h325 = [(oa + ow)] at s325
              refine x_iload 100 hK rfl rfl (lk1_n (lk1_n l4 (by decide) (Or.inl rfl)) (by decide) (Or.inl rfl)) ?_
              have e9 : mtG (gi h 171 3) r 999 = k := by rw [← sv, u (by omega), if_pos (by rw [we, on]; show _ = oa + ow; omega)]
              exact x_iret hK rfl ⟨by rw [if_pos q0, e9], hG325, (FRM_w (hF4) (r := 54) rfl rfl).trans ((hF325).mono rfl), (FRM_gi hF325 (r := 54) rfl rfl).trans ((gi_k (by decide) _).trans (t4)), by rw [if_pos ⟨q0, by omega⟩, e9, on]; exact s325⟩
          · refine x_iconst 74 hK rfl rfl ?_
            refine x_goto 78 hK rfl rfl ?_
            refine x_istore_n 79 hK rfl rfl _ rfl ?_
            refine x_iload_n 80 hK rfl rfl (lk1_n lk1_s (by decide) (Or.inl rfl)) ?_
            refine x_aload_n 81 hK rfl rfl (lk1_n (lk1_n l0 (by decide) (Or.inl rfl)) (by decide) (Or.inl rfl)) ?_
            refine x_getE 84 hK rfl (Or.inl rfl) rfl (sp_171 (h := h4) hG4) (e := (bN (gi h 171 3) ((k - 1) - (k - 1) / r).toNat).1) (d8) ?_
            refine x_if_icmp_ne 101 87 hK rfl rfl rfl (by omega) (by omega) (fun c47 => ?_) (fun c47 => ?_)
            · refine x_iinc 104 hK rfl rfl (lk1_n (lk1_n l4 (by decide) (Or.inl rfl)) (by decide) (Or.inl rfl)) _ rfl ?_
              refine x_goto 32 hK rfl rfl ?_
              exact ih _ (by omega) (oa + ow) 1 (k + 1) _ _ rfl (q0) (by omega) ((by rw [show k + 1 - 1 = k by omega, on])) ((by rw [show k + 1 - 1 = k by omega, on]; show 1 = if oa + ow = (gi h 171 3) - 1 then -1 else if oa + ow = 0 then 1 else ow; first | rw [if_pos (by omega)] | rw [if_neg (by omega), if_pos (by omega)] | rw [if_neg (by omega), if_neg (by omega)])) (t4) ((by rw [show k + 1 - 1 = k by omega, we]; exact d8)) ((by rw [show k + 1 - 1 = k by omega, we]; exact d9)) ((by rw [← sv, u (by omega), if_neg (fun z => by rw [we, on] at z; simp only at z; omega)])) (rw4) (lk1_n (lk1_n (lk1_n l0 (by decide) (Or.inl rfl)) (by decide) (Or.inl rfl)) (by decide) (Or.inl rfl)) (lk1_n (lk1_n (lk1_n l1 (by decide) (Or.inl rfl)) (by decide) (Or.inl rfl)) (by decide) (Or.inl rfl)) (lk1_n (lk1_n lk1_s (by decide) (Or.inl rfl)) (by decide) (Or.inl rfl)) (lk1_n lk1_s (by decide) (Or.inl rfl)) lk1_s (hG4) (hF4)
            · refine x_aload_n 88 hK rfl rfl (lk1_n (lk1_n l0 (by decide) (Or.inl rfl)) (by decide) (Or.inl rfl)) ?_
              refine x_iconst 89 hK rfl rfl ?_
              refine x_putI 92 hK rfl rfl (sp_171 (h := h4) hG4) ?_
              refine x_aload_n 93 hK rfl rfl (lk1_n (lk1_n l0 (by decide) (Or.inl rfl)) (by decide) (Or.inl rfl)) ?_
              refine x_iload_n 94 hK rfl rfl (lk1_n lk1_s (by decide) (Or.inl rfl)) ?_
              refine x_i2l 95 hK rfl rfl (by omega) ?_
              have hGp327 : GD gE gRL sh (wI h4 171 1 0) := GD_w1 (hG4) (r := 54) rfl (by omega) rfl (by omega) (by omega)
              have z329 : gi (wI h4 171 1 0) 171 1 = 0 := gi_same (by omega)
              have z329r : mrow (wI h4 171 1 0) = [] := mrow_0 (gi_same (by omega))
              refine x_callV 98 hK hmono rfl rfl [.ref 171, .long (J (oa + ow))] [] rfl rfl (Nat.le_of_ble_eq_true rfl) (Nat.le_of_ble_eq_true rfl) rfl (sp_171 (h := h4) hG4) (CLd_le (Nat.le_of_ble_eq_true rfl) (ctX11_entersF hSP hGp327 (by omega) (by omega))) ?_
              rintro v328 h328 ⟨rfl, hG328, hF328, t328, s328⟩
              rw [z329] at t328
              rw [z329r] at s328
              replace t328 : gi h328 171 1 = 1 := t328
              change mrow h328 = [(oa + ow)] at s328
              refine x_iload 100 hK rfl rfl (lk1_n (lk1_n l4 (by decide) (Or.inl rfl)) (by decide) (Or.inl rfl)) ?_
              have e9 : mtG (gi h 171 3) r 999 = k := by rw [← sv, u (by omega), if_pos (by rw [we, on]; show _ = oa + ow; omega)]
              exact x_iret hK rfl ⟨by rw [if_pos q0, e9], hG328, (FRM_w (hF4) (r := 54) rfl rfl).trans ((hF328).mono rfl), (FRM_gi hF328 (r := 54) rfl rfl).trans ((gi_k (by decide) _).trans (t4)), by rw [if_pos ⟨q0, by omega⟩, e9, on]; exact s328⟩
        · refine x_iconst 66 hK rfl rfl ?_
          refine x_goto 78 hK rfl rfl ?_
          refine x_istore_n 79 hK rfl rfl _ rfl ?_
          refine x_iload_n 80 hK rfl rfl (lk1_n lk1_s (by decide) (Or.inl rfl)) ?_
          refine x_aload_n 81 hK rfl rfl (lk1_n (lk1_n l0 (by decide) (Or.inl rfl)) (by decide) (Or.inl rfl)) ?_
          refine x_getE 84 hK rfl (Or.inl rfl) rfl (sp_171 (h := h4) hG4) (e := (bN (gi h 171 3) ((k - 1) - (k - 1) / r).toNat).1) (d8) ?_
          refine x_if_icmp_ne 101 87 hK rfl rfl rfl (by omega) (by omega) (fun c66 => ?_) (fun c66 => ?_)
          · refine x_iinc 104 hK rfl rfl (lk1_n (lk1_n l4 (by decide) (Or.inl rfl)) (by decide) (Or.inl rfl)) _ rfl ?_
            refine x_goto 32 hK rfl rfl ?_
            exact ih _ (by omega) (oa + ow) (-1) (k + 1) _ _ rfl (q0) (by omega) ((by rw [show k + 1 - 1 = k by omega, on])) ((by rw [show k + 1 - 1 = k by omega, on]; show (-1) = if oa + ow = (gi h 171 3) - 1 then -1 else if oa + ow = 0 then 1 else ow; first | rw [if_pos (by omega)] | rw [if_neg (by omega), if_pos (by omega)] | rw [if_neg (by omega), if_neg (by omega)])) (t4) ((by rw [show k + 1 - 1 = k by omega, we]; exact d8)) ((by rw [show k + 1 - 1 = k by omega, we]; exact d9)) ((by rw [← sv, u (by omega), if_neg (fun z => by rw [we, on] at z; simp only at z; omega)])) (rw4) (lk1_n (lk1_n (lk1_n l0 (by decide) (Or.inl rfl)) (by decide) (Or.inl rfl)) (by decide) (Or.inl rfl)) (lk1_n (lk1_n (lk1_n l1 (by decide) (Or.inl rfl)) (by decide) (Or.inl rfl)) (by decide) (Or.inl rfl)) (lk1_n (lk1_n lk1_s (by decide) (Or.inl rfl)) (by decide) (Or.inl rfl)) (lk1_n lk1_s (by decide) (Or.inl rfl)) lk1_s (hG4) (hF4)
          · refine x_aload_n 88 hK rfl rfl (lk1_n (lk1_n l0 (by decide) (Or.inl rfl)) (by decide) (Or.inl rfl)) ?_
            refine x_iconst 89 hK rfl rfl ?_
            refine x_putI 92 hK rfl rfl (sp_171 (h := h4) hG4) ?_
            refine x_aload_n 93 hK rfl rfl (lk1_n (lk1_n l0 (by decide) (Or.inl rfl)) (by decide) (Or.inl rfl)) ?_
            refine x_iload_n 94 hK rfl rfl (lk1_n lk1_s (by decide) (Or.inl rfl)) ?_
            refine x_i2l 95 hK rfl rfl (by omega) ?_
            have hGp330 : GD gE gRL sh (wI h4 171 1 0) := GD_w1 (hG4) (r := 54) rfl (by omega) rfl (by omega) (by omega)
            have z332 : gi (wI h4 171 1 0) 171 1 = 0 := gi_same (by omega)
            have z332r : mrow (wI h4 171 1 0) = [] := mrow_0 (gi_same (by omega))
            refine x_callV 98 hK hmono rfl rfl [.ref 171, .long (J (oa + ow))] [] rfl rfl (Nat.le_of_ble_eq_true rfl) (Nat.le_of_ble_eq_true rfl) rfl (sp_171 (h := h4) hG4) (CLd_le (Nat.le_of_ble_eq_true rfl) (ctX11_entersF hSP hGp330 (by omega) (by omega))) ?_
            rintro v331 h331 ⟨rfl, hG331, hF331, t331, s331⟩
            rw [z332] at t331
            rw [z332r] at s331
            replace t331 : gi h331 171 1 = 1 := t331
            change mrow h331 = [(oa + ow)] at s331
            refine x_iload 100 hK rfl rfl (lk1_n (lk1_n l4 (by decide) (Or.inl rfl)) (by decide) (Or.inl rfl)) ?_
            have e9 : mtG (gi h 171 3) r 999 = k := by rw [← sv, u (by omega), if_pos (by rw [we, on]; show _ = oa + ow; omega)]
            exact x_iret hK rfl ⟨by rw [if_pos q0, e9], hG331, (FRM_w (hF4) (r := 54) rfl rfl).trans ((hF331).mono rfl), (FRM_gi hF331 (r := 54) rfl rfl).trans ((gi_k (by decide) _).trans (t4)), by rw [if_pos ⟨q0, by omega⟩, e9, on]; exact s331⟩
      · refine x_aload_n 48 hK rfl rfl l0 ?_
        have z48 : gi h4 171 48 = (bN (gi h 171 3) ((k - 1) - (k - 1) / r).toNat).1 := d8
        have z49 : gi h4 171 49 = (bN (gi h 171 3) ((k - 1) - (k - 1) / r).toNat).2 := d9
        have z3 : gi h4 171 3 = (gi h 171 3) := e3
        refine x_callV 51 hK hmono rfl rfl [.ref 171] [] rfl rfl (Nat.le_of_ble_eq_true rfl) (Nat.le_of_ble_eq_true rfl) rfl (sp_171 (h := h4) hG4) (CLd_le (Nat.le_of_ble_eq_true rfl) (ctX11_boyGoes hSP hG4 (j := ((k - 1) - (k - 1) / r).toNat) (by rw [z3]; exact z48) (by rw [z3]; exact z49))) ?_
        rw [z3]
        rintro v333 h333 ⟨rfl, hG333, hF333, a333, b333⟩
        have we := ws.2 (by omega)
        have bk := bN_b gL.1 (k - k / r).toNat
        rw [we] at bk
        refine x_iload_n 52 hK rfl rfl l2 ?_
        refine x_iload_n 53 hK rfl rfl l3 ?_
        refine x_iadd 54 hK rfl rfl ?_
        refine x_istore_n 55 hK rfl rfl _ rfl ?_
        refine x_iload_n 56 hK rfl rfl lk1_s ?_
        refine x_aload_n 57 hK rfl rfl (lk1_n l0 (by decide) (Or.inl rfl)) ?_
        have g334 := gri (2) (40) hG (a := 171) (r := 54) (k := 3) rfl rfl
        refine x_getE 60 hK rfl (Or.inl rfl) rfl (sp_171 (h := h333) hG333) (e := (gi h 171 3)) ((FRM_gi hF333 (r := 54) rfl rfl).trans (e3)) ?_
        refine x_iconst 61 hK rfl rfl ?_
        refine x_isub 62 hK rfl rfl ?_
        refine x_if_icmp_ne 69 65 hK rfl rfl rfl (by omega) (by omega) (fun c91 => ?_) (fun c91 => ?_)
        · refine x_iload_n 70 hK rfl rfl lk1_s ?_
          refine x_if_ne 77 73 hK rfl rfl rfl (by omega) (fun c93 => ?_) (fun c93 => ?_)
          · refine x_iload_n 78 hK rfl rfl (lk1_n l3 (by decide) (Or.inl rfl)) ?_
            refine x_istore_n 79 hK rfl rfl _ rfl ?_
            refine x_iload_n 80 hK rfl rfl (lk1_n lk1_s (by decide) (Or.inl rfl)) ?_
            refine x_aload_n 81 hK rfl rfl (lk1_n (lk1_n l0 (by decide) (Or.inl rfl)) (by decide) (Or.inl rfl)) ?_
            refine x_getE 84 hK rfl (Or.inl rfl) rfl (sp_171 (h := h333) hG333) (e := (bN (gi h 171 3) (((k - 1) - (k - 1) / r).toNat + 1)).1) (a333) ?_
            refine x_if_icmp_ne 101 87 hK rfl rfl rfl (by omega) (by omega) (fun c99 => ?_) (fun c99 => ?_)
            · refine x_iinc 104 hK rfl rfl (lk1_n (lk1_n l4 (by decide) (Or.inl rfl)) (by decide) (Or.inl rfl)) _ rfl ?_
              refine x_goto 32 hK rfl rfl ?_
              exact ih _ (by omega) (oa + ow) ow (k + 1) _ _ rfl (q0) (by omega) ((by rw [show k + 1 - 1 = k by omega, on])) ((by rw [show k + 1 - 1 = k by omega, on]; show ow = if oa + ow = (gi h 171 3) - 1 then -1 else if oa + ow = 0 then 1 else ow; first | rw [if_pos (by omega)] | rw [if_neg (by omega), if_pos (by omega)] | rw [if_neg (by omega), if_neg (by omega)])) ((FRM_gi hF333 (r := 54) rfl rfl).trans (t4)) ((by rw [show k + 1 - 1 = k by omega, we]; exact a333)) ((by rw [show k + 1 - 1 = k by omega, we]; exact b333)) ((by rw [← sv, u (by omega), if_neg (fun z => by rw [we, on] at z; simp only at z; omega)])) ((mrow_F hF333 rfl rfl).trans (rw4)) (lk1_n (lk1_n (lk1_n l0 (by decide) (Or.inl rfl)) (by decide) (Or.inl rfl)) (by decide) (Or.inl rfl)) (lk1_n (lk1_n (lk1_n l1 (by decide) (Or.inl rfl)) (by decide) (Or.inl rfl)) (by decide) (Or.inl rfl)) (lk1_n (lk1_n lk1_s (by decide) (Or.inl rfl)) (by decide) (Or.inl rfl)) (lk1_n lk1_s (by decide) (Or.inl rfl)) lk1_s (hG333) ((hF4).trans ((hF333).mono rfl))
            · refine x_aload_n 88 hK rfl rfl (lk1_n (lk1_n l0 (by decide) (Or.inl rfl)) (by decide) (Or.inl rfl)) ?_
              refine x_iconst 89 hK rfl rfl ?_
              refine x_putI 92 hK rfl rfl (sp_171 (h := h333) hG333) ?_
              refine x_aload_n 93 hK rfl rfl (lk1_n (lk1_n l0 (by decide) (Or.inl rfl)) (by decide) (Or.inl rfl)) ?_
              refine x_iload_n 94 hK rfl rfl (lk1_n lk1_s (by decide) (Or.inl rfl)) ?_
              refine x_i2l 95 hK rfl rfl (by omega) ?_
              have hGp335 : GD gE gRL sh (wI h333 171 1 0) := GD_w1 (hG333) (r := 54) rfl (by omega) rfl (by omega) (by omega)
              have z337 : gi (wI h333 171 1 0) 171 1 = 0 := gi_same (by omega)
              have z337r : mrow (wI h333 171 1 0) = [] := mrow_0 (gi_same (by omega))
              refine x_callV 98 hK hmono rfl rfl [.ref 171, .long (J (oa + ow))] [] rfl rfl (Nat.le_of_ble_eq_true rfl) (Nat.le_of_ble_eq_true rfl) rfl (sp_171 (h := h333) hG333) (CLd_le (Nat.le_of_ble_eq_true rfl) (ctX11_entersF hSP hGp335 (by omega) (by omega))) ?_
              rintro v336 h336 ⟨rfl, hG336, hF336, t336, s336⟩
              rw [z337] at t336
              rw [z337r] at s336
              replace t336 : gi h336 171 1 = 1 := t336
              change mrow h336 = [(oa + ow)] at s336
              refine x_iload 100 hK rfl rfl (lk1_n (lk1_n l4 (by decide) (Or.inl rfl)) (by decide) (Or.inl rfl)) ?_
              have e9 : mtG (gi h 171 3) r 999 = k := by rw [← sv, u (by omega), if_pos (by rw [we, on]; show _ = oa + ow; omega)]
              exact x_iret hK rfl ⟨by rw [if_pos q0, e9], hG336, (FRM_w ((hF4).trans ((hF333).mono rfl)) (r := 54) rfl rfl).trans ((hF336).mono rfl), (FRM_gi hF336 (r := 54) rfl rfl).trans ((gi_k (by decide) _).trans ((FRM_gi hF333 (r := 54) rfl rfl).trans (t4))), by rw [if_pos ⟨q0, by omega⟩, e9, on]; exact s336⟩
          · refine x_iconst 74 hK rfl rfl ?_
            refine x_goto 78 hK rfl rfl ?_
            refine x_istore_n 79 hK rfl rfl _ rfl ?_
            refine x_iload_n 80 hK rfl rfl (lk1_n lk1_s (by decide) (Or.inl rfl)) ?_
            refine x_aload_n 81 hK rfl rfl (lk1_n (lk1_n l0 (by decide) (Or.inl rfl)) (by decide) (Or.inl rfl)) ?_
            refine x_getE 84 hK rfl (Or.inl rfl) rfl (sp_171 (h := h333) hG333) (e := (bN (gi h 171 3) (((k - 1) - (k - 1) / r).toNat + 1)).1) (a333) ?_
            refine x_if_icmp_ne 101 87 hK rfl rfl rfl (by omega) (by omega) (fun c118 => ?_) (fun c118 => ?_)
            · refine x_iinc 104 hK rfl rfl (lk1_n (lk1_n l4 (by decide) (Or.inl rfl)) (by decide) (Or.inl rfl)) _ rfl ?_
              refine x_goto 32 hK rfl rfl ?_
              exact ih _ (by omega) (oa + ow) 1 (k + 1) _ _ rfl (q0) (by omega) ((by rw [show k + 1 - 1 = k by omega, on])) ((by rw [show k + 1 - 1 = k by omega, on]; show 1 = if oa + ow = (gi h 171 3) - 1 then -1 else if oa + ow = 0 then 1 else ow; first | rw [if_pos (by omega)] | rw [if_neg (by omega), if_pos (by omega)] | rw [if_neg (by omega), if_neg (by omega)])) ((FRM_gi hF333 (r := 54) rfl rfl).trans (t4)) ((by rw [show k + 1 - 1 = k by omega, we]; exact a333)) ((by rw [show k + 1 - 1 = k by omega, we]; exact b333)) ((by rw [← sv, u (by omega), if_neg (fun z => by rw [we, on] at z; simp only at z; omega)])) ((mrow_F hF333 rfl rfl).trans (rw4)) (lk1_n (lk1_n (lk1_n l0 (by decide) (Or.inl rfl)) (by decide) (Or.inl rfl)) (by decide) (Or.inl rfl)) (lk1_n (lk1_n (lk1_n l1 (by decide) (Or.inl rfl)) (by decide) (Or.inl rfl)) (by decide) (Or.inl rfl)) (lk1_n (lk1_n lk1_s (by decide) (Or.inl rfl)) (by decide) (Or.inl rfl)) (lk1_n lk1_s (by decide) (Or.inl rfl)) lk1_s (hG333) ((hF4).trans ((hF333).mono rfl))
            · refine x_aload_n 88 hK rfl rfl (lk1_n (lk1_n l0 (by decide) (Or.inl rfl)) (by decide) (Or.inl rfl)) ?_
              refine x_iconst 89 hK rfl rfl ?_
              refine x_putI 92 hK rfl rfl (sp_171 (h := h333) hG333) ?_
              refine x_aload_n 93 hK rfl rfl (lk1_n (lk1_n l0 (by decide) (Or.inl rfl)) (by decide) (Or.inl rfl)) ?_
              refine x_iload_n 94 hK rfl rfl (lk1_n lk1_s (by decide) (Or.inl rfl)) ?_
              refine x_i2l 95 hK rfl rfl (by omega) ?_
              have hGp338 : GD gE gRL sh (wI h333 171 1 0) := GD_w1 (hG333) (r := 54) rfl (by omega) rfl (by omega) (by omega)
              have z340 : gi (wI h333 171 1 0) 171 1 = 0 := gi_same (by omega)
              have z340r : mrow (wI h333 171 1 0) = [] := mrow_0 (gi_same (by omega))
              refine x_callV 98 hK hmono rfl rfl [.ref 171, .long (J (oa + ow))] [] rfl rfl (Nat.le_of_ble_eq_true rfl) (Nat.le_of_ble_eq_true rfl) rfl (sp_171 (h := h333) hG333) (CLd_le (Nat.le_of_ble_eq_true rfl) (ctX11_entersF hSP hGp338 (by omega) (by omega))) ?_
              rintro v339 h339 ⟨rfl, hG339, hF339, t339, s339⟩
              rw [z340] at t339
              rw [z340r] at s339
              replace t339 : gi h339 171 1 = 1 := t339
              change mrow h339 = [(oa + ow)] at s339
              refine x_iload 100 hK rfl rfl (lk1_n (lk1_n l4 (by decide) (Or.inl rfl)) (by decide) (Or.inl rfl)) ?_
              have e9 : mtG (gi h 171 3) r 999 = k := by rw [← sv, u (by omega), if_pos (by rw [we, on]; show _ = oa + ow; omega)]
              exact x_iret hK rfl ⟨by rw [if_pos q0, e9], hG339, (FRM_w ((hF4).trans ((hF333).mono rfl)) (r := 54) rfl rfl).trans ((hF339).mono rfl), (FRM_gi hF339 (r := 54) rfl rfl).trans ((gi_k (by decide) _).trans ((FRM_gi hF333 (r := 54) rfl rfl).trans (t4))), by rw [if_pos ⟨q0, by omega⟩, e9, on]; exact s339⟩
        · refine x_iconst 66 hK rfl rfl ?_
          refine x_goto 78 hK rfl rfl ?_
          refine x_istore_n 79 hK rfl rfl _ rfl ?_
          refine x_iload_n 80 hK rfl rfl (lk1_n lk1_s (by decide) (Or.inl rfl)) ?_
          refine x_aload_n 81 hK rfl rfl (lk1_n (lk1_n l0 (by decide) (Or.inl rfl)) (by decide) (Or.inl rfl)) ?_
          refine x_getE 84 hK rfl (Or.inl rfl) rfl (sp_171 (h := h333) hG333) (e := (bN (gi h 171 3) (((k - 1) - (k - 1) / r).toNat + 1)).1) (a333) ?_
          refine x_if_icmp_ne 101 87 hK rfl rfl rfl (by omega) (by omega) (fun c137 => ?_) (fun c137 => ?_)
          · refine x_iinc 104 hK rfl rfl (lk1_n (lk1_n l4 (by decide) (Or.inl rfl)) (by decide) (Or.inl rfl)) _ rfl ?_
            refine x_goto 32 hK rfl rfl ?_
            exact ih _ (by omega) (oa + ow) (-1) (k + 1) _ _ rfl (q0) (by omega) ((by rw [show k + 1 - 1 = k by omega, on])) ((by rw [show k + 1 - 1 = k by omega, on]; show (-1) = if oa + ow = (gi h 171 3) - 1 then -1 else if oa + ow = 0 then 1 else ow; first | rw [if_pos (by omega)] | rw [if_neg (by omega), if_pos (by omega)] | rw [if_neg (by omega), if_neg (by omega)])) ((FRM_gi hF333 (r := 54) rfl rfl).trans (t4)) ((by rw [show k + 1 - 1 = k by omega, we]; exact a333)) ((by rw [show k + 1 - 1 = k by omega, we]; exact b333)) ((by rw [← sv, u (by omega), if_neg (fun z => by rw [we, on] at z; simp only at z; omega)])) ((mrow_F hF333 rfl rfl).trans (rw4)) (lk1_n (lk1_n (lk1_n l0 (by decide) (Or.inl rfl)) (by decide) (Or.inl rfl)) (by decide) (Or.inl rfl)) (lk1_n (lk1_n (lk1_n l1 (by decide) (Or.inl rfl)) (by decide) (Or.inl rfl)) (by decide) (Or.inl rfl)) (lk1_n (lk1_n lk1_s (by decide) (Or.inl rfl)) (by decide) (Or.inl rfl)) (lk1_n lk1_s (by decide) (Or.inl rfl)) lk1_s (hG333) ((hF4).trans ((hF333).mono rfl))
          · refine x_aload_n 88 hK rfl rfl (lk1_n (lk1_n l0 (by decide) (Or.inl rfl)) (by decide) (Or.inl rfl)) ?_
            refine x_iconst 89 hK rfl rfl ?_
            refine x_putI 92 hK rfl rfl (sp_171 (h := h333) hG333) ?_
            refine x_aload_n 93 hK rfl rfl (lk1_n (lk1_n l0 (by decide) (Or.inl rfl)) (by decide) (Or.inl rfl)) ?_
            refine x_iload_n 94 hK rfl rfl (lk1_n lk1_s (by decide) (Or.inl rfl)) ?_
            refine x_i2l 95 hK rfl rfl (by omega) ?_
            have hGp341 : GD gE gRL sh (wI h333 171 1 0) := GD_w1 (hG333) (r := 54) rfl (by omega) rfl (by omega) (by omega)
            have z343 : gi (wI h333 171 1 0) 171 1 = 0 := gi_same (by omega)
            have z343r : mrow (wI h333 171 1 0) = [] := mrow_0 (gi_same (by omega))
            refine x_callV 98 hK hmono rfl rfl [.ref 171, .long (J (oa + ow))] [] rfl rfl (Nat.le_of_ble_eq_true rfl) (Nat.le_of_ble_eq_true rfl) rfl (sp_171 (h := h333) hG333) (CLd_le (Nat.le_of_ble_eq_true rfl) (ctX11_entersF hSP hGp341 (by omega) (by omega))) ?_
            rintro v342 h342 ⟨rfl, hG342, hF342, t342, s342⟩
            rw [z343] at t342
            rw [z343r] at s342
            replace t342 : gi h342 171 1 = 1 := t342
            change mrow h342 = [(oa + ow)] at s342
            refine x_iload 100 hK rfl rfl (lk1_n (lk1_n l4 (by decide) (Or.inl rfl)) (by decide) (Or.inl rfl)) ?_
            have e9 : mtG (gi h 171 3) r 999 = k := by rw [← sv, u (by omega), if_pos (by rw [we, on]; show _ = oa + ow; omega)]
            exact x_iret hK rfl ⟨by rw [if_pos q0, e9], hG342, (FRM_w ((hF4).trans ((hF333).mono rfl)) (r := 54) rfl rfl).trans ((hF342).mono rfl), (FRM_gi hF342 (r := 54) rfl rfl).trans ((gi_k (by decide) _).trans ((FRM_gi hF333 (r := 54) rfl rfl).trans (t4))), by rw [if_pos ⟨q0, by omega⟩, e9, on]; exact s342⟩
  refine x_aload_n 1 hK rfl rfl rfl ?_
  refine x_iconst 2 hK rfl rfl ?_
  refine x_putI 5 hK rfl rfl (sp_171 (h := h) hG) ?_
  refine x_iload_n 6 hK rfl rfl rfl ?_
  have hGp344 : GD gE gRL sh (wI h 171 0 0) := GD_w1 (hG) (r := 54) rfl (by omega) rfl (by omega) (by omega)
  refine x_callS 9 hK hmono rfl (Or.inl rfl) rfl [.int (I r)] [] rfl rfl (Nat.le_of_ble_eq_true rfl) (Nat.le_of_ble_eq_true rfl) (CLd_le (Nat.le_of_ble_eq_true rfl) (ctX11_canRest hSP (by omega))) ?_
  rintro v9 h9 ⟨e9, ⟨rfl, i1345, i2345⟩ | ⟨rfl, i1345⟩⟩ <;> rw [e9] <;> clear e9
  · refine x_if_ne 14 12 hK rfl rfl rfl (by omega) (fun _ => ?_) (fun c => by omega)
    refine x_aload_n 15 hK rfl rfl rfl ?_
    have g346 := gri (2) (40) hG (a := 171) (r := 54) (k := 3) rfl rfl
    refine x_getE 18 hK rfl (Or.inl rfl) rfl (sp_171 (h := h) hG) (e := (gi h 171 3)) (gi_k (by decide) _) ?_
    refine x_iconst 19 hK rfl rfl ?_
    refine x_isub 20 hK rfl rfl ?_
    refine x_istore_n 21 hK rfl rfl [(2, .int (I ((gi h 171 3) - 1))), (0, .ref 171), (1, .int (I r))] rfl ?_
    refine x_iconst 22 hK rfl rfl ?_
    refine x_istore_n 23 hK rfl rfl [(3, .int (I (-1))), (2, .int (I ((gi h 171 3) - 1))), (0, .ref 171), (1, .int (I r))] rfl ?_
    refine x_aload_n 24 hK rfl rfl rfl ?_
    refine x_iconst 25 hK rfl rfl ?_
    refine x_iconst 26 hK rfl rfl ?_
    have hGp347 : GD gE gRL sh (wI h 171 0 0) := GD_w1 (hG) (r := 54) rfl (by omega) rfl (by omega) (by omega)
    refine x_callV 29 hK hmono rfl rfl [.ref 171, .int (I 0), .int (I 1)] [] rfl rfl (Nat.le_of_ble_eq_true rfl) (Nat.le_of_ble_eq_true rfl) rfl (sp_171 (h := h) hG) (CLd_le (Nat.le_of_ble_eq_true rfl) (ctX11_boyBegins hSP hGp347)) ?_
    rintro v348 h348 ⟨rfl, hG348, hF348, a348, b348⟩
    refine x_iconst 30 hK rfl rfl ?_
    refine x_istore 32 hK rfl rfl [(4, .int (I 1)), (3, .int (I (-1))), (2, .int (I ((gi h 171 3) - 1))), (0, .ref 171), (1, .int (I r))] rfl ?_
    exact loop _ ((gi h 171 3) - 1) (-1) 1 _ _ rfl (by omega) (by omega) ((by rw [show (gi h 171 3) - 1 + (1 - 1) = (gi h 171 3) - 1 by omega, bN_o gL.1])) ((by rw [show (gi h 171 3) - 1 + (1 - 1) = (gi h 171 3) - 1 by omega, bN_o gL.1])) ((FRM_gi hF348 (r := 54) rfl rfl).trans (gi_same (by omega))) ((by rw [show ((1 : Int) - 1 - (1 - 1) / r).toNat = 0 by rw [show (1 : Int) - 1 = 0 from rfl, Int.zero_ediv]; rfl]; exact a348)) ((by rw [show ((1 : Int) - 1 - (1 - 1) / r).toNat = 0 by rw [show (1 : Int) - 1 = 0 from rfl, Int.zero_ediv]; rfl]; exact b348)) (rfl) ((mrow_F hF348 rfl rfl).trans (mrow_k (by decide))) rfl rfl rfl rfl rfl (hG348) ((FRM_w ((FRM.rf : FRM gRL [(0, 54, 0, 0), (0, 54, 1, 1), (0, 54, 48, 49), (1, 55, 0, 39)] h h)) (r := 54) rfl rfl).trans ((hF348).mono rfl))
  · refine x_if_ne 14 12 hK rfl rfl rfl (by omega) (fun c => by omega) (fun _ => ?_)
    refine x_iconst 13 hK rfl rfl ?_
    exact x_iret hK rfl ⟨by rw [if_neg (by omega)], GD_w1 (hG) (r := 54) rfl (by omega) rfl (by omega) (by omega), FRM_w ((FRM.rf : FRM gRL [(0, 54, 0, 0), (0, 54, 1, 1), (0, 54, 48, 49), (1, 55, 0, 39)] h h)) (r := 54) rfl rfl, gi_same (by omega), by rw [if_neg (by omega)]; exact mrow_k (by decide)⟩
