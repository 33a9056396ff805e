/-! WHAT WAS ORDERED (the class) -/
set_option maxRecDepth 4000 in
theorem ctX10_put {SP : CT} (hSP : MONO SP) {h : aH} {v a b : Int} (rv : r32 v) (ra : r32 a) (rb : r32 b) : CLd SP 1 mX10_put [.int (I v), .int (I a), .int (I b)] h 0 0 (fun rv h' => h' = h ∧ rv = some (.int (I (max a (min b v))))) := by
  refine x_met _ rfl (Nat.le_of_ble_eq_true rfl) (fun K hK => ?_)
  have hmono := MONO_CLd hSP 0
  refine x_iload_n 1 hK rfl rfl rfl ?_
  refine x_iload_n 2 hK rfl rfl rfl ?_
  refine x_iload_n 3 hK rfl rfl rfl ?_
  refine x_min 6 hK rfl rfl (Nat.le_of_ble_eq_true rfl) (by omega) (by omega) ?_
  refine x_max 9 hK rfl rfl (Nat.le_of_ble_eq_true rfl) (by omega) (by omega) ?_
  exact x_iret hK rfl ⟨rfl, rfl⟩
set_option maxRecDepth 4000 in
theorem ctX10_keepOnSea {SP : CT} (hSP : MONO SP) {h : aH} {v : Int} (rv : r32 v) : CLd SP 2 mX10_keepOnSea [.int (I v)] h 0 0 (fun rv h' => h' = h ∧ rv = some (.int (I (max 0 (min 8 v))))) := by
  refine x_met _ rfl (Nat.le_of_ble_eq_true rfl) (fun K hK => ?_)
  have hmono := MONO_CLd hSP 1
  refine x_iload_n 1 hK rfl rfl rfl ?_
  refine x_iconst 2 hK rfl rfl ?_
  refine x_bipush 4 hK rfl rfl rfl ?_
  refine x_callS 7 hK hmono rfl (Or.inl rfl) rfl [.int (I v), .int (I 0), .int (I 8)] [] rfl rfl (Nat.le_of_ble_eq_true rfl) (Nat.le_of_ble_eq_true rfl) (CLd_le (Nat.le_of_ble_eq_true rfl) (ctX10_put hSP (v := v) (a := 0) (b := 8) (by omega) (by omega) (by omega))) ?_
  rintro v9 h9 ⟨e9, rfl⟩
  rw [e9]
  clear e9
  exact x_iret hK rfl ⟨rfl, rfl⟩
/-- the last step that was seen, by what was seen in each -/
def lcF (f : Nat → Int) : Nat → Int
  | 0 => 0
  | n + 1 => if f (n + 1) = -1 then lcF f n else (n + 1 : Nat)
theorem lcF_s {f : Nat → Int} {n : Int} (h : 0 < n) : lcF f n.toNat = if f n.toNat = -1 then lcF f (n - 1).toNat else n := by
  obtain ⟨k, rfl⟩ : ∃ k : Nat, n = k + 1 := ⟨(n - 1).toNat, by omega⟩
  rw [show ((k : Int) + 1).toNat = k + 1 by omega, show ((k : Int) + 1 - 1).toNat = k by omega]
  show (if f (k + 1) = -1 then lcF f k else ((k + 1 : Nat) : Int)) = _
  rfl
theorem lcF_b (f : Nat → Int) : ∀ n : Nat, 0 ≤ lcF f n ∧ lcF f n ≤ n
  | 0 => ⟨Int.le_refl _, Int.le_refl _⟩
  | n + 1 => by
    have := lcF_b f n
    show 0 ≤ (if f (n + 1) = -1 then lcF f n else ((n + 1 : Nat) : Int)) ∧ (if f (n + 1) = -1 then lcF f n else ((n + 1 : Nat) : Int)) ≤ _
    split <;> omega
theorem lcF_eq {f : Nat → Int} {L : Int} (h0 : 0 ≤ L) (hL : f L.toNat ≠ -1) : ∀ n : Nat, L ≤ n → (∀ k : Nat, L < k → k ≤ n → f k = -1) → lcF f n = L
  | 0, h, _ => by show (0 : Int) = L; omega
  | n + 1, h, hk => by
    show (if f (n + 1) = -1 then lcF f n else ((n + 1 : Nat) : Int)) = L
    by_cases c : L = (n + 1 : Nat)
    · rw [if_neg (by intro z; apply hL; rw [c]; exact z), c]
    · rw [if_pos (hk (n + 1) (by omega) (by omega))]
      exact lcF_eq h0 hL n (by omega) fun k a b => hk k a (by omega)
/-- how many rows go on (without a bound) -/
def cwF (f : Int → Int) (last : Int) : Nat → Int → Int
  | 0, l => if f last = -1 ∨ f last = l then 1 else 0
  | d + 1, l => if f (last - (d + 1)) = -1 ∨ f (last - (d + 1)) = l then s3 (cwF f last d) l 2 else 0
theorem cwF_s {f : Int → Int} {last k l : Int} (h : k < last) : cwF f last (last - k).toNat l = if f k = -1 ∨ f k = l then s3 (cwF f last (last - (k + 1)).toNat) l 2 else 0 := by
  obtain ⟨n, hn⟩ : ∃ n : Nat, last - (k + 1) = n := ⟨(last - (k + 1)).toNat, by omega⟩
  rw [show (last - k).toNat = n + 1 by omega, show (last - (k + 1)).toNat = n by omega]
  show (if f (last - (n + 1)) = -1 ∨ f (last - (n + 1)) = l then _ else (0 : Int)) = _
  rw [show last - ((n : Int) + 1) = k by omega]
theorem s3_2 (g : Int → Int) (l : Int) : s3 g l 2 = g (max 0 (min 8 (l + -1))) + g (max 0 (min 8 (l + 0))) + g (max 0 (min 8 (l + 1))) := by
  unfold s3
  rw [if_pos (by omega), if_pos (by omega), if_pos (by omega)]
theorem s3_ext {g g' : Int → Int} {l : Int} (h : ∀ q, 0 ≤ q → q ≤ 8 → g q = g' q) : s3 g l 2 = s3 g' l 2 := by
  rw [s3_2, s3_2, h _ (by omega) (by omega), h _ (by omega) (by omega), h _ (by omega) (by omega)]
def p3 : Nat → Int
  | 0 => 1
  | d + 1 => 3 * p3 d
theorem p3_b : ((List.range 26).all fun d => decide (1 ≤ p3 d ∧ p3 d ≤ 847288609443)) = true := by decide +kernel
theorem p3_bd {d : Nat} (h : d ≤ 25) : 1 ≤ p3 d ∧ p3 d ≤ 847288609443 := of_decide_eq_true (all_r p3_b (by omega))
theorem cw_b (f : Int → Int) (last : Int) : ∀ (d : Nat) (l : Int), 0 ≤ cwF f last d l ∧ cwF f last d l ≤ p3 d
  | 0, l => by
    show 0 ≤ (if f last = -1 ∨ f last = l then (1 : Int) else 0) ∧ (if f last = -1 ∨ f last = l then (1 : Int) else 0) ≤ 1
    split <;> omega
  | d + 1, l => by
    have a := cw_b f last d (max 0 (min 8 (l + -1)))
    have b := cw_b f last d (max 0 (min 8 (l + 0)))
    have c := cw_b f last d (max 0 (min 8 (l + 1)))
    show 0 ≤ (if f (last - (d + 1)) = -1 ∨ f (last - (d + 1)) = l then s3 (cwF f last d) l 2 else 0) ∧ (if f (last - (d + 1)) = -1 ∨ f (last - (d + 1)) = l then s3 (cwF f last d) l 2 else 0) ≤ 3 * p3 d
    rw [s3_2]
    split <;> omega
theorem cw_bd (f : Int → Int) (last : Int) {d : Nat} (h : d ≤ 25) (l : Int) : 0 ≤ cwF f last d l ∧ cwF f last d l ≤ 847288609443 := by
  have := cw_b f last d l
  have := p3_bd h
  omega
/-- with the bound it is what the reference has -/
theorem cw_mn {f : Int → Int} (hf : ∀ k, -1 ≤ f k) (last : Int) : ∀ (d : Nat) (l : Int), (d : Int) < last ∨ ((d : Int) = last ∧ l = 4) → sMn f last d l = min 1000000 (cwF f last d l)
  | 0, l, h => by
    show (if snFine f last l then (1 : Int) else 0) = min 1000000 (if f last = -1 ∨ f last = l then 1 else 0)
    have e : snFine f last l = decide (f last = -1 ∨ f last = l) := by
      have := hf last
      unfold snFine
      rw [show (decide (0 < last) || decide (l = 4)) = true from by rw [Bool.or_eq_true, decide_eq_true_eq, decide_eq_true_eq]; omega, Bool.and_true, ← Bool.decide_or]
      exact decide_eq_decide.mpr (by omega)
    rw [e]
    by_cases c : f last = -1 ∨ f last = l
    · rw [if_pos c, if_pos (decide_eq_true c)]; rfl
    · rw [if_neg c, if_neg (by simpa using c)]; rfl
  | d + 1, l, h => by
    show (if snFine f (last - (d + 1)) l then min 1000000 (s3 (sMn f last d) l 2) else 0) = min 1000000 (if f (last - (d + 1)) = -1 ∨ f (last - (d + 1)) = l then s3 (cwF f last d) l 2 else 0)
    have e : snFine f (last - (d + 1)) l = decide (f (last - (d + 1)) = -1 ∨ f (last - (d + 1)) = l) := by
      have := hf (last - (d + 1))
      unfold snFine
      rw [show (decide (0 < last - ((d : Int) + 1)) || decide (l = 4)) = true from by rw [Bool.or_eq_true, decide_eq_true_eq, decide_eq_true_eq]; omega, Bool.and_true, ← Bool.decide_or]
      exact decide_eq_decide.mpr (by omega)
    have ih := fun l => cw_mn hf last d l (Or.inl (by omega))
    have a := cw_b f last d (max 0 (min 8 (l + -1)))
    have b := cw_b f last d (max 0 (min 8 (l + 0)))
    have c := cw_b f last d (max 0 (min 8 (l + 1)))
    rw [e, s3_2, s3_2, ih, ih, ih]
    by_cases c : f (last - (d + 1)) = -1 ∨ f (last - (d + 1)) = l
    · rw [if_pos c, if_pos (decide_eq_true c)]; omega
    · rw [if_neg c, if_neg (by simpa using c)]; rfl
def cRow (f : Int → Int) (last : Int) : Nat → Int → List Int
  | 0, _ => []
  | d + 1, l => nxV (cwF f last d) l :: cRow f last d (max 0 (min 8 (l + nxV (cwF f last d) l)))
theorem nx_mn {f : Int → Int} (hf : ∀ k, -1 ≤ f k) {last : Int} {d : Nat} (h : (d : Int) < last) (l : Int) : nxV (sMn f last d) l = nxV (cwF f last d) l := by
  have z : ∀ q, (0 < sMn f last d q) ↔ 0 < cwF f last d q := fun q => by
    have := cw_b f last d q
    rw [cw_mn hf last d q (Or.inl h)]; omega
  unfold nxV
  by_cases a : 0 < cwF f last d (max 0 (min 8 (l + -1)))
  · rw [if_pos a, if_pos ((z _).mpr a)]
  · rw [if_neg a, if_neg (fun y => a ((z _).mp y))]
    by_cases b : 0 < cwF f last d (max 0 (min 8 (l + 0)))
    · rw [if_pos b, if_pos ((z _).mpr b)]
    · rw [if_neg b, if_neg (fun y => b ((z _).mp y))]
theorem row_mn {f : Int → Int} (hf : ∀ k, -1 ≤ f k) {last : Int} : ∀ (d : Nat) (l : Int), (d : Int) ≤ last → sRow f last d l = cRow f last d l
  | 0, _, _ => rfl
  | d + 1, l, h => by
    show nxV (sMn f last d) l :: sRow f last d _ = nxV (cwF f last d) l :: cRow f last d _
    rw [nx_mn hf (by omega), row_mn hf d _ (by omega)]
theorem nxV_okc {g : Int → Int} {l : Int} (hg : ∀ q, 0 ≤ g q) (h : 0 < s3 g l 2) : 0 < g (max 0 (min 8 (l + nxV g l))) := by
  have a := hg (max 0 (min 8 (l + -1)))
  have b := hg (max 0 (min 8 (l + 0)))
  have c := hg (max 0 (min 8 (l + 1)))
  rw [s3_2] at h
  unfold nxV
  by_cases h1 : 0 < g (max 0 (min 8 (l + -1)))
  · rw [if_pos h1]; exact h1
  · rw [if_neg h1]
    by_cases h2 : 0 < g (max 0 (min 8 (l + 0)))
    · rw [if_pos h2]; exact h2
    · rw [if_neg h2]; omega
theorem nxV_ext {g g' : Int → Int} {l : Int} (h : ∀ q, 0 ≤ q → q ≤ 8 → g q = g' q) : nxV g l = nxV g' l := by
  unfold nxV
  rw [h _ (by omega) (by omega), h _ (by omega) (by omega)]
/-- the class's table is filled so far -/
def CTB (f : Int → Int) (last : Int) (h : aH) (k l : Int) : Prop := ∀ k' l' : Int, 0 ≤ k' → 0 ≤ l' → l' ≤ 8 → k' ≤ last → (k < k' ∨ (k' = k ∧ l' < l)) → gj h (136 + k'.toNat) l'.toNat = cwF f last (last - k').toNat l'

set_option maxRecDepth 4000 in
theorem ctX7_lastStep {SP : CT} (hSP : MONO SP) {sh : List (Nat × Nat)} {h : aH} (hG : GD gE gRL sh h) : CLd SP 1 mX7_lastStep [.ref 133] h 0 0 (fun rv h' => h' = h ∧ rv = some (.int (I (lcF (gi h 134) 24)))) := by
  refine x_met _ rfl (Nat.le_of_ble_eq_true rfl) (fun K hK => ?_)
  have hmono := MONO_CLd hSP 0
  have loop : ∀ (mz : Nat) (k : Int) (ls : List (Nat × Value)), (k.toNat = mz) → (0 ≤ k ∧ k ≤ 24) → (lcF (gi h 134) k.toNat = lcF (gi h 134) 24) → lk ls 0 = some (.ref 133) → lk ls 1 = some (.int (I k)) → K 3 ls [] h 0 0 := by
    intro mz
    induction mz using Nat.strongRecOn with
    | ind mz ih =>
    intro k ls hm k0 e l0 l1
    refine x_iload_n 4 hK rfl rfl l1 ?_
    refine x_if_le 23 7 hK rfl rfl rfl (by omega) (fun c2 => ?_) (fun c2 => ?_)
    · refine x_iload_n 24 hK rfl rfl l1 ?_
      have e9 : lcF (gi h 134) 24 = k := by
        rw [← e]
        by_cases c : k = 0
        · rw [c]; rfl
        · rw [lcF_s (by omega), if_neg (by omega)]
      exact x_iret hK rfl ⟨rfl, by rw [e9]⟩
    · refine x_aload_n 8 hK rfl rfl l0 ?_
      refine x_getR 11 hK rfl rfl (sp_133 (h := h) hG) (rf_133_1 (h := h) hG) ?_
      refine x_iload_n 12 hK rfl rfl l1 ?_
      have g110 := grn (-1) (8) hG (a := 134) (r := 48) (k := k.toNat) rfl rfl (by omega)
      refine x_ialoadE 13 hK rfl rfl (sp_134 (h := h) hG) (by omega) (by omega) (by omega) (e' := (gi h 134 k.toNat)) (rfl) ?_
      refine x_iconst 14 hK rfl rfl ?_
      refine x_if_icmp_ne 23 17 hK rfl rfl rfl (by omega) (by omega) (fun c10 => ?_) (fun c10 => ?_)
      · refine x_iload_n 24 hK rfl rfl l1 ?_
        have e9 : lcF (gi h 134) 24 = k := by
          rw [← e]
          by_cases c : k = 0
          · rw [c]; rfl
          · rw [lcF_s (by omega), if_neg (by omega)]
        exact x_iret hK rfl ⟨rfl, by rw [e9]⟩
      · refine x_iinc 20 hK rfl rfl l1 _ rfl ?_
        refine x_goto 3 hK rfl rfl ?_
        exact ih _ (by omega) (k + (-1)) _ rfl (by omega) (by rw [← e, lcF_s (n := k) (by omega), if_pos (by omega)]; rfl) (lk1_n l0 (by decide) (Or.inl rfl)) lk1_s
  refine x_bipush 2 hK rfl rfl rfl ?_
  refine x_istore_n 3 hK rfl rfl [(1, .int (I 24)), (0, .ref 133)] rfl ?_
  exact loop _ 24 _ rfl (by omega) (rfl) rfl rfl
set_option maxRecDepth 4000 in
theorem ctX7_waysBehind {SP : CT} (hSP : MONO SP) {sh : List (Nat × Nat)} {h : aH} (hG : GD gE gRL sh h) {s l : Int} (hP : PT h) (hs : 0 ≤ s ∧ s ≤ 23) (hl : 0 ≤ l ∧ l ≤ 8) : CLd SP 3 mX7_waysBehind [.ref 133, .int (I s), .int (I l)] h 0 0 (fun rv h' => h' = h ∧ rv = some (.long (J (s3 (fun p : Int => gj h (136 + (s + 1).toNat) p.toNat) l 2)))) := by
  refine x_met _ rfl (Nat.le_of_ble_eq_true rfl) (fun K hK => ?_)
  have hmono := MONO_CLd hSP 2
  have loop : ∀ (mz : Nat) (e v : Int) (ls : List (Nat × Value)), ((2 - v).toNat = mz) → (-1 ≤ v ∧ v ≤ 2) → (e = s3 (fun p : Int => gj h (136 + (s + 1).toNat) p.toNat) l v) → lk ls 0 = some (.ref 133) → lk ls 1 = some (.int (I s)) → lk ls 2 = some (.int (I l)) → lk ls 3 = some (.long (J e)) → lk ls 5 = some (.int (I v)) → K 5 ls [] h 0 0 := by
    intro mz
    induction mz using Nat.strongRecOn with
    | ind mz ih =>
    intro e v ls hm v0 ee l0 l1 l2 l3 l5
    refine x_iload 7 hK rfl rfl l5 ?_
    refine x_iconst 8 hK rfl rfl ?_
    refine x_if_icmp_gt 36 11 hK rfl rfl rfl (by omega) (by omega) (fun c3 => ?_) (fun c3 => ?_)
    · refine x_lload_n 37 hK rfl rfl l3 ?_
      exact x_lret hK rfl ⟨rfl, by rw [ee, show v = 2 by omega]⟩
    · refine x_lload_n 12 hK rfl rfl l3 ?_
      refine x_aload_n 13 hK rfl rfl l0 ?_
      refine x_getR 16 hK rfl rfl (sp_133 (h := h) hG) (rf_133_2 (h := h) hG) ?_
      refine x_iload_n 17 hK rfl rfl l1 ?_
      refine x_iconst 18 hK rfl rfl ?_
      refine x_iadd 19 hK rfl rfl ?_
      refine x_aaload 20 hK rfl rfl (sp_135 (h := h) hG) (by decide) (by omega) (by omega) (by omega) (hP.1 _ (by omega)) ?_
      refine x_iload_n 21 hK rfl rfl l2 ?_
      refine x_iload 23 hK rfl rfl l5 ?_
      refine x_iadd 24 hK rfl rfl ?_
      refine x_callS 27 hK hmono rfl (Or.inr rfl) rfl [.int (I (l + v))] [.ref (136 + (s + 1).toNat), .long (J e)] rfl rfl (Nat.le_of_ble_eq_true rfl) (Nat.le_of_ble_eq_true rfl) (CLd_le (Nat.le_of_ble_eq_true rfl) (ctX10_keepOnSea hSP (v := (l + v)) (by omega))) ?_
      rintro v9 h9 ⟨e9, rfl⟩
      rw [e9]
      clear e9
      refine x_laloadE 28 hK rfl rfl (shx (h := h) hG (r := 50) (pt_r1 _ (by omega)) rfl) (by omega) (by omega) (by omega) (e' := (gj h (136 + (s + 1).toNat) (max 0 (min 8 (l + v))).toNat)) (rfl) ?_
      refine x_ladd 29 hK rfl rfl ?_
      refine x_lstore_n 30 hK rfl rfl _ rfl ?_
      refine x_iinc 33 hK rfl rfl (lk2_n l5 (by decide) (by decide) (Or.inl rfl)) _ rfl ?_
      refine x_goto 5 hK rfl rfl ?_
      exact ih _ (by omega) (e + (gj h (136 + (s + 1).toNat) (max 0 (min 8 (l + v))).toNat)) (v + 1) _ rfl (by omega) (by rw [s3_n v0.1 (by omega), ← ee]) (lk1_n (lk2_n l0 (by decide) (by decide) (Or.inl rfl)) (by decide) (Or.inl rfl)) (lk1_n (lk2_n l1 (by decide) (by decide) (Or.inl rfl)) (by decide) (Or.inl rfl)) (lk1_n (lk2_n l2 (by decide) (by decide) (Or.inl rfl)) (by decide) (Or.inl rfl)) (lk1_n lk2_s (by decide) (Or.inr (by decide))) lk1_s
  refine x_lconstE 1 0 hK rfl rfl rfl ?_
  refine x_lstore_n 2 hK rfl rfl [(3, .long (J 0)), (0, .ref 133), (1, .int (I s)), (2, .int (I l))] rfl ?_
  refine x_iconst 3 hK rfl rfl ?_
  refine x_istore 5 hK rfl rfl [(5, .int (I (-1))), (3, .long (J 0)), (0, .ref 133), (1, .int (I s)), (2, .int (I l))] rfl ?_
  exact loop _ 0 (-1) _ rfl (by omega) ((by unfold s3; rw [if_neg (by omega), if_neg (by omega), if_neg (by omega)]; rfl)) rfl rfl rfl rfl rfl
set_option maxRecDepth 4000 in
theorem ctX7_countWays {SP : CT} (hSP : MONO SP) {sh : List (Nat × Nat)} {h : aH} (hG : GD gE gRL sh h) {last : Int} (hP : PT h) (hl : 0 ≤ last ∧ last ≤ 24) : CLd SP 4 mX7_countWays [.ref 133, .int (I last)] h 0 0 (fun rv h' => rv = none ∧ GD gE gRL sh h' ∧ FRM gRL [(1, 50, 0, 8)] h h' ∧ CTB (fun k : Int => gi h 134 k.toNat) last h' (-1) 0) := by
  refine x_met _ rfl (Nat.le_of_ble_eq_true rfl) (fun K hK => ?_)
  have hmono := MONO_CLd hSP 3
  have loopK : ∀ (mz : Nat) (k : Int) (h3 : aH) (ls : List (Nat × Value)), ((k + 1).toNat = mz) → (-1 ≤ k ∧ k ≤ last) → (CTB (fun k : Int => gi h 134 k.toNat) last h3 k 0) → lk ls 0 = some (.ref 133) → lk ls 1 = some (.int (I last)) → lk ls 2 = some (.int (I k)) → GD gE gRL sh h3 → FRM gRL [(1, 50, 0, 8)] h h3 → K 2 ls [] h3 0 0 := by
    intro mz
    induction mz using Nat.strongRecOn with
    | ind mz ih =>
    intro k h3 ls hm k0 t3 l0 l1 l2 hG3 hF3
    have ihK := ih
    have loopL : ∀ (mz : Nat) (l : Int) (h4 : aH) (ls : List (Nat × Value)), ((9 - l).toNat = mz) → (0 ≤ l ∧ l ≤ 9) → (0 ≤ k) → (CTB (fun k : Int => gi h 134 k.toNat) last h4 k l) → lk ls 0 = some (.ref 133) → lk ls 1 = some (.int (I last)) → lk ls 2 = some (.int (I k)) → lk ls 3 = some (.int (I l)) → GD gE gRL sh h4 → FRM gRL [(1, 50, 0, 8)] h h4 → K 8 ls [] h4 0 0 := by
      intro mz
      induction mz using Nat.strongRecOn with
      | ind mz ih =>
      intro l h4 ls hm l0 k1 t4 l0 l1 l2 l3 hG4 hF4
      have fk : gi h4 134 k.toNat = gi h 134 k.toNat := FRM_gi hF4 (r := 48) rfl rfl
      have cb := fun z : k < last => cw_bd (fun k : Int => gi h 134 k.toNat) last (d := (last - k).toNat) (by omega) l
      have tn : ∀ e : Int, r64 e → e = cwF (fun k : Int => gi h 134 k.toNat) last (last - k).toNat l → CTB (fun k : Int => gi h 134 k.toNat) last (sJ h4 (136 + k.toNat) l.toNat (J e)) k (l + 1) := by
        intro e re ee k' l' y1 y2 y3 y4 y5
        by_cases c : k' = k ∧ l' = l
        · obtain ⟨rfl, rfl⟩ := c
          exact (gj_same re).trans ee
        · have z := t4 k' l' y1 y2 y3 y4 (by omega)
          rw [← z]
          by_cases c2 : k' = k
          · exact gj_k (by omega) _
          · exact gj_a (by omega) _
      refine x_iload_n 9 hK rfl rfl l3 ?_
      refine x_bipush 11 hK rfl rfl rfl ?_
      refine x_if_icmp_gt 79 14 hK rfl rfl rfl (by omega) (by omega) (fun c3 => ?_) (fun c3 => ?_)
      · refine x_iinc 82 hK rfl rfl l2 _ rfl ?_
        refine x_goto 2 hK rfl rfl ?_
        exact ihK _ (by omega) (k + (-1)) _ _ rfl (by omega) ((fun k' l' y1 y2 y3 y4 y5 => t4 k' l' y1 y2 y3 y4 (by omega))) (lk1_n l0 (by decide) (Or.inl rfl)) (lk1_n l1 (by decide) (Or.inl rfl)) lk1_s (hG4) (hF4)
      · refine x_aload_n 15 hK rfl rfl l0 ?_
        refine x_getR 18 hK rfl rfl (sp_133 (h := h4) hG4) (rf_133_1 (h := h4) hG4) ?_
        refine x_iload_n 19 hK rfl rfl l2 ?_
        have g111 := grn (-1) (8) hG (a := 134) (r := 48) (k := k.toNat) rfl rfl (by omega)
        refine x_ialoadE 20 hK rfl rfl (sp_134 (h := h4) hG4) (by omega) (by omega) (by omega) (e' := (gi h 134 k.toNat)) (fk) ?_
        refine x_iconst 21 hK rfl rfl ?_
        refine x_if_icmp_eq 34 24 hK rfl rfl rfl (by omega) (by omega) (fun c12 => ?_) (fun c12 => ?_)
        · refine x_iconst 35 hK rfl rfl ?_
          refine x_goto 39 hK rfl rfl ?_
          refine x_istore 41 hK rfl rfl _ rfl ?_
          refine x_aload_n 42 hK rfl rfl (lk1_n l0 (by decide) (Or.inl rfl)) ?_
          refine x_getR 45 hK rfl rfl (sp_133 (h := h4) hG4) (rf_133_2 (h := h4) hG4) ?_
          refine x_iload_n 46 hK rfl rfl (lk1_n l2 (by decide) (Or.inl rfl)) ?_
          refine x_aaload 47 hK rfl rfl (sp_135 (h := h4) hG4) (by decide) (by omega) (by omega) (by omega) ((PT_F hF4 (by decide) hP).1 _ (by omega)) ?_
          refine x_iload_n 48 hK rfl rfl (lk1_n l3 (by decide) (Or.inl rfl)) ?_
          refine x_iload 50 hK rfl rfl lk1_s ?_
          refine x_if_ne 57 53 hK rfl rfl rfl (by omega) (fun _ => ?_) (fun c => by omega)
          refine x_iload_n 58 hK rfl rfl (lk1_n l2 (by decide) (Or.inl rfl)) ?_
          refine x_iload_n 59 hK rfl rfl (lk1_n l1 (by decide) (Or.inl rfl)) ?_
          refine x_if_icmp_ne 66 62 hK rfl rfl rfl (by omega) (by omega) (fun c25 => ?_) (fun c25 => ?_)
          · refine x_aload_n 67 hK rfl rfl (lk1_n l0 (by decide) (Or.inl rfl)) ?_
            refine x_iload_n 68 hK rfl rfl (lk1_n l2 (by decide) (Or.inl rfl)) ?_
            refine x_iload_n 69 hK rfl rfl (lk1_n l3 (by decide) (Or.inl rfl)) ?_
            refine x_callV 72 hK hmono rfl rfl [.ref 133, .int (I k), .int (I l)] [.int (I l), .ref (136 + k.toNat)] rfl rfl (Nat.le_of_ble_eq_true rfl) (Nat.le_of_ble_eq_true rfl) rfl (sp_133 (h := h4) hG4) (CLd_le (Nat.le_of_ble_eq_true rfl) (ctX7_waysBehind hSP hG4 (s := k) (l := l) (PT_F hF4 (by decide) hP) (by omega) (by omega))) ?_
            rintro v9 h9 ⟨e9, rfl⟩
            rw [e9]
            clear e9
            rw [show s3 (fun p : Int => gj h4 (136 + (k + 1).toNat) p.toNat) l 2 = s3 (cwF (fun k : Int => gi h 134 k.toNat) last (last - (k + 1)).toNat) l 2 from s3_ext fun q q0 q8 => t4 (k + 1) q (by omega) q0 q8 (by omega) (Or.inl (by omega))]
            refine x_lastore 73 hK rfl rfl (shx (h := h4) hG4 (r := 50) (pt_r1 _ (by omega)) rfl) (by omega) (by omega) (by omega) ?_
            refine x_iinc 76 hK rfl rfl (lk1_n l3 (by decide) (Or.inl rfl)) _ rfl ?_
            refine x_goto 8 hK rfl rfl ?_
            have ce : (s3 (cwF (fun k : Int => gi h 134 k.toNat) last (last - (k + 1)).toNat) l 2) = cwF (fun k : Int => gi h 134 k.toNat) last (last - k).toNat l := by
              rw [cwF_s (by omega)]
              exact (if_pos (show gi h 134 k.toNat = -1 ∨ gi h 134 k.toNat = l by omega)).symm
            have cr : r64 (s3 (cwF (fun k : Int => gi h 134 k.toNat) last (last - (k + 1)).toNat) l 2) := by rw [ce]; have := cb (by omega); omega
            exact ih _ (by omega) (l + 1) _ _ rfl (by omega) (by omega) (tn _ cr ce) (lk1_n (lk1_n l0 (by decide) (Or.inl rfl)) (by decide) (Or.inl rfl)) (lk1_n (lk1_n l1 (by decide) (Or.inl rfl)) (by decide) (Or.inl rfl)) (lk1_n (lk1_n l2 (by decide) (Or.inl rfl)) (by decide) (Or.inl rfl)) lk1_s (GD_J (hG4)) (FRM_Jn 0 8 (hF4) (r := 50) (pt_r1 _ (by omega)) rfl rfl (by omega) (by omega))
          · refine x_lconstE 63 1 hK rfl rfl rfl ?_
            refine x_goto 72 hK rfl rfl ?_
            refine x_lastore 73 hK rfl rfl (shx (h := h4) hG4 (r := 50) (pt_r1 _ (by omega)) rfl) (by omega) (by omega) (by omega) ?_
            refine x_iinc 76 hK rfl rfl (lk1_n l3 (by decide) (Or.inl rfl)) _ rfl ?_
            refine x_goto 8 hK rfl rfl ?_
            have ce : (1 : Int) = cwF (fun k : Int => gi h 134 k.toNat) last (last - k).toNat l := by
              have c : k = last := by omega
              rw [c, show (last - last).toNat = 0 by omega]
              show (1 : Int) = if gi h 134 last.toNat = -1 ∨ gi h 134 last.toNat = l then 1 else 0
              rw [if_pos (by rw [← c]; omega)]
            exact ih _ (by omega) (l + 1) _ _ rfl (by omega) (by omega) (tn _ (by omega) ce) (lk1_n (lk1_n l0 (by decide) (Or.inl rfl)) (by decide) (Or.inl rfl)) (lk1_n (lk1_n l1 (by decide) (Or.inl rfl)) (by decide) (Or.inl rfl)) (lk1_n (lk1_n l2 (by decide) (Or.inl rfl)) (by decide) (Or.inl rfl)) lk1_s (GD_J (hG4)) (FRM_Jn 0 8 (hF4) (r := 50) (pt_r1 _ (by omega)) rfl rfl (by omega) (by omega))
        · refine x_aload_n 25 hK rfl rfl l0 ?_
          refine x_getR 28 hK rfl rfl (sp_133 (h := h4) hG4) (rf_133_1 (h := h4) hG4) ?_
          refine x_iload_n 29 hK rfl rfl l2 ?_
          refine x_ialoadE 30 hK rfl rfl (sp_134 (h := h4) hG4) (by omega) (by omega) (by omega) (e' := (gi h 134 k.toNat)) (fk) ?_
          refine x_iload_n 31 hK rfl rfl l3 ?_
          refine x_if_icmp_ne 38 34 hK rfl rfl rfl (by omega) (by omega) (fun c45 => ?_) (fun c45 => ?_)
          · refine x_iconst 39 hK rfl rfl ?_
            refine x_istore 41 hK rfl rfl _ rfl ?_
            refine x_aload_n 42 hK rfl rfl (lk1_n l0 (by decide) (Or.inl rfl)) ?_
            refine x_getR 45 hK rfl rfl (sp_133 (h := h4) hG4) (rf_133_2 (h := h4) hG4) ?_
            refine x_iload_n 46 hK rfl rfl (lk1_n l2 (by decide) (Or.inl rfl)) ?_
            refine x_aaload 47 hK rfl rfl (sp_135 (h := h4) hG4) (by decide) (by omega) (by omega) (by omega) ((PT_F hF4 (by decide) hP).1 _ (by omega)) ?_
            refine x_iload_n 48 hK rfl rfl (lk1_n l3 (by decide) (Or.inl rfl)) ?_
            refine x_iload 50 hK rfl rfl lk1_s ?_
            refine x_if_ne 57 53 hK rfl rfl rfl (by omega) (fun c => by omega) (fun _ => ?_)
            refine x_lconstE 54 0 hK rfl rfl rfl ?_
            refine x_goto 72 hK rfl rfl ?_
            refine x_lastore 73 hK rfl rfl (shx (h := h4) hG4 (r := 50) (pt_r1 _ (by omega)) rfl) (by omega) (by omega) (by omega) ?_
            refine x_iinc 76 hK rfl rfl (lk1_n l3 (by decide) (Or.inl rfl)) _ rfl ?_
            refine x_goto 8 hK rfl rfl ?_
            have ce : (0 : Int) = cwF (fun k : Int => gi h 134 k.toNat) last (last - k).toNat l := by
              by_cases c : k = last
              · rw [c, show (last - last).toNat = 0 by omega]
                show (0 : Int) = if gi h 134 last.toNat = -1 ∨ gi h 134 last.toNat = l then 1 else 0
                rw [if_neg (by rw [← c]; omega)]
              · rw [cwF_s (by omega)]
                exact (if_neg (show ¬ (gi h 134 k.toNat = -1 ∨ gi h 134 k.toNat = l) by omega)).symm
            exact ih _ (by omega) (l + 1) _ _ rfl (by omega) (by omega) (tn _ (by omega) ce) (lk1_n (lk1_n l0 (by decide) (Or.inl rfl)) (by decide) (Or.inl rfl)) (lk1_n (lk1_n l1 (by decide) (Or.inl rfl)) (by decide) (Or.inl rfl)) (lk1_n (lk1_n l2 (by decide) (Or.inl rfl)) (by decide) (Or.inl rfl)) lk1_s (GD_J (hG4)) (FRM_Jn 0 8 (hF4) (r := 50) (pt_r1 _ (by omega)) rfl rfl (by omega) (by omega))
          · refine x_iconst 35 hK rfl rfl ?_
            refine x_goto 39 hK rfl rfl ?_
            refine x_istore 41 hK rfl rfl _ rfl ?_
            refine x_aload_n 42 hK rfl rfl (lk1_n l0 (by decide) (Or.inl rfl)) ?_
            refine x_getR 45 hK rfl rfl (sp_133 (h := h4) hG4) (rf_133_2 (h := h4) hG4) ?_
            refine x_iload_n 46 hK rfl rfl (lk1_n l2 (by decide) (Or.inl rfl)) ?_
            refine x_aaload 47 hK rfl rfl (sp_135 (h := h4) hG4) (by decide) (by omega) (by omega) (by omega) ((PT_F hF4 (by decide) hP).1 _ (by omega)) ?_
            refine x_iload_n 48 hK rfl rfl (lk1_n l3 (by decide) (Or.inl rfl)) ?_
            refine x_iload 50 hK rfl rfl lk1_s ?_
            refine x_if_ne 57 53 hK rfl rfl rfl (by omega) (fun _ => ?_) (fun c => by omega)
            refine x_iload_n 58 hK rfl rfl (lk1_n l2 (by decide) (Or.inl rfl)) ?_
            refine x_iload_n 59 hK rfl rfl (lk1_n l1 (by decide) (Or.inl rfl)) ?_
            refine x_if_icmp_ne 66 62 hK rfl rfl rfl (by omega) (by omega) (fun c73 => ?_) (fun c73 => ?_)
            · refine x_aload_n 67 hK rfl rfl (lk1_n l0 (by decide) (Or.inl rfl)) ?_
              refine x_iload_n 68 hK rfl rfl (lk1_n l2 (by decide) (Or.inl rfl)) ?_
              refine x_iload_n 69 hK rfl rfl (lk1_n l3 (by decide) (Or.inl rfl)) ?_
              refine x_callV 72 hK hmono rfl rfl [.ref 133, .int (I k), .int (I l)] [.int (I l), .ref (136 + k.toNat)] rfl rfl (Nat.le_of_ble_eq_true rfl) (Nat.le_of_ble_eq_true rfl) rfl (sp_133 (h := h4) hG4) (CLd_le (Nat.le_of_ble_eq_true rfl) (ctX7_waysBehind hSP hG4 (s := k) (l := l) (PT_F hF4 (by decide) hP) (by omega) (by omega))) ?_
              rintro v9 h9 ⟨e9, rfl⟩
              rw [e9]
              clear e9
              rw [show s3 (fun p : Int => gj h4 (136 + (k + 1).toNat) p.toNat) l 2 = s3 (cwF (fun k : Int => gi h 134 k.toNat) last (last - (k + 1)).toNat) l 2 from s3_ext fun q q0 q8 => t4 (k + 1) q (by omega) q0 q8 (by omega) (Or.inl (by omega))]
              refine x_lastore 73 hK rfl rfl (shx (h := h4) hG4 (r := 50) (pt_r1 _ (by omega)) rfl) (by omega) (by omega) (by omega) ?_
              refine x_iinc 76 hK rfl rfl (lk1_n l3 (by decide) (Or.inl rfl)) _ rfl ?_
              refine x_goto 8 hK rfl rfl ?_
              have ce : (s3 (cwF (fun k : Int => gi h 134 k.toNat) last (last - (k + 1)).toNat) l 2) = cwF (fun k : Int => gi h 134 k.toNat) last (last - k).toNat l := by
                rw [cwF_s (by omega)]
                exact (if_pos (show gi h 134 k.toNat = -1 ∨ gi h 134 k.toNat = l by omega)).symm
              have cr : r64 (s3 (cwF (fun k : Int => gi h 134 k.toNat) last (last - (k + 1)).toNat) l 2) := by rw [ce]; have := cb (by omega); omega
              exact ih _ (by omega) (l + 1) _ _ rfl (by omega) (by omega) (tn _ cr ce) (lk1_n (lk1_n l0 (by decide) (Or.inl rfl)) (by decide) (Or.inl rfl)) (lk1_n (lk1_n l1 (by decide) (Or.inl rfl)) (by decide) (Or.inl rfl)) (lk1_n (lk1_n l2 (by decide) (Or.inl rfl)) (by decide) (Or.inl rfl)) lk1_s (GD_J (hG4)) (FRM_Jn 0 8 (hF4) (r := 50) (pt_r1 _ (by omega)) rfl rfl (by omega) (by omega))
            · refine x_lconstE 63 1 hK rfl rfl rfl ?_
              refine x_goto 72 hK rfl rfl ?_
              refine x_lastore 73 hK rfl rfl (shx (h := h4) hG4 (r := 50) (pt_r1 _ (by omega)) rfl) (by omega) (by omega) (by omega) ?_
              refine x_iinc 76 hK rfl rfl (lk1_n l3 (by decide) (Or.inl rfl)) _ rfl ?_
              refine x_goto 8 hK rfl rfl ?_
              have ce : (1 : Int) = cwF (fun k : Int => gi h 134 k.toNat) last (last - k).toNat l := by
                have c : k = last := by omega
                rw [c, show (last - last).toNat = 0 by omega]
                show (1 : Int) = if gi h 134 last.toNat = -1 ∨ gi h 134 last.toNat = l then 1 else 0
                rw [if_pos (by rw [← c]; omega)]
              exact ih _ (by omega) (l + 1) _ _ rfl (by omega) (by omega) (tn _ (by omega) ce) (lk1_n (lk1_n l0 (by decide) (Or.inl rfl)) (by decide) (Or.inl rfl)) (lk1_n (lk1_n l1 (by decide) (Or.inl rfl)) (by decide) (Or.inl rfl)) (lk1_n (lk1_n l2 (by decide) (Or.inl rfl)) (by decide) (Or.inl rfl)) lk1_s (GD_J (hG4)) (FRM_Jn 0 8 (hF4) (r := 50) (pt_r1 _ (by omega)) rfl rfl (by omega) (by omega))
    refine x_iload_n 3 hK rfl rfl l2 ?_
    refine x_if_lt 85 6 hK rfl rfl rfl (by omega) (fun c2 => ?_) (fun c2 => ?_)
    · obtain rfl : k = -1 := by omega
      exact x_vret hK rfl ⟨rfl, hG3, hF3, t3⟩
    · refine x_iconst 7 hK rfl rfl ?_
      refine x_istore_n 8 hK rfl rfl _ rfl ?_
      exact loopL _ 0 _ _ rfl (by omega) (by omega) (t3) (lk1_n l0 (by decide) (Or.inl rfl)) (lk1_n l1 (by decide) (Or.inl rfl)) (lk1_n l2 (by decide) (Or.inl rfl)) lk1_s (hG3) (hF3)
  refine x_iload_n 1 hK rfl rfl rfl ?_
  refine x_istore_n 2 hK rfl rfl [(2, .int (I last)), (0, .ref 133), (1, .int (I last))] rfl ?_
  exact loopK _ last _ _ rfl (by omega) ((fun k' l' y1 y2 y3 y4 y5 => absurd y5 (by omega))) rfl rfl rfl (hG) ((FRM.rf : FRM gRL [(1, 50, 0, 8)] h h))
set_option maxRecDepth 4000 in
theorem ctX7_leastOrder {SP : CT} (hSP : MONO SP) {sh : List (Nat × Nat)} {h : aH} (hG : GD gE gRL sh h) {s l : Int} (hP : PT h) (hs : 0 ≤ s ∧ s ≤ 24) (hl : 0 ≤ l ∧ l ≤ 8) (hg : ∀ q, 0 ≤ q → q ≤ 8 → 0 ≤ (fun p : Int => gj h (136 + s.toNat) p.toNat) q) : CLd SP 3 mX7_leastOrder [.ref 133, .int (I s), .int (I l)] h 0 0 (fun rv h' => h' = h ∧ rv = some (.int (I (nxV (fun p : Int => gj h (136 + s.toNat) p.toNat) l)))) := by
  refine x_met _ rfl (Nat.le_of_ble_eq_true rfl) (fun K hK => ?_)
  have hmono := MONO_CLd hSP 2
  have nd : nxV (fun p : Int => gj h (136 + s.toNat) p.toNat) l = if 0 < (fun p : Int => gj h (136 + s.toNat) p.toNat) (max 0 (min 8 (l + -1))) then -1 else if 0 < (fun p : Int => gj h (136 + s.toNat) p.toNat) (max 0 (min 8 (l + 0))) then 0 else 1 := rfl
  have ga : 0 ≤ gj h (136 + s.toNat) (max 0 (min 8 (l + -1))).toNat := hg _ (by omega) (by omega)
  have gb : 0 ≤ gj h (136 + s.toNat) (max 0 (min 8 (l + 0))).toNat := hg _ (by omega) (by omega)
  have ra := gj_r h (136 + s.toNat) (max 0 (min 8 (l + -1))).toNat
  have rb := gj_r h (136 + s.toNat) (max 0 (min 8 (l + 0))).toNat
  refine x_iconst 1 hK rfl rfl ?_
  refine x_istore_n 2 hK rfl rfl [(3, .int (I (-1))), (0, .ref 133), (1, .int (I s)), (2, .int (I l))] rfl ?_
  refine x_iload_n 3 hK rfl rfl rfl ?_
  refine x_iconst 4 hK rfl rfl ?_
  refine x_if_icmp_ge 31 7 hK rfl rfl rfl (by omega) (by omega) (fun c => by omega) (fun _ => ?_)
  refine x_aload_n 8 hK rfl rfl rfl ?_
  refine x_getR 11 hK rfl rfl (sp_133 (h := h) hG) (rf_133_2 (h := h) hG) ?_
  refine x_iload_n 12 hK rfl rfl rfl ?_
  refine x_aaload 13 hK rfl rfl (sp_135 (h := h) hG) (by decide) (by omega) (by omega) (by omega) (hP.1 _ (by omega)) ?_
  refine x_iload_n 14 hK rfl rfl rfl ?_
  refine x_iload_n 15 hK rfl rfl rfl ?_
  refine x_iadd 16 hK rfl rfl ?_
  refine x_callS 19 hK hmono rfl (Or.inr rfl) rfl [.int (I (l + (-1)))] [.ref (136 + s.toNat)] rfl rfl (Nat.le_of_ble_eq_true rfl) (Nat.le_of_ble_eq_true rfl) (CLd_le (Nat.le_of_ble_eq_true rfl) (ctX10_keepOnSea hSP (v := (l + (-1))) (by omega))) ?_
  rintro v9 h9 ⟨e9, rfl⟩
  rw [e9]
  clear e9
  refine x_laloadE 20 hK rfl rfl (shx (h := h) hG (r := 50) (pt_r1 _ (by omega)) rfl) (by omega) (by omega) (by omega) (e' := (gj h (136 + s.toNat) (max 0 (min 8 (l + (-1)))).toNat)) (rfl) ?_
  refine x_lconstE 21 0 hK rfl rfl rfl ?_
  refine x_lcmp_ne 31 25 hK rfl rfl rfl rfl (by omega) (by omega) (fun c16 => ?_) (fun c16 => ?_)
  · refine x_iload_n 32 hK rfl rfl rfl ?_
    have e9 : nxV (fun p : Int => gj h (136 + s.toNat) p.toNat) l = (-1) := by rw [nd]; exact if_pos (show 0 < gj h (136 + s.toNat) (max 0 (min 8 (l + -1))).toNat by omega)
    exact x_iret hK rfl ⟨rfl, by rw [e9]⟩
  · refine x_iinc 28 hK rfl rfl rfl [(3, .int (I 0)), (0, .ref 133), (1, .int (I s)), (2, .int (I l))] rfl ?_
    refine x_goto 2 hK rfl rfl ?_
    refine x_iload_n 3 hK rfl rfl rfl ?_
    refine x_iconst 4 hK rfl rfl ?_
    refine x_if_icmp_ge 31 7 hK rfl rfl rfl (by omega) (by omega) (fun c => by omega) (fun _ => ?_)
    refine x_aload_n 8 hK rfl rfl rfl ?_
    refine x_getR 11 hK rfl rfl (sp_133 (h := h) hG) (rf_133_2 (h := h) hG) ?_
    refine x_iload_n 12 hK rfl rfl rfl ?_
    refine x_aaload 13 hK rfl rfl (sp_135 (h := h) hG) (by decide) (by omega) (by omega) (by omega) (hP.1 _ (by omega)) ?_
    refine x_iload_n 14 hK rfl rfl rfl ?_
    refine x_iload_n 15 hK rfl rfl rfl ?_
    refine x_iadd 16 hK rfl rfl ?_
    refine x_callS 19 hK hmono rfl (Or.inr rfl) rfl [.int (I (l + 0))] [.ref (136 + s.toNat)] rfl rfl (Nat.le_of_ble_eq_true rfl) (Nat.le_of_ble_eq_true rfl) (CLd_le (Nat.le_of_ble_eq_true rfl) (ctX10_keepOnSea hSP (v := (l + 0)) (by omega))) ?_
    rintro v9 h9 ⟨e9, rfl⟩
    rw [e9]
    clear e9
    refine x_laloadE 20 hK rfl rfl (shx (h := h) hG (r := 50) (pt_r1 _ (by omega)) rfl) (by omega) (by omega) (by omega) (e' := (gj h (136 + s.toNat) (max 0 (min 8 (l + 0))).toNat)) (rfl) ?_
    refine x_lconstE 21 0 hK rfl rfl rfl ?_
    refine x_lcmp_ne 31 25 hK rfl rfl rfl rfl (by omega) (by omega) (fun c34 => ?_) (fun c34 => ?_)
    · refine x_iload_n 32 hK rfl rfl rfl ?_
      have e9 : nxV (fun p : Int => gj h (136 + s.toNat) p.toNat) l = 0 := by rw [nd]; exact (if_neg (show ¬ 0 < gj h (136 + s.toNat) (max 0 (min 8 (l + -1))).toNat by omega)).trans (if_pos (show 0 < gj h (136 + s.toNat) (max 0 (min 8 (l + 0))).toNat by omega))
      exact x_iret hK rfl ⟨rfl, by rw [e9]⟩
    · refine x_iinc 28 hK rfl rfl rfl [(3, .int (I 1)), (0, .ref 133), (1, .int (I s)), (2, .int (I l))] rfl ?_
      refine x_goto 2 hK rfl rfl ?_
      refine x_iload_n 3 hK rfl rfl rfl ?_
      refine x_iconst 4 hK rfl rfl ?_
      refine x_if_icmp_ge 31 7 hK rfl rfl rfl (by omega) (by omega) (fun _ => ?_) (fun c => by omega)
      refine x_iload_n 32 hK rfl rfl rfl ?_
      have e9 : nxV (fun p : Int => gj h (136 + s.toNat) p.toNat) l = 1 := by rw [nd]; exact (if_neg (show ¬ 0 < gj h (136 + s.toNat) (max 0 (min 8 (l + -1))).toNat by omega)).trans (if_neg (show ¬ 0 < gj h (136 + s.toNat) (max 0 (min 8 (l + 0))).toNat by omega))
      exact x_iret hK rfl ⟨rfl, by rw [e9]⟩
set_option maxRecDepth 4000 in
theorem ctX10_ordered {SP : CT} (hSP : MONO SP) {sh : List (Nat × Nat)} {h : aH} (hG : GD gE gRL sh h) (hP : PT h) : CLd SP 6 mX10_ordered [.ref 0] h 0 0 (fun rv h' => ((gi h 133 0 = 0 ∧ rv = some (.int (I (-1))) ∧ crow h' = crow h) ∨ (gi h 133 0 ≠ 0 ∧ rv = some (.int (I (min 1000000 (cwF (fun k : Int => gi h 134 k.toNat) (lcF (gi h 134) 24) (lcF (gi h 134) 24).toNat 4)))) ∧ crow h' = if 0 < cwF (fun k : Int => gi h 134 k.toNat) (lcF (gi h 134) 24) (lcF (gi h 134) 24).toNat 4 then cRow (fun k : Int => gi h 134 k.toNat) (lcF (gi h 134) 24) (lcF (gi h 134) 24).toNat 4 else [])) ∧ GD gE gRL sh h' ∧ FRM gRL [(0, 3, 1, 1), (1, 4, 0, 29), (1, 50, 0, 8)] h h') := by
  refine x_met _ rfl (Nat.le_of_ble_eq_true rfl) (fun K hK => ?_)
  have hmono := MONO_CLd hSP 5
  have lb := lcF_b (gi h 134) 24
  have mb := fun (d : Nat) (hd : d ≤ 25) => cw_bd (fun k : Int => gi h 134 k.toNat) (lcF (gi h 134) 24) hd
  have mq := cw_b (fun k : Int => gi h 134 k.toNat) (lcF (gi h 134) 24)
  have loop : ∀ (mz : Nat) (l k : Int) (h4 : aH) (ls : List (Nat × Value)), (((lcF (gi h 134) 24) + 1 - k).toNat = mz) → (gi h 133 0 ≠ 0) → (1 ≤ k ∧ k ≤ (lcF (gi h 134) 24) + 1) → (0 ≤ l ∧ l ≤ 8) → (CTB (fun k : Int => gi h 134 k.toNat) (lcF (gi h 134) 24) h4 (-1) 0) → (gi h4 3 1 = k - 1) → (0 < cwF (fun k : Int => gi h 134 k.toNat) (lcF (gi h 134) 24) (lcF (gi h 134) 24).toNat 4 → 0 < cwF (fun k : Int => gi h 134 k.toNat) (lcF (gi h 134) 24) ((lcF (gi h 134) 24) - (k - 1)).toNat l) → (¬ 0 < cwF (fun k : Int => gi h 134 k.toNat) (lcF (gi h 134) 24) (lcF (gi h 134) 24).toNat 4 → k = 1) → (0 < cwF (fun k : Int => gi h 134 k.toNat) (lcF (gi h 134) 24) (lcF (gi h 134) 24).toNat 4 → crow h4 ++ cRow (fun k : Int => gi h 134 k.toNat) (lcF (gi h 134) 24) ((lcF (gi h 134) 24) - (k - 1)).toNat l = cRow (fun k : Int => gi h 134 k.toNat) (lcF (gi h 134) 24) (lcF (gi h 134) 24).toNat 4) → lk ls 0 = some (.ref 0) → lk ls 1 = some (.int (I (lcF (gi h 134) 24))) → lk ls 2 = some (.long (J (cwF (fun k : Int => gi h 134 k.toNat) (lcF (gi h 134) 24) (lcF (gi h 134) 24).toNat 4))) → lk ls 4 = some (.int (I l)) → lk ls 5 = some (.int (I k)) → GD gE gRL sh h4 → FRM gRL [(0, 3, 1, 1), (1, 4, 0, 29), (1, 50, 0, 8)] h h4 → K 53 ls [] h4 0 0 := by
    intro mz
    induction mz using Nat.strongRecOn with
    | ind mz ih =>
    intro l k h4 ls hm s1 k0 l0 tb r4 w4 k9 e4 l0 l1 l2 l4 l5 hG4 hF4
    have fb := mb (lcF (gi h 134) 24).toNat (by omega) 4
    refine x_lload_n 54 hK rfl rfl l2 ?_
    refine x_lconstE 55 0 hK rfl rfl rfl ?_
    refine x_lcmp_le 104 59 hK rfl rfl rfl rfl (by omega) (by omega) (fun c3 => ?_) (fun c3 => ?_)
    · refine x_lload_n 105 hK rfl rfl l2 ?_
      refine x_ldc2_w 108 hK rfl rfl ?_
      refine x_lcmp_le 118 112 hK rfl rfl rfl rfl (by omega) (by omega) (fun _ => ?_) (fun c => by omega)
      refine x_lload_n 119 hK rfl rfl l2 ?_
      refine x_l2i 120 hK rfl rfl ?_
      have rw4 : crow h4 = if 0 < cwF (fun k : Int => gi h 134 k.toNat) (lcF (gi h 134) 24) (lcF (gi h 134) 24).toNat 4 then cRow (fun k : Int => gi h 134 k.toNat) (lcF (gi h 134) 24) (lcF (gi h 134) 24).toNat 4 else [] := by
        by_cases c : 0 < cwF (fun k : Int => gi h 134 k.toNat) (lcF (gi h 134) 24) (lcF (gi h 134) 24).toNat 4
        · rw [if_pos c]
          have z := e4 c
          rw [show ((lcF (gi h 134) 24) - (k - 1)).toNat = 0 by omega] at z
          rw [← z]; show crow h4 = crow h4 ++ []; rw [List.append_nil]
        · rw [if_neg c]
          exact crow_0 (by rw [r4, k9 c]; rfl)
      exact x_iret hK rfl ⟨Or.inr ⟨s1, by rw [show min 1000000 (cwF (fun k : Int => gi h 134 k.toNat) (lcF (gi h 134) 24) (lcF (gi h 134) 24).toNat 4) = (cwF (fun k : Int => gi h 134 k.toNat) (lcF (gi h 134) 24) (lcF (gi h 134) 24).toNat 4) from by omega], rw4⟩, hG4, hF4⟩
    · refine x_iload 61 hK rfl rfl l5 ?_
      refine x_iload_n 62 hK rfl rfl l1 ?_
      refine x_if_icmp_gt 104 65 hK rfl rfl rfl (by omega) (by omega) (fun c12 => ?_) (fun c12 => ?_)
      · refine x_lload_n 105 hK rfl rfl l2 ?_
        refine x_ldc2_w 108 hK rfl rfl ?_
        refine x_lcmp_le 118 112 hK rfl rfl rfl rfl (by omega) (by omega) (fun c15 => ?_) (fun c15 => ?_)
        · refine x_lload_n 119 hK rfl rfl l2 ?_
          refine x_l2i 120 hK rfl rfl ?_
          have rw4 : crow h4 = if 0 < cwF (fun k : Int => gi h 134 k.toNat) (lcF (gi h 134) 24) (lcF (gi h 134) 24).toNat 4 then cRow (fun k : Int => gi h 134 k.toNat) (lcF (gi h 134) 24) (lcF (gi h 134) 24).toNat 4 else [] := by
            by_cases c : 0 < cwF (fun k : Int => gi h 134 k.toNat) (lcF (gi h 134) 24) (lcF (gi h 134) 24).toNat 4
            · rw [if_pos c]
              have z := e4 c
              rw [show ((lcF (gi h 134) 24) - (k - 1)).toNat = 0 by omega] at z
              rw [← z]; show crow h4 = crow h4 ++ []; rw [List.append_nil]
            · rw [if_neg c]
              exact crow_0 (by rw [r4, k9 c]; rfl)
          exact x_iret hK rfl ⟨Or.inr ⟨s1, by rw [show min 1000000 (cwF (fun k : Int => gi h 134 k.toNat) (lcF (gi h 134) 24) (lcF (gi h 134) 24).toNat 4) = (cwF (fun k : Int => gi h 134 k.toNat) (lcF (gi h 134) 24) (lcF (gi h 134) 24).toNat 4) from by omega], rw4⟩, hG4, hF4⟩
        · refine x_ldc_w 115 hK rfl rfl ?_
          refine x_goto 120 hK rfl rfl ?_
          have rw4 : crow h4 = if 0 < cwF (fun k : Int => gi h 134 k.toNat) (lcF (gi h 134) 24) (lcF (gi h 134) 24).toNat 4 then cRow (fun k : Int => gi h 134 k.toNat) (lcF (gi h 134) 24) (lcF (gi h 134) 24).toNat 4 else [] := by
            by_cases c : 0 < cwF (fun k : Int => gi h 134 k.toNat) (lcF (gi h 134) 24) (lcF (gi h 134) 24).toNat 4
            · rw [if_pos c]
              have z := e4 c
              rw [show ((lcF (gi h 134) 24) - (k - 1)).toNat = 0 by omega] at z
              rw [← z]; show crow h4 = crow h4 ++ []; rw [List.append_nil]
            · rw [if_neg c]
              exact crow_0 (by rw [r4, k9 c]; rfl)
          exact x_iret hK rfl ⟨Or.inr ⟨s1, by rw [show min 1000000 (cwF (fun k : Int => gi h 134 k.toNat) (lcF (gi h 134) 24) (lcF (gi h 134) 24).toNat 4) = 1000000 from by omega], rw4⟩, hG4, hF4⟩
      · refine x_aload_n 66 hK rfl rfl l0 ?_
        refine x_getR 69 hK rfl rfl (sp_0 (h := h4) hG4) (rf_0_14 (h := h4) hG4) ?_
        refine x_iload 71 hK rfl rfl l5 ?_
        refine x_iload 73 hK rfl rfl l4 ?_
        have ge : ∀ q : Int, 0 ≤ q → q ≤ 8 → gj h4 (136 + k.toNat) q.toNat = (cwF (fun k : Int => gi h 134 k.toNat) (lcF (gi h 134) 24) ((lcF (gi h 134) 24) - k).toNat) q := fun q q0 q8 => tb k q (by omega) q0 q8 (by omega) (Or.inl (by omega))
        have wk := w4 (by omega)
        rw [cwF_s (k := k - 1) (by omega), show k - 1 + 1 = k by omega] at wk
        have w3 : 0 < s3 (cwF (fun k : Int => gi h 134 k.toNat) (lcF (gi h 134) 24) ((lcF (gi h 134) 24) - k).toNat) l 2 := by
          split at wk
          · exact wk
          · omega
        have nv := nxV_okc (fun q => (mq _ q).1) w3
        have nb := nxV_b (cwF (fun k : Int => gi h 134 k.toNat) (lcF (gi h 134) 24) ((lcF (gi h 134) 24) - k).toNat) l
        refine x_callV 76 hK hmono rfl rfl [.ref 133, .int (I k), .int (I l)] [] rfl rfl (Nat.le_of_ble_eq_true rfl) (Nat.le_of_ble_eq_true rfl) rfl (sp_133 (h := h4) hG4) (CLd_le (Nat.le_of_ble_eq_true rfl) (ctX7_leastOrder hSP hG4 (s := k) (l := l) (PT_F hF4 (by decide) hP) (by omega) (by omega) (fun q q0 q8 => by show 0 ≤ gj h4 (136 + k.toNat) q.toNat; rw [ge q q0 q8]; exact (mq _ q).1))) ?_
        rintro v9 h9 ⟨e9, rfl⟩
        rw [e9]
        clear e9
        rw [show nxV (fun p : Int => gj h4 (136 + k.toNat) p.toNat) l = nxV (cwF (fun k : Int => gi h 134 k.toNat) (lcF (gi h 134) 24) ((lcF (gi h 134) 24) - k).toNat) l from nxV_ext ge]
        refine x_istore 78 hK rfl rfl _ rfl ?_
        refine x_aload_n 79 hK rfl rfl (lk1_n l0 (by decide) (Or.inl rfl)) ?_
        refine x_getR 82 hK rfl rfl (sp_0 (h := h4) hG4) (rf_0_1 (h := h4) hG4) ?_
        refine x_iload 84 hK rfl rfl lk1_s ?_
        refine x_i2l 85 hK rfl rfl (by omega) ?_
        have z113 : gi h4 3 1 = (k - 1) := r4
        have z113r : crow h4 = (crow h4) := rfl
        refine x_callV 88 hK hmono rfl rfl [.ref 3, .long (J (nxV (cwF (fun k : Int => gi h 134 k.toNat) (lcF (gi h 134) 24) ((lcF (gi h 134) 24) - k).toNat) l))] [] rfl rfl (Nat.le_of_ble_eq_true rfl) (Nat.le_of_ble_eq_true rfl) rfl (sp_3 (h := h4) hG4) (CLd_le (Nat.le_of_ble_eq_true rfl) (ctX3_add hSP hG4 (by omega) (by omega))) ?_
        rintro v112 h112 ⟨rfl, hG112, hF112, t112, s112⟩
        rw [z113] at t112
        rw [z113r] at s112
        refine x_iload 90 hK rfl rfl (lk1_n l4 (by decide) (Or.inl rfl)) ?_
        refine x_iload 92 hK rfl rfl lk1_s ?_
        refine x_iadd 93 hK rfl rfl ?_
        refine x_callS 96 hK hmono rfl (Or.inl rfl) rfl [.int (I (l + (nxV (cwF (fun k : Int => gi h 134 k.toNat) (lcF (gi h 134) 24) ((lcF (gi h 134) 24) - k).toNat) l)))] [] rfl rfl (Nat.le_of_ble_eq_true rfl) (Nat.le_of_ble_eq_true rfl) (CLd_le (Nat.le_of_ble_eq_true rfl) (ctX10_keepOnSea hSP (v := (l + (nxV (cwF (fun k : Int => gi h 134 k.toNat) (lcF (gi h 134) 24) ((lcF (gi h 134) 24) - k).toNat) l))) (by omega))) ?_
        rintro v9 h9 ⟨e9, rfl⟩
        rw [e9]
        clear e9
        refine x_istore 98 hK rfl rfl _ rfl ?_
        refine x_iinc 101 hK rfl rfl (lk1_n (lk1_n l5 (by decide) (Or.inl rfl)) (by decide) (Or.inl rfl)) _ rfl ?_
        refine x_goto 53 hK rfl rfl ?_
        exact ih _ (by omega) (max 0 (min 8 (l + (nxV (cwF (fun k : Int => gi h 134 k.toNat) (lcF (gi h 134) 24) ((lcF (gi h 134) 24) - k).toNat) l)))) (k + 1) _ _ rfl (s1) (by omega) (by omega) ((fun k' l' y1 y2 y3 y4 y5 => (FRM_gj hF112 (pt_r1 _ (by omega)) rfl).trans (tb k' l' y1 y2 y3 y4 y5))) ((t112).trans (by omega)) ((fun _ => by rw [show (lcF (gi h 134) 24) - (k + 1 - 1) = (lcF (gi h 134) 24) - k by omega]; exact nv)) ((fun z => absurd (show _ from by omega) z)) ((fun z => by rw [s112, ← e4 z, show ((lcF (gi h 134) 24) - (k - 1)).toNat = ((lcF (gi h 134) 24) - k).toNat + 1 by omega, show (lcF (gi h 134) 24) - (k + 1 - 1) = (lcF (gi h 134) 24) - k by omega, List.append_assoc]; rfl)) (lk1_n (lk1_n (lk1_n l0 (by decide) (Or.inl rfl)) (by decide) (Or.inl rfl)) (by decide) (Or.inl rfl)) (lk1_n (lk1_n (lk1_n l1 (by decide) (Or.inl rfl)) (by decide) (Or.inl rfl)) (by decide) (Or.inl rfl)) (lk1_n (lk1_n (lk1_n l2 (by decide) (Or.inr (by decide))) (by decide) (Or.inr (by decide))) (by decide) (Or.inr (by decide))) (lk1_n lk1_s (by decide) (Or.inl rfl)) lk1_s (hG112) ((hF4).trans ((hF112).mono rfl))
  refine x_aload_n 1 hK rfl rfl rfl ?_
  refine x_getR 4 hK rfl rfl (sp_0 (h := h) hG) (rf_0_14 (h := h) hG) ?_
  have g114 := gri (0) (12) hG (a := 133) (r := 47) (k := 0) rfl rfl
  refine x_getE 7 hK rfl (Or.inl rfl) rfl (sp_133 (h := h) hG) (e := (gi h 133 0)) (rfl) ?_
  refine x_if_ne 12 10 hK rfl rfl rfl (by omega) (fun c4 => ?_) (fun c4 => ?_)
  · refine x_aload_n 13 hK rfl rfl rfl ?_
    refine x_getR 16 hK rfl rfl (sp_0 (h := h) hG) (rf_0_14 (h := h) hG) ?_
    refine x_callV 19 hK hmono rfl rfl [.ref 133] [] rfl rfl (Nat.le_of_ble_eq_true rfl) (Nat.le_of_ble_eq_true rfl) rfl (sp_133 (h := h) hG) (CLd_le (Nat.le_of_ble_eq_true rfl) (ctX7_lastStep hSP hG)) ?_
    rintro v9 h9 ⟨e9, rfl⟩
    rw [e9]
    clear e9
    have lb115 := lcF_b (gi h 134) 24
    refine x_istore_n 20 hK rfl rfl [(1, .int (I (lcF (gi h 134) 24))), (0, .ref 0)] rfl ?_
    refine x_aload_n 21 hK rfl rfl rfl ?_
    refine x_getR 24 hK rfl rfl (sp_0 (h := h) hG) (rf_0_14 (h := h) hG) ?_
    refine x_iload_n 25 hK rfl rfl rfl ?_
    refine x_callV 28 hK hmono rfl rfl [.ref 133, .int (I (lcF (gi h 134) 24))] [] rfl rfl (Nat.le_of_ble_eq_true rfl) (Nat.le_of_ble_eq_true rfl) rfl (sp_133 (h := h) hG) (CLd_le (Nat.le_of_ble_eq_true rfl) (ctX7_countWays hSP hG (last := (lcF (gi h 134) 24)) hP (by omega))) ?_
    rintro v2 h2 ⟨rfl, hG2, hF2, tb2⟩
    refine x_aload_n 29 hK rfl rfl rfl ?_
    refine x_getR 32 hK rfl rfl (sp_0 (h := h2) hG2) (rf_0_1 (h := h2) hG2) ?_
    refine x_callV 35 hK hmono rfl rfl [.ref 3] [] rfl rfl (Nat.le_of_ble_eq_true rfl) (Nat.le_of_ble_eq_true rfl) rfl (sp_3 (h := h2) hG2) (CLd_le (Nat.le_of_ble_eq_true rfl) (ctX3_clear hSP hG2)) ?_
    rintro v116 h116 ⟨rfl, hG116, hF116, t116, s116⟩
    refine x_aload_n 36 hK rfl rfl rfl ?_
    refine x_getR 39 hK rfl rfl (sp_0 (h := h116) hG116) (rf_0_14 (h := h116) hG116) ?_
    refine x_getR 42 hK rfl rfl (sp_133 (h := h116) hG116) (rf_133_2 (h := h116) hG116) ?_
    refine x_iconst 43 hK rfl rfl ?_
    refine x_aaload 44 hK rfl rfl (sp_135 (h := h116) hG116) (by decide) (by omega) (by omega) (by omega) ((PT_F hF116 (by decide) (PT_F hF2 (by decide) hP)).1 _ (by omega)) ?_
    refine x_iconst 45 hK rfl rfl ?_
    have g117 := gj_r h2 136 4
    refine x_laloadE 46 hK rfl rfl (shx (h := h116) hG116 (r := 50) rfl rfl) (by omega) (by omega) (by omega) (e' := (gj h2 136 4)) (FRM_gj hF116 (r := 50) rfl rfl) ?_
    have m4 : (gj h2 136 4) = cwF (fun k : Int => gi h 134 k.toNat) (lcF (gi h 134) 24) (lcF (gi h 134) 24).toNat 4 := by
      have z := tb2 0 4 (by omega) (by omega) (by omega) (by omega) (Or.inl (by omega))
      rw [show (lcF (gi h 134) 24) - 0 = (lcF (gi h 134) 24) by omega] at z
      exact z
    rw [m4]
    refine x_lstore_n 47 hK rfl rfl [(2, .long (J (cwF (fun k : Int => gi h 134 k.toNat) (lcF (gi h 134) 24) (lcF (gi h 134) 24).toNat 4))), (1, .int (I (lcF (gi h 134) 24))), (0, .ref 0)] rfl ?_
    refine x_iconst 48 hK rfl rfl ?_
    refine x_istore 50 hK rfl rfl [(4, .int (I 4)), (2, .long (J (cwF (fun k : Int => gi h 134 k.toNat) (lcF (gi h 134) 24) (lcF (gi h 134) 24).toNat 4))), (1, .int (I (lcF (gi h 134) 24))), (0, .ref 0)] rfl ?_
    refine x_iconst 51 hK rfl rfl ?_
    refine x_istore 53 hK rfl rfl [(5, .int (I 1)), (4, .int (I 4)), (2, .long (J (cwF (fun k : Int => gi h 134 k.toNat) (lcF (gi h 134) 24) (lcF (gi h 134) 24).toNat 4))), (1, .int (I (lcF (gi h 134) 24))), (0, .ref 0)] rfl ?_
    exact loop _ 4 1 _ _ rfl (by omega) (by omega) (by omega) ((fun k' l' y1 y2 y3 y4 y5 => (FRM_gj hF116 (pt_r1 _ (by omega)) rfl).trans (tb2 k' l' y1 y2 y3 y4 y5))) (t116) ((fun z => by rw [show (lcF (gi h 134) 24) - (1 - 1) = (lcF (gi h 134) 24) by omega]; exact z)) ((fun _ => rfl)) ((fun _ => by rw [s116, show (lcF (gi h 134) 24) - (1 - 1) = (lcF (gi h 134) 24) by omega]; rfl)) rfl rfl rfl rfl rfl (hG116) (((hF2).mono rfl).trans ((hF116).mono rfl))
  · refine x_iconst 11 hK rfl rfl ?_
    exact x_iret hK rfl ⟨Or.inl ⟨by omega, rfl, rfl⟩, hG, (FRM.rf : FRM gRL [(0, 3, 1, 1), (1, 4, 0, 29), (1, 50, 0, 8)] h h)⟩
