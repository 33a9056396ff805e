/-! WHAT WAS SEEN (the reference) -/
/-- the LANE in which she was seen in STEP k, of n that are told; else -1 -/
def snF (st la : Nat → Int) (k : Int) : Nat → Int
  | 0 => -1
  | i + 1 => if st i = k then la i else snF st la k i
theorem snF_s {st la : Nat → Int} {k i : Int} (h : 0 ≤ i) : snF st la k (i + 1).toNat = if st i.toNat = k then la i.toNat else snF st la k i.toNat := by rw [tn_s h]; rfl
theorem snF_b {st la : Nat → Int} {k : Int} : ∀ n : Nat, (∀ i, i < n → 0 ≤ la i ∧ la i ≤ 8) → -1 ≤ snF st la k n ∧ snF st la k n ≤ 8
  | 0, _ => ⟨Int.le_refl _, by show (-1 : Int) ≤ 8; omega⟩
  | n + 1, h => by
    have := snF_b (st := st) (k := k) n (fun i hi => h i (by omega))
    have := h n (by omega)
    show -1 ≤ (if st n = k then la n else snF st la k n) ∧ (if st n = k then la n else snF st la k n) ≤ 8
    split <;> omega
def lsF (st : Nat → Int) : Nat → Int
  | 0 => -1
  | i + 1 => max (lsF st i) (st i)
theorem lsF_s {st : Nat → Int} {i : Int} (h : 0 ≤ i) : lsF st (i + 1).toNat = max (lsF st i.toNat) (st i.toNat) := by rw [tn_s h]; rfl
theorem lsF_b {st : Nat → Int} : ∀ n : Nat, (∀ i, i < n → 0 ≤ st i ∧ st i ≤ 24) → -1 ≤ lsF st n ∧ lsF st n ≤ 24 ∧ (0 < n → 0 ≤ lsF st n)
  | 0, _ => ⟨Int.le_refl _, by show (-1 : Int) ≤ 24; omega, fun h => absurd h (by omega)⟩
  | n + 1, h => by
    obtain ⟨h1, h2, h3⟩ := lsF_b n (fun i hi => h i (by omega))
    have := h n (by omega)
    show -1 ≤ max (lsF st n) (st n) ∧ max (lsF st n) (st n) ≤ 24 ∧ _
    refine ⟨by omega, by omega, fun _ => ?_⟩
    show 0 ≤ max (lsF st n) (st n)
    omega
def snFine (f : Int → Int) (k l : Int) : Bool := (decide (f k < 0) || decide (f k = l)) && (decide (0 < k) || decide (l = 4))
def s3 (g : Int → Int) (l v : Int) : Int := (if -1 < v then g (max 0 (min 8 (l + -1))) else 0) + (if 0 < v then g (max 0 (min 8 (l + 0))) else 0) + (if 1 < v then g (max 0 (min 8 (l + 1))) else 0)
/-- how many rows go on from a LANE, d STEPS ahead of the last that was seen; at most 1000000 -/
def sMn (f : Int → Int) (last : Int) : Nat → Int → Int
  | 0, l => if snFine f last l then 1 else 0
  | d + 1, l => if snFine f (last - (d + 1)) l then min 1000000 (s3 (sMn f last d) l 2) else 0
theorem s3_b {g : Int → Int} (hg : ∀ q, 0 ≤ g q ∧ g q ≤ 1000000) (l v : Int) : 0 ≤ s3 g l v ∧ s3 g l v ≤ 3000000 := by
  have a := hg (max 0 (min 8 (l + -1)))
  have b := hg (max 0 (min 8 (l + 0)))
  have c := hg (max 0 (min 8 (l + 1)))
  unfold s3
  split <;> split <;> split <;> omega
theorem sMn_b (f : Int → Int) (last : Int) : ∀ (d : Nat) (l : Int), 0 ≤ sMn f last d l ∧ sMn f last d l ≤ 1000000
  | 0, l => by
    show 0 ≤ (if snFine f last l then (1 : Int) else 0) ∧ (if snFine f last l then (1 : Int) else 0) ≤ 1000000
    split <;> omega
  | d + 1, l => by
    have := s3_b (sMn_b f last d) l 2
    show 0 ≤ (if snFine f (last - (d + 1)) l then min 1000000 (s3 (sMn f last d) l 2) else 0) ∧ (if snFine f (last - (d + 1)) l then min 1000000 (s3 (sMn f last d) l 2) else 0) ≤ 1000000
    split <;> omega
theorem sMn_s {f : Int → Int} {last k l : Int} (h : k < last) : sMn f last (last - k).toNat l = if snFine f k l then min 1000000 (s3 (sMn f last (last - (k + 1)).toNat) l 2) else 0 := by
  obtain ⟨n, hn⟩ : ∃ n : Nat, last - (k + 1) = n := ⟨(last - (k + 1)).toNat, by omega⟩
  rw [show (last - k).toNat = n + 1 by omega, show (last - (k + 1)).toNat = n by omega]
  show (if snFine f (last - (n + 1)) l then _ else (0 : Int)) = _
  rw [show last - ((n : Int) + 1) = k by omega]
/-- the least order that goes on -/
def nxV (g : Int → Int) (l : Int) : Int := if 0 < g (max 0 (min 8 (l + -1))) then -1 else if 0 < g (max 0 (min 8 (l + 0))) then 0 else 1
theorem nxV_b (g : Int → Int) (l : Int) : -1 ≤ nxV g l ∧ nxV g l ≤ 1 := by unfold nxV; split <;> (try split) <;> omega
theorem nxV_ok {g : Int → Int} {l : Int} (hg : ∀ q, 0 ≤ g q ∧ g q ≤ 1000000) (h : 0 < s3 g l 2) : 0 < g (max 0 (min 8 (l + nxV g l))) := by
  have a := hg (max 0 (min 8 (l + -1)))
  have b := hg (max 0 (min 8 (l + 0)))
  have c := hg (max 0 (min 8 (l + 1)))
  unfold s3 at h
  rw [if_pos (by omega), if_pos (by omega), if_pos (by omega)] at h
  unfold nxV
  by_cases h1 : 0 < g (max 0 (min 8 (l + -1)))
  · rw [if_pos h1]; exact h1
  · rw [if_neg h1]
    by_cases h2 : 0 < g (max 0 (min 8 (l + 0)))
    · rw [if_pos h2]; exact h2
    · rw [if_neg h2]; omega
def sRow (f : Int → Int) (last : Int) : Nat → Int → List Int
  | 0, _ => []
  | d + 1, l => nxV (sMn f last d) l :: sRow f last d (max 0 (min 8 (l + nxV (sMn f last d) l)))
/-- the table is filled so far -/
def TBL (f : Int → Int) (last : Int) (h : aH) (k l : Int) : Prop := ∀ k' l' : Int, 0 ≤ k' → 0 ≤ l' → l' ≤ 8 → k' ≤ last → (k < k' ∨ (k' = k ∧ l' < l)) → gi h 195 (9 * k' + l').toNat = sMn f last (last - k').toNat l' ∧ gi h 196 (9 * k' + l').toNat = if 0 < sMn f last (last - k').toNat l' then 1 else 0
theorem TBL_w {f : Int → Int} {last : Int} {h h' : aH} {k l : Int} (t : TBL f last h k l) (hk : 0 ≤ k) (hl : 0 ≤ l ∧ l ≤ 8) (h1 : ∀ j, j ≠ (9 * k + l).toNat → gi h' 195 j = gi h 195 j ∧ gi h' 196 j = gi h 196 j) : TBL f last h' k l := by
  intro k' l' a b c d e
  have z := h1 (9 * k' + l').toNat (by omega)
  rw [z.1, z.2]
  exact t k' l' a b c d e
set_option maxRecDepth 4000 in
theorem ctX11_seenIn {SP : CT} (hSP : MONO SP) {sh : List (Nat × Nat)} {h : aH} (hG : GD gE gRL sh h) {k : Int} (rk : r32 k) : CLd SP 1 mX11_seenIn [.ref 171, .int (I k)] h 0 0 (fun rv h' => h' = h ∧ rv = some (.int (I (snF (gi h 193) (gi h 194) k (gi h 171 42).toNat)))) := by
  refine x_met _ rfl (Nat.le_of_ble_eq_true rfl) (fun K hK => ?_)
  have hmono := MONO_CLd hSP 0
  have loop : ∀ (mz : Nat) (e i : Int) (ls : List (Nat × Value)), ((gi h 171 42 - i).toNat = mz) → (0 ≤ i ∧ i ≤ gi h 171 42) → (e = snF (gi h 193) (gi h 194) k i.toNat) → lk ls 0 = some (.ref 171) → lk ls 1 = some (.int (I k)) → lk ls 2 = some (.int (I e)) → lk ls 3 = some (.int (I i)) → K 4 ls [] h 0 0 := by
    intro mz
    induction mz using Nat.strongRecOn with
    | ind mz ih =>
    intro e i ls hm i0 ee l0 l1 l2 l3
    have gs := gri 0 12 hG (a := 171) (r := 54) (k := 42) rfl rfl
    refine x_iload_n 5 hK rfl rfl l3 ?_
    refine x_aload_n 6 hK rfl rfl l0 ?_
    have g49 := gri (0) (12) hG (a := 171) (r := 54) (k := 42) rfl rfl
    refine x_getE 9 hK rfl (Or.inl rfl) rfl (sp_171 (h := h) hG) (e := (gi h 171 42)) (rfl) ?_
    refine x_if_icmp_ge 39 12 hK rfl rfl rfl (by omega) (by omega) (fun c4 => ?_) (fun c4 => ?_)
    · refine x_iload_n 40 hK rfl rfl l2 ?_
      exact x_iret hK rfl ⟨rfl, by rw [ee, show i = gi h 171 42 by omega]⟩
    · refine x_aload_n 13 hK rfl rfl l0 ?_
      refine x_getR 16 hK rfl rfl (sp_171 (h := h) hG) (rf_171_43 (h := h) hG) ?_
      refine x_iload_n 17 hK rfl rfl l3 ?_
      have g50 := grn (0) (24) hG (a := 193) (r := 76) (k := i.toNat) rfl rfl (by omega)
      refine x_ialoadE 18 hK rfl rfl (sp_193 (h := h) hG) (by omega) (by omega) (by omega) (e' := (gi h 193 i.toNat)) (rfl) ?_
      refine x_iload_n 19 hK rfl rfl l1 ?_
      refine x_if_icmp_ne 31 22 hK rfl rfl rfl (by omega) (by omega) (fun c12 => ?_) (fun c12 => ?_)
      · refine x_iload_n 32 hK rfl rfl l2 ?_
        refine x_istore_n 33 hK rfl rfl _ rfl ?_
        refine x_iinc 36 hK rfl rfl (lk1_n l3 (by decide) (Or.inl rfl)) _ rfl ?_
        refine x_goto 4 hK rfl rfl ?_
        exact ih _ (by omega) e (i + 1) _ rfl (by omega) (by rw [snF_s i0.1]; first | rw [if_pos (by omega)] | (rw [if_neg (by omega)]; exact ee)) (lk1_n (lk1_n l0 (by decide) (Or.inl rfl)) (by decide) (Or.inl rfl)) (lk1_n (lk1_n l1 (by decide) (Or.inl rfl)) (by decide) (Or.inl rfl)) (lk1_n lk1_s (by decide) (Or.inl rfl)) lk1_s
      · refine x_aload_n 23 hK rfl rfl l0 ?_
        refine x_getR 26 hK rfl rfl (sp_171 (h := h) hG) (rf_171_44 (h := h) hG) ?_
        refine x_iload_n 27 hK rfl rfl l3 ?_
        have g51 := grn (0) (8) hG (a := 194) (r := 77) (k := i.toNat) rfl rfl (by omega)
        refine x_ialoadE 28 hK rfl rfl (sp_194 (h := h) hG) (by omega) (by omega) (by omega) (e' := (gi h 194 i.toNat)) (rfl) ?_
        refine x_goto 32 hK rfl rfl ?_
        refine x_istore_n 33 hK rfl rfl _ rfl ?_
        refine x_iinc 36 hK rfl rfl (lk1_n l3 (by decide) (Or.inl rfl)) _ rfl ?_
        refine x_goto 4 hK rfl rfl ?_
        exact ih _ (by omega) (gi h 194 i.toNat) (i + 1) _ rfl (by omega) (by rw [snF_s i0.1]; first | rw [if_pos (by omega)] | (rw [if_neg (by omega)]; exact ee)) (lk1_n (lk1_n l0 (by decide) (Or.inl rfl)) (by decide) (Or.inl rfl)) (lk1_n (lk1_n l1 (by decide) (Or.inl rfl)) (by decide) (Or.inl rfl)) (lk1_n lk1_s (by decide) (Or.inl rfl)) lk1_s
  refine x_iconst 1 hK rfl rfl ?_
  refine x_istore_n 2 hK rfl rfl [(2, .int (I (-1))), (0, .ref 171), (1, .int (I k))] rfl ?_
  refine x_iconst 3 hK rfl rfl ?_
  refine x_istore_n 4 hK rfl rfl [(3, .int (I 0)), (2, .int (I (-1))), (0, .ref 171), (1, .int (I k))] rfl ?_
  have gs := gri 0 12 hG (a := 171) (r := 54) (k := 42) rfl rfl
  exact loop _ (-1) 0 _ rfl (by omega) (rfl) rfl rfl rfl rfl
theorem seen_b {sh : List (Nat × Nat)} {h : aH} (hG : GD gE gRL sh h) (k : Int) : -1 ≤ snF (gi h 193) (gi h 194) k (gi h 171 42).toNat ∧ snF (gi h 193) (gi h 194) k (gi h 171 42).toNat ≤ 8 := by
  have gs := gri 0 12 hG (a := 171) (r := 54) (k := 42) rfl rfl
  exact snF_b _ fun i hi => grn 0 8 hG (a := 194) (r := 77) rfl rfl (by omega)
theorem last_b {sh : List (Nat × Nat)} {h : aH} (hG : GD gE gRL sh h) : -1 ≤ lsF (gi h 193) (gi h 171 42).toNat ∧ lsF (gi h 193) (gi h 171 42).toNat ≤ 24 ∧ (0 < gi h 171 42 → 0 ≤ lsF (gi h 193) (gi h 171 42).toNat) ∧ (gi h 171 42 = 0 → lsF (gi h 193) (gi h 171 42).toNat = -1) := by
  have gs := gri 0 12 hG (a := 171) (r := 54) (k := 42) rfl rfl
  obtain ⟨h1, h2, h3⟩ := lsF_b (st := gi h 193) (gi h 171 42).toNat fun i hi => grn 0 24 hG (a := 193) (r := 76) rfl rfl (by omega)
  exact ⟨h1, h2, fun z => h3 (by omega), fun z => by rw [z]; rfl⟩
set_option maxRecDepth 4000 in
theorem ctX11_lastSeen {SP : CT} (hSP : MONO SP) {sh : List (Nat × Nat)} {h : aH} (hG : GD gE gRL sh h) : CLd SP 1 mX11_lastSeen [.ref 171] h 0 0 (fun rv h' => h' = h ∧ rv = some (.int (I (lsF (gi h 193) (gi h 171 42).toNat)))) := by
  refine x_met _ rfl (Nat.le_of_ble_eq_true rfl) (fun K hK => ?_)
  have hmono := MONO_CLd hSP 0
  have loop : ∀ (mz : Nat) (e i : Int) (ls : List (Nat × Value)), ((gi h 171 42 - i).toNat = mz) → (0 ≤ i ∧ i ≤ gi h 171 42) → (-1 ≤ e ∧ e ≤ 24) → (e = lsF (gi h 193) i.toNat) → lk ls 0 = some (.ref 171) → lk ls 1 = some (.int (I e)) → lk ls 2 = some (.int (I i)) → K 4 ls [] h 0 0 := by
    intro mz
    induction mz using Nat.strongRecOn with
    | ind mz ih =>
    intro e i ls hm i0 eb ee l0 l1 l2
    have gs := gri 0 12 hG (a := 171) (r := 54) (k := 42) rfl rfl
    refine x_iload_n 5 hK rfl rfl l2 ?_
    refine x_aload_n 6 hK rfl rfl l0 ?_
    have g52 := gri (0) (12) hG (a := 171) (r := 54) (k := 42) rfl rfl
    refine x_getE 9 hK rfl (Or.inl rfl) rfl (sp_171 (h := h) hG) (e := (gi h 171 42)) (rfl) ?_
    refine x_if_icmp_ge 29 12 hK rfl rfl rfl (by omega) (by omega) (fun c4 => ?_) (fun c4 => ?_)
    · refine x_iload_n 30 hK rfl rfl l1 ?_
      exact x_iret hK rfl ⟨rfl, by rw [ee, show i = gi h 171 42 by omega]⟩
    · refine x_iload_n 13 hK rfl rfl l1 ?_
      refine x_aload_n 14 hK rfl rfl l0 ?_
      refine x_getR 17 hK rfl rfl (sp_171 (h := h) hG) (rf_171_43 (h := h) hG) ?_
      refine x_iload_n 18 hK rfl rfl l2 ?_
      have g53 := grn (0) (24) hG (a := 193) (r := 76) (k := i.toNat) rfl rfl (by omega)
      refine x_ialoadE 19 hK rfl rfl (sp_193 (h := h) hG) (by omega) (by omega) (by omega) (e' := (gi h 193 i.toNat)) (rfl) ?_
      refine x_max 22 hK rfl rfl (Nat.le_of_ble_eq_true rfl) (by omega) (by omega) ?_
      refine x_istore_n 23 hK rfl rfl _ rfl ?_
      refine x_iinc 26 hK rfl rfl (lk1_n l2 (by decide) (Or.inl rfl)) _ rfl ?_
      refine x_goto 4 hK rfl rfl ?_
      exact ih _ (by omega) (max e (gi h 193 i.toNat)) (i + 1) _ rfl (by omega) (by omega) (by rw [lsF_s i0.1, ee]) (lk1_n (lk1_n l0 (by decide) (Or.inl rfl)) (by decide) (Or.inl rfl)) (lk1_n lk1_s (by decide) (Or.inl rfl)) lk1_s
  refine x_iconst 1 hK rfl rfl ?_
  refine x_istore_n 2 hK rfl rfl [(1, .int (I (-1))), (0, .ref 171)] rfl ?_
  refine x_iconst 3 hK rfl rfl ?_
  refine x_istore_n 4 hK rfl rfl [(2, .int (I 0)), (1, .int (I (-1))), (0, .ref 171)] rfl ?_
  have gs := gri 0 12 hG (a := 171) (r := 54) (k := 42) rfl rfl
  exact loop _ (-1) 0 _ rfl (by omega) (by omega) (rfl) rfl rfl rfl
theorem fine_1 {f : Int → Int} {k l : Int} (h : (f k < 0 ∨ f k = l) ∧ (0 < k ∨ l = 4)) : b2i (snFine f k l) = 1 := by
  unfold snFine b2i
  obtain ⟨h1, h2⟩ := h
  rw [if_pos]
  rw [Bool.and_eq_true, Bool.or_eq_true, Bool.or_eq_true, decide_eq_true_eq, decide_eq_true_eq, decide_eq_true_eq, decide_eq_true_eq]
  exact ⟨h1, h2⟩
theorem fine_0 {f : Int → Int} {k l : Int} (h : ¬ ((f k < 0 ∨ f k = l) ∧ (0 < k ∨ l = 4))) : b2i (snFine f k l) = 0 := by
  unfold snFine b2i
  rw [if_neg]
  rw [Bool.and_eq_true, Bool.or_eq_true, Bool.or_eq_true, decide_eq_true_eq, decide_eq_true_eq, decide_eq_true_eq, decide_eq_true_eq]
  exact h
set_option maxRecDepth 4000 in
theorem ctX11_isFine {SP : CT} (hSP : MONO SP) {sh : List (Nat × Nat)} {h : aH} (hG : GD gE gRL sh h) {k l : Int} (rk : r32 k) (rl : r32 l) : CLd SP 2 mX11_isFine [.ref 171, .int (I k), .int (I l)] h 0 0 (fun rv h' => h' = h ∧ rv = some (.int (I (b2i (snFine (fun k => snF (gi h 193) (gi h 194) k (gi h 171 42).toNat) k l))))) := by
  refine x_met _ rfl (Nat.le_of_ble_eq_true rfl) (fun K hK => ?_)
  have hmono := MONO_CLd hSP 1
  have sb := seen_b hG k
  refine x_aload_n 1 hK rfl rfl rfl ?_
  refine x_iload_n 2 hK rfl rfl rfl ?_
  refine x_callV 5 hK hmono rfl rfl [.ref 171, .int (I k)] [] rfl rfl (Nat.le_of_ble_eq_true rfl) (Nat.le_of_ble_eq_true rfl) rfl (sp_171 (h := h) hG) (CLd_le (Nat.le_of_ble_eq_true rfl) (ctX11_seenIn hSP hG (by omega))) ?_
  rintro v9 h9 ⟨e9, rfl⟩
  rw [e9]
  clear e9
  have sb54 := seen_b hG k
  refine x_if_lt 17 8 hK rfl rfl rfl (by omega) (fun c4 => ?_) (fun c4 => ?_)
  · refine x_iload_n 18 hK rfl rfl rfl ?_
    refine x_if_gt 26 21 hK rfl rfl rfl (by omega) (fun c6 => ?_) (fun c6 => ?_)
    · refine x_iconst 27 hK rfl rfl ?_
      refine x_goto 31 hK rfl rfl ?_
      exact x_zret hK rfl (by omega) ⟨rfl, by rw [show b2i (snFine (fun k => snF (gi h 193) (gi h 194) k (gi h 171 42).toNat) k l) = 1 from fine_1 (by omega)]⟩
    · refine x_iload_n 22 hK rfl rfl rfl ?_
      refine x_iconst 23 hK rfl rfl ?_
      refine x_if_icmp_ne 30 26 hK rfl rfl rfl (by omega) (by omega) (fun c12 => ?_) (fun c12 => ?_)
      · refine x_iconst 31 hK rfl rfl ?_
        exact x_zret hK rfl (by omega) ⟨rfl, by rw [show b2i (snFine (fun k => snF (gi h 193) (gi h 194) k (gi h 171 42).toNat) k l) = 0 from fine_0 (by omega)]⟩
      · refine x_iconst 27 hK rfl rfl ?_
        refine x_goto 31 hK rfl rfl ?_
        exact x_zret hK rfl (by omega) ⟨rfl, by rw [show b2i (snFine (fun k => snF (gi h 193) (gi h 194) k (gi h 171 42).toNat) k l) = 1 from fine_1 (by omega)]⟩
  · refine x_aload_n 9 hK rfl rfl rfl ?_
    refine x_iload_n 10 hK rfl rfl rfl ?_
    refine x_callV 13 hK hmono rfl rfl [.ref 171, .int (I k)] [] rfl rfl (Nat.le_of_ble_eq_true rfl) (Nat.le_of_ble_eq_true rfl) rfl (sp_171 (h := h) hG) (CLd_le (Nat.le_of_ble_eq_true rfl) (ctX11_seenIn hSP hG (by omega))) ?_
    rintro v9 h9 ⟨e9, rfl⟩
    rw [e9]
    clear e9
    have sb55 := seen_b hG k
    refine x_iload_n 14 hK rfl rfl rfl ?_
    refine x_if_icmp_ne 30 17 hK rfl rfl rfl (by omega) (by omega) (fun c22 => ?_) (fun c22 => ?_)
    · refine x_iconst 31 hK rfl rfl ?_
      exact x_zret hK rfl (by omega) ⟨rfl, by rw [show b2i (snFine (fun k => snF (gi h 193) (gi h 194) k (gi h 171 42).toNat) k l) = 0 from fine_0 (by omega)]⟩
    · refine x_iload_n 18 hK rfl rfl rfl ?_
      refine x_if_gt 26 21 hK rfl rfl rfl (by omega) (fun c26 => ?_) (fun c26 => ?_)
      · refine x_iconst 27 hK rfl rfl ?_
        refine x_goto 31 hK rfl rfl ?_
        exact x_zret hK rfl (by omega) ⟨rfl, by rw [show b2i (snFine (fun k => snF (gi h 193) (gi h 194) k (gi h 171 42).toNat) k l) = 1 from fine_1 (by omega)]⟩
      · refine x_iload_n 22 hK rfl rfl rfl ?_
        refine x_iconst 23 hK rfl rfl ?_
        refine x_if_icmp_ne 30 26 hK rfl rfl rfl (by omega) (by omega) (fun c32 => ?_) (fun c32 => ?_)
        · refine x_iconst 31 hK rfl rfl ?_
          exact x_zret hK rfl (by omega) ⟨rfl, by rw [show b2i (snFine (fun k => snF (gi h 193) (gi h 194) k (gi h 171 42).toNat) k l) = 0 from fine_0 (by omega)]⟩
        · refine x_iconst 27 hK rfl rfl ?_
          refine x_goto 31 hK rfl rfl ?_
          exact x_zret hK rfl (by omega) ⟨rfl, by rw [show b2i (snFine (fun k => snF (gi h 193) (gi h 194) k (gi h 171 42).toNat) k l) = 1 from fine_1 (by omega)]⟩
theorem s3_n {g : Int → Int} {l v : Int} (h0 : -1 ≤ v) (h1 : v ≤ 1) : s3 g l (v + 1) = s3 g l v + g (max 0 (min 8 (l + v))) := by
  unfold s3
  rcases (show v = -1 ∨ v = 0 ∨ v = 1 by omega) with rfl | rfl | rfl
  · rw [if_pos (by omega), if_neg (by omega), if_neg (by omega), if_neg (by omega), if_neg (by omega), if_neg (by omega)]; omega
  · rw [if_pos (by omega), if_pos (by omega), if_neg (by omega), if_pos (by omega), if_neg (by omega), if_neg (by omega)]; omega
  · rw [if_pos (by omega), if_pos (by omega), if_pos (by omega), if_pos (by omega), if_pos (by omega), if_neg (by omega)]; omega
theorem b2i_1 {b : Bool} (h : ¬ b2i b = 0) : b = true := by cases b <;> simp_all [b2i]
theorem b2i_0 {b : Bool} (h : b2i b = 0) : b = false := by cases b <;> simp_all [b2i]
set_option maxRecDepth 4000 in
theorem ctX11_laysSeen {SP : CT} (hSP : MONO SP) {sh : List (Nat × Nat)} {h : aH} (hG : GD gE gRL sh h) {last : Int} (hl : 0 ≤ last ∧ last ≤ 24) : CLd SP 3 mX11_laysSeen [.ref 171, .int (I last)] h 0 0 (fun rv h' => rv = none ∧ GD gE gRL sh h' ∧ FRM gRL [(0, 78, 0, 224), (0, 79, 0, 224)] h h' ∧ TBL (fun k => snF (gi h 193) (gi h 194) k (gi h 171 42).toNat) last h' (-1) 0) := by
  refine x_met _ rfl (Nat.le_of_ble_eq_true rfl) (fun K hK => ?_)
  have hmono := MONO_CLd hSP 2
  have loopK : ∀ (mz : Nat) (k : Int) (h3 : aH) (ls : List (Nat × Value)), ((k + 1).toNat = mz) → (-1 ≤ k ∧ k ≤ last) → (TBL (fun k => snF (gi h 193) (gi h 194) k (gi h 171 42).toNat) last h3 k 0) → lk ls 0 = some (.ref 171) → lk ls 1 = some (.int (I last)) → lk ls 2 = some (.int (I k)) → GD gE gRL sh h3 → FRM gRL [(0, 78, 0, 224), (0, 79, 0, 224)] h h3 → K 2 ls [] h3 0 0 := by
    intro mz
    induction mz using Nat.strongRecOn with
    | ind mz ih =>
    intro k h3 ls hm k0 t3 l0 l1 l2 hG3 hF3
    have ihK := ih
    have loopL : ∀ (mz : Nat) (l : Int) (h4 : aH) (ls : List (Nat × Value)), ((9 - l).toNat = mz) → (0 ≤ l ∧ l ≤ 9) → (0 ≤ k) → (TBL (fun k => snF (gi h 193) (gi h 194) k (gi h 171 42).toNat) last h4 k l) → lk ls 0 = some (.ref 171) → lk ls 1 = some (.int (I last)) → lk ls 2 = some (.int (I k)) → lk ls 3 = some (.int (I l)) → GD gE gRL sh h4 → FRM gRL [(0, 78, 0, 224), (0, 79, 0, 224)] h h4 → K 8 ls [] h4 0 0 := by
      intro mz
      induction mz using Nat.strongRecOn with
      | ind mz ih =>
      intro l h4 ls hm l0 k1 t4 l0 l1 l2 l3 hG4 hF4
      have ihL := ih
      have loopV : ∀ (mz : Nat) (e v : Int) (h5 : aH) (ls : List (Nat × Value)), ((2 - v).toNat = mz) → (l ≤ 8) → (e = 9 * k + l) → (-1 ≤ v ∧ v ≤ 2) → (TBL (fun k => snF (gi h 193) (gi h 194) k (gi h 171 42).toNat) last h5 k l) → (gi h5 195 e.toNat = if k = last then 1 else s3 (sMn (fun k => snF (gi h 193) (gi h 194) k (gi h 171 42).toNat) last (last - (k + 1)).toNat) l v) → (gi h5 196 e.toNat = if 0 < gi h5 195 e.toNat then 1 else 0) → lk ls 0 = some (.ref 171) → lk ls 1 = some (.int (I last)) → lk ls 2 = some (.int (I k)) → lk ls 3 = some (.int (I l)) → lk ls 4 = some (.int (I e)) → lk ls 5 = some (.int (I v)) → GD gE gRL sh h5 → FRM gRL [(0, 78, 0, 224), (0, 79, 0, 224)] h h5 → K 59 ls [] h5 0 0 := by
        intro mz
        induction mz using Nat.strongRecOn with
        | ind mz ih =>
        intro e v h5 ls hm l1 ei v0 t5 m5 a5 l0 l1 l2 l3 l4 l5 hG5 hF5
        have gb := sMn_b (fun k => snF (gi h 193) (gi h 194) k (gi h 171 42).toNat) last (last - (k + 1)).toNat
        have sb3 := s3_b gb l v
        have m5b : 0 ≤ gi h5 195 e.toNat ∧ gi h5 195 e.toNat ≤ 3000000 := by rw [m5]; split <;> omega
        have a5b : gi h5 196 e.toNat = 0 ∨ gi h5 196 e.toNat = 1 := by rw [a5]; split <;> omega
        have tz : k < last → v ≤ 1 → gi h5 195 ((9 * (k + 1)) + (max 0 (min 8 (l + v)))).toNat = (sMn (fun k => snF (gi h 193) (gi h 194) k (gi h 171 42).toNat) last (last - (k + 1)).toNat) (max 0 (min 8 (l + v))) ∧ gi h5 196 ((9 * (k + 1)) + (max 0 (min 8 (l + v)))).toNat = if 0 < (sMn (fun k => snF (gi h 193) (gi h 194) k (gi h 171 42).toNat) last (last - (k + 1)).toNat) (max 0 (min 8 (l + v))) then 1 else 0 := fun z1 z2 => t5 (k + 1) (max 0 (min 8 (l + v))) (by omega) (by omega) (by omega) (by omega) (Or.inl (by omega))
        have gv := gb (max 0 (min 8 (l + v)))
        have s3n : v ≤ 1 → s3 (sMn (fun k => snF (gi h 193) (gi h 194) k (gi h 171 42).toNat) last (last - (k + 1)).toNat) l (v + 1) = s3 (sMn (fun k => snF (gi h 193) (gi h 194) k (gi h 171 42).toNat) last (last - (k + 1)).toNat) l v + (sMn (fun k => snF (gi h 193) (gi h 194) k (gi h 171 42).toNat) last (last - (k + 1)).toNat) (max 0 (min 8 (l + v))) := fun z => s3_n (by omega) z
        refine x_iload 61 hK rfl rfl l5 ?_
        refine x_iconst 62 hK rfl rfl ?_
        refine x_if_icmp_gt 149 65 hK rfl rfl rfl (by omega) (by omega) (fun c3 => ?_) (fun c3 => ?_)
        · have mE : gi h5 195 e.toNat = if k = last then 1 else s3 (sMn (fun k => snF (gi h 193) (gi h 194) k (gi h 171 42).toNat) last (last - (k + 1)).toNat) l 2 := by
            rw [m5]
            by_cases c : k = last
            · rw [if_pos c, if_pos c]
            · rw [if_neg c, if_neg c, show v = 2 by omega]
          refine x_aload_n 150 hK rfl rfl l0 ?_
          refine x_getR 153 hK rfl rfl (sp_171 (h := h5) hG5) (rf_171_45 (h := h5) hG5) ?_
          refine x_iload 155 hK rfl rfl l4 ?_
          refine x_aload_n 156 hK rfl rfl l0 ?_
          refine x_iload_n 157 hK rfl rfl l2 ?_
          refine x_iload_n 158 hK rfl rfl l3 ?_
          refine x_callV 161 hK hmono rfl rfl [.ref 171, .int (I k), .int (I l)] [.int (I e), .ref 195] rfl rfl (Nat.le_of_ble_eq_true rfl) (Nat.le_of_ble_eq_true rfl) rfl (sp_171 (h := h5) hG5) (CLd_le (Nat.le_of_ble_eq_true rfl) (ctX11_isFine hSP hG5 (by omega) (by omega))) ?_
          rintro v9 h9 ⟨e9, rfl⟩
          rw [e9]
          clear e9
          rw [show (fun k => snF (gi h5 193) (gi h5 194) k (gi h5 171 42).toNat) = (fun k => snF (gi h 193) (gi h 194) k (gi h 171 42).toNat) from by rw [show gi h5 171 42 = gi h 171 42 from FRM_gi hF5 (r := 54) rfl rfl, show gi h5 193 = gi h 193 from funext fun j => FRM_gi hF5 (r := 76) rfl rfl, show gi h5 194 = gi h 194 from funext fun j => FRM_gi hF5 (r := 77) rfl rfl]]
          have fb56 := b2i_r (snFine (fun k => snF (gi h 193) (gi h 194) k (gi h 171 42).toNat) k l)
          refine x_if_eq 180 164 hK rfl rfl rfl (by omega) (fun c12 => ?_) (fun c12 => ?_)
          · refine x_iconst 181 hK rfl rfl ?_
            refine x_iastore 182 hK rfl rfl (sp_195 (h := h5) hG5) (by omega) (by omega) (by omega) ?_
            refine x_aload_n 183 hK rfl rfl l0 ?_
            refine x_getR 186 hK rfl rfl (sp_171 (h := h5) hG5) (rf_171_46 (h := h5) hG5) ?_
            refine x_iload 188 hK rfl rfl l4 ?_
            refine x_aload_n 189 hK rfl rfl l0 ?_
            refine x_getR 192 hK rfl rfl (sp_171 (h := h5) hG5) (rf_171_46 (h := h5) hG5) ?_
            refine x_iload 194 hK rfl rfl l4 ?_
            have g57 := grn (0) (1) hG5 (a := 196) (r := 79) (k := e.toNat) rfl rfl (by omega)
            refine x_baloadE 195 hK rfl rfl (sp_196 (h := h5) hG5) (by omega) (by omega) (by omega) (e' := (gi h5 196 e.toNat)) (gi_a (by decide) _) ?_
            refine x_if_eq 211 198 hK rfl rfl rfl (by omega) (fun c22 => ?_) (fun c22 => ?_)
            · refine x_iconst 212 hK rfl rfl ?_
              refine x_bastore 213 hK rfl rfl (sp_196 (h := h5) hG5) (by omega) (by omega) (by omega) (by omega) ?_
              refine x_iinc 216 hK rfl rfl l3 _ rfl ?_
              refine x_goto 8 hK rfl rfl ?_
              have mn : gi (wI (wI h5 195 e.toNat 0) 196 e.toNat 0) 195 e.toNat = 0 := (gi_a (by decide) _).trans (gi_same (by omega))
              have an : gi (wI (wI h5 195 e.toNat 0) 196 e.toNat 0) 196 e.toNat = 0 := gi_same (by omega)
              have fn : snFine (fun k => snF (gi h 193) (gi h 194) k (gi h 171 42).toNat) k l = false := b2i_0 (by omega)
              have me : (0 : Int) = sMn (fun k => snF (gi h 193) (gi h 194) k (gi h 171 42).toNat) last (last - k).toNat l := by
                by_cases c : k = last
                · rw [if_pos c] at mE
                  rw [c, show (last - last).toNat = 0 by omega]
                  rw [c] at fn
                  unfold sMn
                  rw [fn]
                  rfl
                · rw [if_neg c] at mE
                  rw [sMn_s (by omega), fn]
                  rfl
              have ae : (0 : Int) = if 0 < sMn (fun k => snF (gi h 193) (gi h 194) k (gi h 171 42).toNat) last (last - k).toNat l then 1 else 0 := by
                first | omega | (rw [← me]; first | rw [if_pos (by omega)] | rw [if_neg (by omega)])
              have tn : TBL (fun k => snF (gi h 193) (gi h 194) k (gi h 171 42).toNat) last (wI (wI h5 195 e.toNat 0) 196 e.toNat 0) k (l + 1) := by
                intro k' l' y1 y2 y3 y4 y5
                by_cases c : k' = k ∧ l' = l
                · obtain ⟨rfl, rfl⟩ := c
                  rw [← ei]
                  exact ⟨mn.trans me, an.trans ae⟩
                · exact (TBL_w t5 (by omega) (by omega) fun j hj => ⟨(gi_a (by decide) _).trans (gi_k (by omega) _), (gi_k (by omega) _).trans (gi_a (by decide) _)⟩) k' l' y1 y2 y3 y4 (by omega)
              exact ihL _ (by omega) (l + 1) _ _ rfl (by omega) (by omega) (tn) (lk1_n l0 (by decide) (Or.inl rfl)) (lk1_n l1 (by decide) (Or.inl rfl)) (lk1_n l2 (by decide) (Or.inl rfl)) lk1_s (GD_wu (GD_wn (hG5) (r := 78) rfl rfl) (r := 79) rfl (by omega) rfl (by omega) (by omega)) (FRM_wn 0 224 (FRM_wn 0 224 (hF5) (r := 78) rfl rfl rfl (by omega) (by omega)) (r := 79) rfl rfl rfl (by omega) (by omega))
            · refine x_aload_n 199 hK rfl rfl l0 ?_
              refine x_iload_n 200 hK rfl rfl l2 ?_
              refine x_iload_n 201 hK rfl rfl l3 ?_
              have hGp59 : GD gE gRL sh (wI h5 195 e.toNat 0) := GD_wn (hG5) (r := 78) rfl rfl
              refine x_callV 204 hK hmono rfl rfl [.ref 171, .int (I k), .int (I l)] [.int (I e), .ref 196] rfl rfl (Nat.le_of_ble_eq_true rfl) (Nat.le_of_ble_eq_true rfl) rfl (sp_171 (h := h5) hG5) (CLd_le (Nat.le_of_ble_eq_true rfl) (ctX11_isFine hSP hGp59 (by omega) (by omega))) ?_
              rintro v9 h9 ⟨e9, rfl⟩
              rw [e9]
              clear e9
              rw [show (fun k => snF (gi (wI h5 195 e.toNat 0) 193) (gi (wI h5 195 e.toNat 0) 194) k (gi (wI h5 195 e.toNat 0) 171 42).toNat) = (fun k => snF (gi h 193) (gi h 194) k (gi h 171 42).toNat) from by rw [show gi (wI h5 195 e.toNat 0) 171 42 = gi h 171 42 from (gi_a (by decide) _).trans (FRM_gi hF5 (r := 54) rfl rfl), show gi (wI h5 195 e.toNat 0) 193 = gi h 193 from funext fun j => (gi_a (by decide) _).trans (FRM_gi hF5 (r := 76) rfl rfl), show gi (wI h5 195 e.toNat 0) 194 = gi h 194 from funext fun j => (gi_a (by decide) _).trans (FRM_gi hF5 (r := 77) rfl rfl)]]
              have fb58 := b2i_r (snFine (fun k => snF (gi h 193) (gi h 194) k (gi h 171 42).toNat) k l)
              refine x_if_eq 211 207 hK rfl rfl rfl (by omega) (fun _ => ?_) (fun c => by omega)
              refine x_iconst 212 hK rfl rfl ?_
              refine x_bastore 213 hK rfl rfl (sp_196 (h := h5) hG5) (by omega) (by omega) (by omega) (by omega) ?_
              refine x_iinc 216 hK rfl rfl l3 _ rfl ?_
              refine x_goto 8 hK rfl rfl ?_
              have mn : gi (wI (wI h5 195 e.toNat 0) 196 e.toNat 0) 195 e.toNat = 0 := (gi_a (by decide) _).trans (gi_same (by omega))
              have an : gi (wI (wI h5 195 e.toNat 0) 196 e.toNat 0) 196 e.toNat = 0 := gi_same (by omega)
              have fn : snFine (fun k => snF (gi h 193) (gi h 194) k (gi h 171 42).toNat) k l = false := b2i_0 (by omega)
              have me : (0 : Int) = sMn (fun k => snF (gi h 193) (gi h 194) k (gi h 171 42).toNat) last (last - k).toNat l := by
                by_cases c : k = last
                · rw [if_pos c] at mE
                  rw [c, show (last - last).toNat = 0 by omega]
                  rw [c] at fn
                  unfold sMn
                  rw [fn]
                  rfl
                · rw [if_neg c] at mE
                  rw [sMn_s (by omega), fn]
                  rfl
              have ae : (0 : Int) = if 0 < sMn (fun k => snF (gi h 193) (gi h 194) k (gi h 171 42).toNat) last (last - k).toNat l then 1 else 0 := by
                first | omega | (rw [← me]; first | rw [if_pos (by omega)] | rw [if_neg (by omega)])
              have tn : TBL (fun k => snF (gi h 193) (gi h 194) k (gi h 171 42).toNat) last (wI (wI h5 195 e.toNat 0) 196 e.toNat 0) k (l + 1) := by
                intro k' l' y1 y2 y3 y4 y5
                by_cases c : k' = k ∧ l' = l
                · obtain ⟨rfl, rfl⟩ := c
                  rw [← ei]
                  exact ⟨mn.trans me, an.trans ae⟩
                · exact (TBL_w t5 (by omega) (by omega) fun j hj => ⟨(gi_a (by decide) _).trans (gi_k (by omega) _), (gi_k (by omega) _).trans (gi_a (by decide) _)⟩) k' l' y1 y2 y3 y4 (by omega)
              exact ihL _ (by omega) (l + 1) _ _ rfl (by omega) (by omega) (tn) (lk1_n l0 (by decide) (Or.inl rfl)) (lk1_n l1 (by decide) (Or.inl rfl)) (lk1_n l2 (by decide) (Or.inl rfl)) lk1_s (GD_wu (GD_wn (hG5) (r := 78) rfl rfl) (r := 79) rfl (by omega) rfl (by omega) (by omega)) (FRM_wn 0 224 (FRM_wn 0 224 (hF5) (r := 78) rfl rfl rfl (by omega) (by omega)) (r := 79) rfl rfl rfl (by omega) (by omega))
          · refine x_ldc_w 167 hK rfl rfl ?_
            refine x_aload_n 168 hK rfl rfl l0 ?_
            refine x_getR 171 hK rfl rfl (sp_171 (h := h5) hG5) (rf_171_45 (h := h5) hG5) ?_
            refine x_iload 173 hK rfl rfl l4 ?_
            have g60 := gi_r h5 195 e.toNat
            refine x_ialoadE 174 hK rfl rfl (sp_195 (h := h5) hG5) (by omega) (by omega) (by omega) (e' := (gi h5 195 e.toNat)) (rfl) ?_
            refine x_min 177 hK rfl rfl (Nat.le_of_ble_eq_true rfl) (by omega) (by omega) ?_
            refine x_goto 181 hK rfl rfl ?_
            refine x_iastore 182 hK rfl rfl (sp_195 (h := h5) hG5) (by omega) (by omega) (by omega) ?_
            refine x_aload_n 183 hK rfl rfl l0 ?_
            refine x_getR 186 hK rfl rfl (sp_171 (h := h5) hG5) (rf_171_46 (h := h5) hG5) ?_
            refine x_iload 188 hK rfl rfl l4 ?_
            refine x_aload_n 189 hK rfl rfl l0 ?_
            refine x_getR 192 hK rfl rfl (sp_171 (h := h5) hG5) (rf_171_46 (h := h5) hG5) ?_
            refine x_iload 194 hK rfl rfl l4 ?_
            have g61 := grn (0) (1) hG5 (a := 196) (r := 79) (k := e.toNat) rfl rfl (by omega)
            refine x_baloadE 195 hK rfl rfl (sp_196 (h := h5) hG5) (by omega) (by omega) (by omega) (e' := (gi h5 196 e.toNat)) (gi_a (by decide) _) ?_
            refine x_if_eq 211 198 hK rfl rfl rfl (by omega) (fun c53 => ?_) (fun c53 => ?_)
            · refine x_iconst 212 hK rfl rfl ?_
              refine x_bastore 213 hK rfl rfl (sp_196 (h := h5) hG5) (by omega) (by omega) (by omega) (by omega) ?_
              refine x_iinc 216 hK rfl rfl l3 _ rfl ?_
              refine x_goto 8 hK rfl rfl ?_
              have mn : gi (wI (wI h5 195 e.toNat (min 1000000 (gi h5 195 e.toNat))) 196 e.toNat 0) 195 e.toNat = (min 1000000 (gi h5 195 e.toNat)) := (gi_a (by decide) _).trans (gi_same (by omega))
              have an : gi (wI (wI h5 195 e.toNat (min 1000000 (gi h5 195 e.toNat))) 196 e.toNat 0) 196 e.toNat = 0 := gi_same (by omega)
              have fn : snFine (fun k => snF (gi h 193) (gi h 194) k (gi h 171 42).toNat) k l = true := b2i_1 (by omega)
              have me : ((min 1000000 (gi h5 195 e.toNat)) : Int) = sMn (fun k => snF (gi h 193) (gi h 194) k (gi h 171 42).toNat) last (last - k).toNat l := by
                by_cases c : k = last
                · rw [if_pos c] at mE
                  rw [c, show (last - last).toNat = 0 by omega]
                  rw [c] at fn
                  unfold sMn
                  rw [fn]
                  rw [mE]; rfl
                · rw [if_neg c] at mE
                  rw [sMn_s (by omega), fn]
                  rw [mE]; rfl
              have ae : (0 : Int) = if 0 < sMn (fun k => snF (gi h 193) (gi h 194) k (gi h 171 42).toNat) last (last - k).toNat l then 1 else 0 := by
                first | omega | (rw [← me]; first | rw [if_pos (by omega)] | rw [if_neg (by omega)])
              have tn : TBL (fun k => snF (gi h 193) (gi h 194) k (gi h 171 42).toNat) last (wI (wI h5 195 e.toNat (min 1000000 (gi h5 195 e.toNat))) 196 e.toNat 0) k (l + 1) := by
                intro k' l' y1 y2 y3 y4 y5
                by_cases c : k' = k ∧ l' = l
                · obtain ⟨rfl, rfl⟩ := c
                  rw [← ei]
                  exact ⟨mn.trans me, an.trans ae⟩
                · exact (TBL_w t5 (by omega) (by omega) fun j hj => ⟨(gi_a (by decide) _).trans (gi_k (by omega) _), (gi_k (by omega) _).trans (gi_a (by decide) _)⟩) k' l' y1 y2 y3 y4 (by omega)
              exact ihL _ (by omega) (l + 1) _ _ rfl (by omega) (by omega) (tn) (lk1_n l0 (by decide) (Or.inl rfl)) (lk1_n l1 (by decide) (Or.inl rfl)) (lk1_n l2 (by decide) (Or.inl rfl)) lk1_s (GD_wu (GD_wn (hG5) (r := 78) rfl rfl) (r := 79) rfl (by omega) rfl (by omega) (by omega)) (FRM_wn 0 224 (FRM_wn 0 224 (hF5) (r := 78) rfl rfl rfl (by omega) (by omega)) (r := 79) rfl rfl rfl (by omega) (by omega))
            · refine x_aload_n 199 hK rfl rfl l0 ?_
              refine x_iload_n 200 hK rfl rfl l2 ?_
              refine x_iload_n 201 hK rfl rfl l3 ?_
              have hGp63 : GD gE gRL sh (wI h5 195 e.toNat (min 1000000 (gi h5 195 e.toNat))) := GD_wn (hG5) (r := 78) rfl rfl
              refine x_callV 204 hK hmono rfl rfl [.ref 171, .int (I k), .int (I l)] [.int (I e), .ref 196] rfl rfl (Nat.le_of_ble_eq_true rfl) (Nat.le_of_ble_eq_true rfl) rfl (sp_171 (h := h5) hG5) (CLd_le (Nat.le_of_ble_eq_true rfl) (ctX11_isFine hSP hGp63 (by omega) (by omega))) ?_
              rintro v9 h9 ⟨e9, rfl⟩
              rw [e9]
              clear e9
              rw [show (fun k => snF (gi (wI h5 195 e.toNat (min 1000000 (gi h5 195 e.toNat))) 193) (gi (wI h5 195 e.toNat (min 1000000 (gi h5 195 e.toNat))) 194) k (gi (wI h5 195 e.toNat (min 1000000 (gi h5 195 e.toNat))) 171 42).toNat) = (fun k => snF (gi h 193) (gi h 194) k (gi h 171 42).toNat) from by rw [show gi (wI h5 195 e.toNat (min 1000000 (gi h5 195 e.toNat))) 171 42 = gi h 171 42 from (gi_a (by decide) _).trans (FRM_gi hF5 (r := 54) rfl rfl), show gi (wI h5 195 e.toNat (min 1000000 (gi h5 195 e.toNat))) 193 = gi h 193 from funext fun j => (gi_a (by decide) _).trans (FRM_gi hF5 (r := 76) rfl rfl), show gi (wI h5 195 e.toNat (min 1000000 (gi h5 195 e.toNat))) 194 = gi h 194 from funext fun j => (gi_a (by decide) _).trans (FRM_gi hF5 (r := 77) rfl rfl)]]
              have fb62 := b2i_r (snFine (fun k => snF (gi h 193) (gi h 194) k (gi h 171 42).toNat) k l)
              refine x_if_eq 211 207 hK rfl rfl rfl (by omega) (fun c => by omega) (fun _ => ?_)
              refine x_iconst 208 hK rfl rfl ?_
              refine x_goto 212 hK rfl rfl ?_
              refine x_bastore 213 hK rfl rfl (sp_196 (h := h5) hG5) (by omega) (by omega) (by omega) (by omega) ?_
              refine x_iinc 216 hK rfl rfl l3 _ rfl ?_
              refine x_goto 8 hK rfl rfl ?_
              have mn : gi (wI (wI h5 195 e.toNat (min 1000000 (gi h5 195 e.toNat))) 196 e.toNat 1) 195 e.toNat = (min 1000000 (gi h5 195 e.toNat)) := (gi_a (by decide) _).trans (gi_same (by omega))
              have an : gi (wI (wI h5 195 e.toNat (min 1000000 (gi h5 195 e.toNat))) 196 e.toNat 1) 196 e.toNat = 1 := gi_same (by omega)
              have fn : snFine (fun k => snF (gi h 193) (gi h 194) k (gi h 171 42).toNat) k l = true := b2i_1 (by omega)
              have me : ((min 1000000 (gi h5 195 e.toNat)) : Int) = sMn (fun k => snF (gi h 193) (gi h 194) k (gi h 171 42).toNat) last (last - k).toNat l := by
                by_cases c : k = last
                · rw [if_pos c] at mE
                  rw [c, show (last - last).toNat = 0 by omega]
                  rw [c] at fn
                  unfold sMn
                  rw [fn]
                  rw [mE]; rfl
                · rw [if_neg c] at mE
                  rw [sMn_s (by omega), fn]
                  rw [mE]; rfl
              have ae : (1 : Int) = if 0 < sMn (fun k => snF (gi h 193) (gi h 194) k (gi h 171 42).toNat) last (last - k).toNat l then 1 else 0 := by
                first | omega | (rw [← me]; first | rw [if_pos (by omega)] | rw [if_neg (by omega)])
              have tn : TBL (fun k => snF (gi h 193) (gi h 194) k (gi h 171 42).toNat) last (wI (wI h5 195 e.toNat (min 1000000 (gi h5 195 e.toNat))) 196 e.toNat 1) k (l + 1) := by
                intro k' l' y1 y2 y3 y4 y5
                by_cases c : k' = k ∧ l' = l
                · obtain ⟨rfl, rfl⟩ := c
                  rw [← ei]
                  exact ⟨mn.trans me, an.trans ae⟩
                · exact (TBL_w t5 (by omega) (by omega) fun j hj => ⟨(gi_a (by decide) _).trans (gi_k (by omega) _), (gi_k (by omega) _).trans (gi_a (by decide) _)⟩) k' l' y1 y2 y3 y4 (by omega)
              exact ihL _ (by omega) (l + 1) _ _ rfl (by omega) (by omega) (tn) (lk1_n l0 (by decide) (Or.inl rfl)) (lk1_n l1 (by decide) (Or.inl rfl)) (lk1_n l2 (by decide) (Or.inl rfl)) lk1_s (GD_wu (GD_wn (hG5) (r := 78) rfl rfl) (r := 79) rfl (by omega) rfl (by omega) (by omega)) (FRM_wn 0 224 (FRM_wn 0 224 (hF5) (r := 78) rfl rfl rfl (by omega) (by omega)) (r := 79) rfl rfl rfl (by omega) (by omega))
        · refine x_iload_n 66 hK rfl rfl l2 ?_
          refine x_iload_n 67 hK rfl rfl l1 ?_
          refine x_if_icmp_ge 149 70 hK rfl rfl rfl (by omega) (by omega) (fun c72 => ?_) (fun c72 => ?_)
          · have mE : gi h5 195 e.toNat = if k = last then 1 else s3 (sMn (fun k => snF (gi h 193) (gi h 194) k (gi h 171 42).toNat) last (last - (k + 1)).toNat) l 2 := by
              rw [m5]
              by_cases c : k = last
              · rw [if_pos c, if_pos c]
              · rw [if_neg c, if_neg c, show v = 2 by omega]
            refine x_aload_n 150 hK rfl rfl l0 ?_
            refine x_getR 153 hK rfl rfl (sp_171 (h := h5) hG5) (rf_171_45 (h := h5) hG5) ?_
            refine x_iload 155 hK rfl rfl l4 ?_
            refine x_aload_n 156 hK rfl rfl l0 ?_
            refine x_iload_n 157 hK rfl rfl l2 ?_
            refine x_iload_n 158 hK rfl rfl l3 ?_
            refine x_callV 161 hK hmono rfl rfl [.ref 171, .int (I k), .int (I l)] [.int (I e), .ref 195] rfl rfl (Nat.le_of_ble_eq_true rfl) (Nat.le_of_ble_eq_true rfl) rfl (sp_171 (h := h5) hG5) (CLd_le (Nat.le_of_ble_eq_true rfl) (ctX11_isFine hSP hG5 (by omega) (by omega))) ?_
            rintro v9 h9 ⟨e9, rfl⟩
            rw [e9]
            clear e9
            rw [show (fun k => snF (gi h5 193) (gi h5 194) k (gi h5 171 42).toNat) = (fun k => snF (gi h 193) (gi h 194) k (gi h 171 42).toNat) from by rw [show gi h5 171 42 = gi h 171 42 from FRM_gi hF5 (r := 54) rfl rfl, show gi h5 193 = gi h 193 from funext fun j => FRM_gi hF5 (r := 76) rfl rfl, show gi h5 194 = gi h 194 from funext fun j => FRM_gi hF5 (r := 77) rfl rfl]]
            have fb64 := b2i_r (snFine (fun k => snF (gi h 193) (gi h 194) k (gi h 171 42).toNat) k l)
            refine x_if_eq 180 164 hK rfl rfl rfl (by omega) (fun c81 => ?_) (fun c81 => ?_)
            · refine x_iconst 181 hK rfl rfl ?_
              refine x_iastore 182 hK rfl rfl (sp_195 (h := h5) hG5) (by omega) (by omega) (by omega) ?_
              refine x_aload_n 183 hK rfl rfl l0 ?_
              refine x_getR 186 hK rfl rfl (sp_171 (h := h5) hG5) (rf_171_46 (h := h5) hG5) ?_
              refine x_iload 188 hK rfl rfl l4 ?_
              refine x_aload_n 189 hK rfl rfl l0 ?_
              refine x_getR 192 hK rfl rfl (sp_171 (h := h5) hG5) (rf_171_46 (h := h5) hG5) ?_
              refine x_iload 194 hK rfl rfl l4 ?_
              have g65 := grn (0) (1) hG5 (a := 196) (r := 79) (k := e.toNat) rfl rfl (by omega)
              refine x_baloadE 195 hK rfl rfl (sp_196 (h := h5) hG5) (by omega) (by omega) (by omega) (e' := (gi h5 196 e.toNat)) (gi_a (by decide) _) ?_
              refine x_if_eq 211 198 hK rfl rfl rfl (by omega) (fun c91 => ?_) (fun c91 => ?_)
              · refine x_iconst 212 hK rfl rfl ?_
                refine x_bastore 213 hK rfl rfl (sp_196 (h := h5) hG5) (by omega) (by omega) (by omega) (by omega) ?_
                refine x_iinc 216 hK rfl rfl l3 _ rfl ?_
                refine x_goto 8 hK rfl rfl ?_
                have mn : gi (wI (wI h5 195 e.toNat 0) 196 e.toNat 0) 195 e.toNat = 0 := (gi_a (by decide) _).trans (gi_same (by omega))
                have an : gi (wI (wI h5 195 e.toNat 0) 196 e.toNat 0) 196 e.toNat = 0 := gi_same (by omega)
                have fn : snFine (fun k => snF (gi h 193) (gi h 194) k (gi h 171 42).toNat) k l = false := b2i_0 (by omega)
                have me : (0 : Int) = sMn (fun k => snF (gi h 193) (gi h 194) k (gi h 171 42).toNat) last (last - k).toNat l := by
                  by_cases c : k = last
                  · rw [if_pos c] at mE
                    rw [c, show (last - last).toNat = 0 by omega]
                    rw [c] at fn
                    unfold sMn
                    rw [fn]
                    rfl
                  · rw [if_neg c] at mE
                    rw [sMn_s (by omega), fn]
                    rfl
                have ae : (0 : Int) = if 0 < sMn (fun k => snF (gi h 193) (gi h 194) k (gi h 171 42).toNat) last (last - k).toNat l then 1 else 0 := by
                  first | omega | (rw [← me]; first | rw [if_pos (by omega)] | rw [if_neg (by omega)])
                have tn : TBL (fun k => snF (gi h 193) (gi h 194) k (gi h 171 42).toNat) last (wI (wI h5 195 e.toNat 0) 196 e.toNat 0) k (l + 1) := by
                  intro k' l' y1 y2 y3 y4 y5
                  by_cases c : k' = k ∧ l' = l
                  · obtain ⟨rfl, rfl⟩ := c
                    rw [← ei]
                    exact ⟨mn.trans me, an.trans ae⟩
                  · exact (TBL_w t5 (by omega) (by omega) fun j hj => ⟨(gi_a (by decide) _).trans (gi_k (by omega) _), (gi_k (by omega) _).trans (gi_a (by decide) _)⟩) k' l' y1 y2 y3 y4 (by omega)
                exact ihL _ (by omega) (l + 1) _ _ rfl (by omega) (by omega) (tn) (lk1_n l0 (by decide) (Or.inl rfl)) (lk1_n l1 (by decide) (Or.inl rfl)) (lk1_n l2 (by decide) (Or.inl rfl)) lk1_s (GD_wu (GD_wn (hG5) (r := 78) rfl rfl) (r := 79) rfl (by omega) rfl (by omega) (by omega)) (FRM_wn 0 224 (FRM_wn 0 224 (hF5) (r := 78) rfl rfl rfl (by omega) (by omega)) (r := 79) rfl rfl rfl (by omega) (by omega))
              · refine x_aload_n 199 hK rfl rfl l0 ?_
                refine x_iload_n 200 hK rfl rfl l2 ?_
                refine x_iload_n 201 hK rfl rfl l3 ?_
                have hGp67 : GD gE gRL sh (wI h5 195 e.toNat 0) := GD_wn (hG5) (r := 78) rfl rfl
                refine x_callV 204 hK hmono rfl rfl [.ref 171, .int (I k), .int (I l)] [.int (I e), .ref 196] rfl rfl (Nat.le_of_ble_eq_true rfl) (Nat.le_of_ble_eq_true rfl) rfl (sp_171 (h := h5) hG5) (CLd_le (Nat.le_of_ble_eq_true rfl) (ctX11_isFine hSP hGp67 (by omega) (by omega))) ?_
                rintro v9 h9 ⟨e9, rfl⟩
                rw [e9]
                clear e9
                rw [show (fun k => snF (gi (wI h5 195 e.toNat 0) 193) (gi (wI h5 195 e.toNat 0) 194) k (gi (wI h5 195 e.toNat 0) 171 42).toNat) = (fun k => snF (gi h 193) (gi h 194) k (gi h 171 42).toNat) from by rw [show gi (wI h5 195 e.toNat 0) 171 42 = gi h 171 42 from (gi_a (by decide) _).trans (FRM_gi hF5 (r := 54) rfl rfl), show gi (wI h5 195 e.toNat 0) 193 = gi h 193 from funext fun j => (gi_a (by decide) _).trans (FRM_gi hF5 (r := 76) rfl rfl), show gi (wI h5 195 e.toNat 0) 194 = gi h 194 from funext fun j => (gi_a (by decide) _).trans (FRM_gi hF5 (r := 77) rfl rfl)]]
                have fb66 := b2i_r (snFine (fun k => snF (gi h 193) (gi h 194) k (gi h 171 42).toNat) k l)
                refine x_if_eq 211 207 hK rfl rfl rfl (by omega) (fun _ => ?_) (fun c => by omega)
                refine x_iconst 212 hK rfl rfl ?_
                refine x_bastore 213 hK rfl rfl (sp_196 (h := h5) hG5) (by omega) (by omega) (by omega) (by omega) ?_
                refine x_iinc 216 hK rfl rfl l3 _ rfl ?_
                refine x_goto 8 hK rfl rfl ?_
                have mn : gi (wI (wI h5 195 e.toNat 0) 196 e.toNat 0) 195 e.toNat = 0 := (gi_a (by decide) _).trans (gi_same (by omega))
                have an : gi (wI (wI h5 195 e.toNat 0) 196 e.toNat 0) 196 e.toNat = 0 := gi_same (by omega)
                have fn : snFine (fun k => snF (gi h 193) (gi h 194) k (gi h 171 42).toNat) k l = false := b2i_0 (by omega)
                have me : (0 : Int) = sMn (fun k => snF (gi h 193) (gi h 194) k (gi h 171 42).toNat) last (last - k).toNat l := by
                  by_cases c : k = last
                  · rw [if_pos c] at mE
                    rw [c, show (last - last).toNat = 0 by omega]
                    rw [c] at fn
                    unfold sMn
                    rw [fn]
                    rfl
                  · rw [if_neg c] at mE
                    rw [sMn_s (by omega), fn]
                    rfl
                have ae : (0 : Int) = if 0 < sMn (fun k => snF (gi h 193) (gi h 194) k (gi h 171 42).toNat) last (last - k).toNat l then 1 else 0 := by
                  first | omega | (rw [← me]; first | rw [if_pos (by omega)] | rw [if_neg (by omega)])
                have tn : TBL (fun k => snF (gi h 193) (gi h 194) k (gi h 171 42).toNat) last (wI (wI h5 195 e.toNat 0) 196 e.toNat 0) k (l + 1) := by
                  intro k' l' y1 y2 y3 y4 y5
                  by_cases c : k' = k ∧ l' = l
                  · obtain ⟨rfl, rfl⟩ := c
                    rw [← ei]
                    exact ⟨mn.trans me, an.trans ae⟩
                  · exact (TBL_w t5 (by omega) (by omega) fun j hj => ⟨(gi_a (by decide) _).trans (gi_k (by omega) _), (gi_k (by omega) _).trans (gi_a (by decide) _)⟩) k' l' y1 y2 y3 y4 (by omega)
                exact ihL _ (by omega) (l + 1) _ _ rfl (by omega) (by omega) (tn) (lk1_n l0 (by decide) (Or.inl rfl)) (lk1_n l1 (by decide) (Or.inl rfl)) (lk1_n l2 (by decide) (Or.inl rfl)) lk1_s (GD_wu (GD_wn (hG5) (r := 78) rfl rfl) (r := 79) rfl (by omega) rfl (by omega) (by omega)) (FRM_wn 0 224 (FRM_wn 0 224 (hF5) (r := 78) rfl rfl rfl (by omega) (by omega)) (r := 79) rfl rfl rfl (by omega) (by omega))
            · refine x_ldc_w 167 hK rfl rfl ?_
              refine x_aload_n 168 hK rfl rfl l0 ?_
              refine x_getR 171 hK rfl rfl (sp_171 (h := h5) hG5) (rf_171_45 (h := h5) hG5) ?_
              refine x_iload 173 hK rfl rfl l4 ?_
              have g68 := gi_r h5 195 e.toNat
              refine x_ialoadE 174 hK rfl rfl (sp_195 (h := h5) hG5) (by omega) (by omega) (by omega) (e' := (gi h5 195 e.toNat)) (rfl) ?_
              refine x_min 177 hK rfl rfl (Nat.le_of_ble_eq_true rfl) (by omega) (by omega) ?_
              refine x_goto 181 hK rfl rfl ?_
              refine x_iastore 182 hK rfl rfl (sp_195 (h := h5) hG5) (by omega) (by omega) (by omega) ?_
              refine x_aload_n 183 hK rfl rfl l0 ?_
              refine x_getR 186 hK rfl rfl (sp_171 (h := h5) hG5) (rf_171_46 (h := h5) hG5) ?_
              refine x_iload 188 hK rfl rfl l4 ?_
              refine x_aload_n 189 hK rfl rfl l0 ?_
              refine x_getR 192 hK rfl rfl (sp_171 (h := h5) hG5) (rf_171_46 (h := h5) hG5) ?_
              refine x_iload 194 hK rfl rfl l4 ?_
              have g69 := grn (0) (1) hG5 (a := 196) (r := 79) (k := e.toNat) rfl rfl (by omega)
              refine x_baloadE 195 hK rfl rfl (sp_196 (h := h5) hG5) (by omega) (by omega) (by omega) (e' := (gi h5 196 e.toNat)) (gi_a (by decide) _) ?_
              refine x_if_eq 211 198 hK rfl rfl rfl (by omega) (fun c122 => ?_) (fun c122 => ?_)
              · refine x_iconst 212 hK rfl rfl ?_
                refine x_bastore 213 hK rfl rfl (sp_196 (h := h5) hG5) (by omega) (by omega) (by omega) (by omega) ?_
                refine x_iinc 216 hK rfl rfl l3 _ rfl ?_
                refine x_goto 8 hK rfl rfl ?_
                have mn : gi (wI (wI h5 195 e.toNat (min 1000000 (gi h5 195 e.toNat))) 196 e.toNat 0) 195 e.toNat = (min 1000000 (gi h5 195 e.toNat)) := (gi_a (by decide) _).trans (gi_same (by omega))
                have an : gi (wI (wI h5 195 e.toNat (min 1000000 (gi h5 195 e.toNat))) 196 e.toNat 0) 196 e.toNat = 0 := gi_same (by omega)
                have fn : snFine (fun k => snF (gi h 193) (gi h 194) k (gi h 171 42).toNat) k l = true := b2i_1 (by omega)
                have me : ((min 1000000 (gi h5 195 e.toNat)) : Int) = sMn (fun k => snF (gi h 193) (gi h 194) k (gi h 171 42).toNat) last (last - k).toNat l := by
                  by_cases c : k = last
                  · rw [if_pos c] at mE
                    rw [c, show (last - last).toNat = 0 by omega]
                    rw [c] at fn
                    unfold sMn
                    rw [fn]
                    rw [mE]; rfl
                  · rw [if_neg c] at mE
                    rw [sMn_s (by omega), fn]
                    rw [mE]; rfl
                have ae : (0 : Int) = if 0 < sMn (fun k => snF (gi h 193) (gi h 194) k (gi h 171 42).toNat) last (last - k).toNat l then 1 else 0 := by
                  first | omega | (rw [← me]; first | rw [if_pos (by omega)] | rw [if_neg (by omega)])
                have tn : TBL (fun k => snF (gi h 193) (gi h 194) k (gi h 171 42).toNat) last (wI (wI h5 195 e.toNat (min 1000000 (gi h5 195 e.toNat))) 196 e.toNat 0) k (l + 1) := by
                  intro k' l' y1 y2 y3 y4 y5
                  by_cases c : k' = k ∧ l' = l
                  · obtain ⟨rfl, rfl⟩ := c
                    rw [← ei]
                    exact ⟨mn.trans me, an.trans ae⟩
                  · exact (TBL_w t5 (by omega) (by omega) fun j hj => ⟨(gi_a (by decide) _).trans (gi_k (by omega) _), (gi_k (by omega) _).trans (gi_a (by decide) _)⟩) k' l' y1 y2 y3 y4 (by omega)
                exact ihL _ (by omega) (l + 1) _ _ rfl (by omega) (by omega) (tn) (lk1_n l0 (by decide) (Or.inl rfl)) (lk1_n l1 (by decide) (Or.inl rfl)) (lk1_n l2 (by decide) (Or.inl rfl)) lk1_s (GD_wu (GD_wn (hG5) (r := 78) rfl rfl) (r := 79) rfl (by omega) rfl (by omega) (by omega)) (FRM_wn 0 224 (FRM_wn 0 224 (hF5) (r := 78) rfl rfl rfl (by omega) (by omega)) (r := 79) rfl rfl rfl (by omega) (by omega))
              · refine x_aload_n 199 hK rfl rfl l0 ?_
                refine x_iload_n 200 hK rfl rfl l2 ?_
                refine x_iload_n 201 hK rfl rfl l3 ?_
                have hGp71 : GD gE gRL sh (wI h5 195 e.toNat (min 1000000 (gi h5 195 e.toNat))) := GD_wn (hG5) (r := 78) rfl rfl
                refine x_callV 204 hK hmono rfl rfl [.ref 171, .int (I k), .int (I l)] [.int (I e), .ref 196] rfl rfl (Nat.le_of_ble_eq_true rfl) (Nat.le_of_ble_eq_true rfl) rfl (sp_171 (h := h5) hG5) (CLd_le (Nat.le_of_ble_eq_true rfl) (ctX11_isFine hSP hGp71 (by omega) (by omega))) ?_
                rintro v9 h9 ⟨e9, rfl⟩
                rw [e9]
                clear e9
                rw [show (fun k => snF (gi (wI h5 195 e.toNat (min 1000000 (gi h5 195 e.toNat))) 193) (gi (wI h5 195 e.toNat (min 1000000 (gi h5 195 e.toNat))) 194) k (gi (wI h5 195 e.toNat (min 1000000 (gi h5 195 e.toNat))) 171 42).toNat) = (fun k => snF (gi h 193) (gi h 194) k (gi h 171 42).toNat) from by rw [show gi (wI h5 195 e.toNat (min 1000000 (gi h5 195 e.toNat))) 171 42 = gi h 171 42 from (gi_a (by decide) _).trans (FRM_gi hF5 (r := 54) rfl rfl), show gi (wI h5 195 e.toNat (min 1000000 (gi h5 195 e.toNat))) 193 = gi h 193 from funext fun j => (gi_a (by decide) _).trans (FRM_gi hF5 (r := 76) rfl rfl), show gi (wI h5 195 e.toNat (min 1000000 (gi h5 195 e.toNat))) 194 = gi h 194 from funext fun j => (gi_a (by decide) _).trans (FRM_gi hF5 (r := 77) rfl rfl)]]
                have fb70 := b2i_r (snFine (fun k => snF (gi h 193) (gi h 194) k (gi h 171 42).toNat) k l)
                refine x_if_eq 211 207 hK rfl rfl rfl (by omega) (fun c => by omega) (fun _ => ?_)
                refine x_iconst 208 hK rfl rfl ?_
                refine x_goto 212 hK rfl rfl ?_
                refine x_bastore 213 hK rfl rfl (sp_196 (h := h5) hG5) (by omega) (by omega) (by omega) (by omega) ?_
                refine x_iinc 216 hK rfl rfl l3 _ rfl ?_
                refine x_goto 8 hK rfl rfl ?_
                have mn : gi (wI (wI h5 195 e.toNat (min 1000000 (gi h5 195 e.toNat))) 196 e.toNat 1) 195 e.toNat = (min 1000000 (gi h5 195 e.toNat)) := (gi_a (by decide) _).trans (gi_same (by omega))
                have an : gi (wI (wI h5 195 e.toNat (min 1000000 (gi h5 195 e.toNat))) 196 e.toNat 1) 196 e.toNat = 1 := gi_same (by omega)
                have fn : snFine (fun k => snF (gi h 193) (gi h 194) k (gi h 171 42).toNat) k l = true := b2i_1 (by omega)
                have me : ((min 1000000 (gi h5 195 e.toNat)) : Int) = sMn (fun k => snF (gi h 193) (gi h 194) k (gi h 171 42).toNat) last (last - k).toNat l := by
                  by_cases c : k = last
                  · rw [if_pos c] at mE
                    rw [c, show (last - last).toNat = 0 by omega]
                    rw [c] at fn
                    unfold sMn
                    rw [fn]
                    rw [mE]; rfl
                  · rw [if_neg c] at mE
                    rw [sMn_s (by omega), fn]
                    rw [mE]; rfl
                have ae : (1 : Int) = if 0 < sMn (fun k => snF (gi h 193) (gi h 194) k (gi h 171 42).toNat) last (last - k).toNat l then 1 else 0 := by
                  first | omega | (rw [← me]; first | rw [if_pos (by omega)] | rw [if_neg (by omega)])
                have tn : TBL (fun k => snF (gi h 193) (gi h 194) k (gi h 171 42).toNat) last (wI (wI h5 195 e.toNat (min 1000000 (gi h5 195 e.toNat))) 196 e.toNat 1) k (l + 1) := by
                  intro k' l' y1 y2 y3 y4 y5
                  by_cases c : k' = k ∧ l' = l
                  · obtain ⟨rfl, rfl⟩ := c
                    rw [← ei]
                    exact ⟨mn.trans me, an.trans ae⟩
                  · exact (TBL_w t5 (by omega) (by omega) fun j hj => ⟨(gi_a (by decide) _).trans (gi_k (by omega) _), (gi_k (by omega) _).trans (gi_a (by decide) _)⟩) k' l' y1 y2 y3 y4 (by omega)
                exact ihL _ (by omega) (l + 1) _ _ rfl (by omega) (by omega) (tn) (lk1_n l0 (by decide) (Or.inl rfl)) (lk1_n l1 (by decide) (Or.inl rfl)) (lk1_n l2 (by decide) (Or.inl rfl)) lk1_s (GD_wu (GD_wn (hG5) (r := 78) rfl rfl) (r := 79) rfl (by omega) rfl (by omega) (by omega)) (FRM_wn 0 224 (FRM_wn 0 224 (hF5) (r := 78) rfl rfl rfl (by omega) (by omega)) (r := 79) rfl rfl rfl (by omega) (by omega))
          · refine x_aload_n 71 hK rfl rfl l0 ?_
            refine x_getR 74 hK rfl rfl (sp_171 (h := h5) hG5) (rf_171_45 (h := h5) hG5) ?_
            refine x_iload 76 hK rfl rfl l4 ?_
            refine x_dup2 77 hK rfl rfl rfl rfl ?_
            have g72 := gi_r h5 195 e.toNat
            refine x_ialoadE 78 hK rfl rfl (sp_195 (h := h5) hG5) (by omega) (by omega) (by omega) (e' := (gi h5 195 e.toNat)) (rfl) ?_
            refine x_aload_n 79 hK rfl rfl l0 ?_
            refine x_getR 82 hK rfl rfl (sp_171 (h := h5) hG5) (rf_171_45 (h := h5) hG5) ?_
            refine x_bipush 84 hK rfl rfl rfl ?_
            refine x_iload_n 85 hK rfl rfl l2 ?_
            refine x_iconst 86 hK rfl rfl ?_
            refine x_iadd 87 hK rfl rfl ?_
            refine x_imul 88 hK rfl rfl ?_
            refine x_iload_n 89 hK rfl rfl l3 ?_
            refine x_iload 91 hK rfl rfl l5 ?_
            refine x_iadd 92 hK rfl rfl ?_
            refine x_callS 95 hK hmono rfl (Or.inl rfl) rfl [.int (I (l + v))] [.int (I (9 * (k + 1))), .ref 195, .int (I (gi h5 195 e.toNat)), .int (I e), .ref 195] rfl rfl (Nat.le_of_ble_eq_true rfl) (Nat.le_of_ble_eq_true rfl) (CLd_le (Nat.le_of_ble_eq_true rfl) (ctX11_put hSP (by omega))) ?_
            rintro v9 h9 ⟨e9, rfl⟩
            rw [e9]
            clear e9
            refine x_iadd 96 hK rfl rfl ?_
            refine x_ialoadE 97 hK rfl rfl (sp_195 (h := h5) hG5) (by omega) (by omega) (by omega) (e' := ((sMn (fun k => snF (gi h 193) (gi h 194) k (gi h 171 42).toNat) last (last - (k + 1)).toNat) (max 0 (min 8 (l + v))))) ((tz (by omega) (by omega)).1) ?_
            refine x_iadd 98 hK rfl rfl ?_
            refine x_iastore 99 hK rfl rfl (sp_195 (h := h5) hG5) (by omega) (by omega) (by omega) ?_
            refine x_aload_n 100 hK rfl rfl l0 ?_
            refine x_getR 103 hK rfl rfl (sp_171 (h := h5) hG5) (rf_171_46 (h := h5) hG5) ?_
            refine x_iload 105 hK rfl rfl l4 ?_
            refine x_aload_n 106 hK rfl rfl l0 ?_
            refine x_getR 109 hK rfl rfl (sp_171 (h := h5) hG5) (rf_171_46 (h := h5) hG5) ?_
            refine x_iload 111 hK rfl rfl l4 ?_
            have g74 := grn (0) (1) hG5 (a := 196) (r := 79) (k := e.toNat) rfl rfl (by omega)
            refine x_baloadE 112 hK rfl rfl (sp_196 (h := h5) hG5) (by omega) (by omega) (by omega) (e' := (gi h5 196 e.toNat)) (gi_a (by decide) _) ?_
            refine x_if_ne 137 115 hK rfl rfl rfl (by omega) (fun c166 => ?_) (fun c166 => ?_)
            · refine x_iconst 138 hK rfl rfl ?_
              refine x_goto 142 hK rfl rfl ?_
              refine x_bastore 143 hK rfl rfl (sp_196 (h := h5) hG5) (by omega) (by omega) (by omega) (by omega) ?_
              refine x_iinc 146 hK rfl rfl l5 _ rfl ?_
              refine x_goto 59 hK rfl rfl ?_
              have mn : gi (wI (wI h5 195 e.toNat ((gi h5 195 e.toNat) + ((sMn (fun k => snF (gi h 193) (gi h 194) k (gi h 171 42).toNat) last (last - (k + 1)).toNat) (max 0 (min 8 (l + v)))))) 196 e.toNat 1) 195 e.toNat = ((gi h5 195 e.toNat) + ((sMn (fun k => snF (gi h 193) (gi h 194) k (gi h 171 42).toNat) last (last - (k + 1)).toNat) (max 0 (min 8 (l + v))))) := (gi_a (by decide) _).trans (gi_same (by omega))
              have an : gi (wI (wI h5 195 e.toNat ((gi h5 195 e.toNat) + ((sMn (fun k => snF (gi h 193) (gi h 194) k (gi h 171 42).toNat) last (last - (k + 1)).toNat) (max 0 (min 8 (l + v)))))) 196 e.toNat 1) 196 e.toNat = 1 := gi_same (by omega)
              exact ih _ (by omega) e (v + 1) _ _ rfl (by omega) (ei) (by omega) ((TBL_w t5 (by omega) (by omega) fun j hj => ⟨(gi_a (by decide) _).trans (gi_k (by omega) _), (gi_k (by omega) _).trans (gi_a (by decide) _)⟩)) ((mn.trans (by rw [m5, if_neg (by omega), if_neg (by omega), s3n (by omega)]))) ((an.trans (by rw [mn]; first | rw [if_pos (by omega)] | rw [if_neg (by omega)]))) (lk1_n l0 (by decide) (Or.inl rfl)) (lk1_n l1 (by decide) (Or.inl rfl)) (lk1_n l2 (by decide) (Or.inl rfl)) (lk1_n l3 (by decide) (Or.inl rfl)) (lk1_n l4 (by decide) (Or.inl rfl)) lk1_s (GD_wu (GD_wn (hG5) (r := 78) rfl rfl) (r := 79) rfl (by omega) rfl (by omega) (by omega)) (FRM_wn 0 224 (FRM_wn 0 224 (hF5) (r := 78) rfl rfl rfl (by omega) (by omega)) (r := 79) rfl rfl rfl (by omega) (by omega))
            · refine x_aload_n 116 hK rfl rfl l0 ?_
              refine x_getR 119 hK rfl rfl (sp_171 (h := h5) hG5) (rf_171_46 (h := h5) hG5) ?_
              refine x_bipush 121 hK rfl rfl rfl ?_
              refine x_iload_n 122 hK rfl rfl l2 ?_
              refine x_iconst 123 hK rfl rfl ?_
              refine x_iadd 124 hK rfl rfl ?_
              refine x_imul 125 hK rfl rfl ?_
              refine x_iload_n 126 hK rfl rfl l3 ?_
              refine x_iload 128 hK rfl rfl l5 ?_
              refine x_iadd 129 hK rfl rfl ?_
              have hGp75 : GD gE gRL sh (wI h5 195 e.toNat ((gi h5 195 e.toNat) + ((sMn (fun k => snF (gi h 193) (gi h 194) k (gi h 171 42).toNat) last (last - (k + 1)).toNat) (max 0 (min 8 (l + v)))))) := GD_wn (hG5) (r := 78) rfl rfl
              refine x_callS 132 hK hmono rfl (Or.inl rfl) rfl [.int (I (l + v))] [.int (I (9 * (k + 1))), .ref 196, .int (I e), .ref 196] rfl rfl (Nat.le_of_ble_eq_true rfl) (Nat.le_of_ble_eq_true rfl) (CLd_le (Nat.le_of_ble_eq_true rfl) (ctX11_put hSP (by omega))) ?_
              rintro v9 h9 ⟨e9, rfl⟩
              rw [e9]
              clear e9
              refine x_iadd 133 hK rfl rfl ?_
              refine x_baloadE 134 hK rfl rfl (sp_196 (h := h5) hG5) (by omega) (by omega) (by omega) (e' := (if 0 < (sMn (fun k => snF (gi h 193) (gi h 194) k (gi h 171 42).toNat) last (last - (k + 1)).toNat) (max 0 (min 8 (l + v))) then 1 else 0)) ((gi_a (by decide) _).trans ((tz (by omega) (by omega)).2)) ?_
              refine x_if_eq 141 137 hK rfl rfl rfl (by omega) (fun c186 => ?_) (fun c186 => ?_)
              · refine x_iconst 142 hK rfl rfl ?_
                refine x_bastore 143 hK rfl rfl (sp_196 (h := h5) hG5) (by omega) (by omega) (by omega) (by omega) ?_
                refine x_iinc 146 hK rfl rfl l5 _ rfl ?_
                refine x_goto 59 hK rfl rfl ?_
                have mn : gi (wI (wI h5 195 e.toNat ((gi h5 195 e.toNat) + ((sMn (fun k => snF (gi h 193) (gi h 194) k (gi h 171 42).toNat) last (last - (k + 1)).toNat) (max 0 (min 8 (l + v)))))) 196 e.toNat 0) 195 e.toNat = ((gi h5 195 e.toNat) + ((sMn (fun k => snF (gi h 193) (gi h 194) k (gi h 171 42).toNat) last (last - (k + 1)).toNat) (max 0 (min 8 (l + v))))) := (gi_a (by decide) _).trans (gi_same (by omega))
                have an : gi (wI (wI h5 195 e.toNat ((gi h5 195 e.toNat) + ((sMn (fun k => snF (gi h 193) (gi h 194) k (gi h 171 42).toNat) last (last - (k + 1)).toNat) (max 0 (min 8 (l + v)))))) 196 e.toNat 0) 196 e.toNat = 0 := gi_same (by omega)
                exact ih _ (by omega) e (v + 1) _ _ rfl (by omega) (ei) (by omega) ((TBL_w t5 (by omega) (by omega) fun j hj => ⟨(gi_a (by decide) _).trans (gi_k (by omega) _), (gi_k (by omega) _).trans (gi_a (by decide) _)⟩)) ((mn.trans (by rw [m5, if_neg (by omega), if_neg (by omega), s3n (by omega)]))) ((an.trans (by rw [mn]; first | rw [if_pos (by omega)] | rw [if_neg (by omega)]))) (lk1_n l0 (by decide) (Or.inl rfl)) (lk1_n l1 (by decide) (Or.inl rfl)) (lk1_n l2 (by decide) (Or.inl rfl)) (lk1_n l3 (by decide) (Or.inl rfl)) (lk1_n l4 (by decide) (Or.inl rfl)) lk1_s (GD_wu (GD_wn (hG5) (r := 78) rfl rfl) (r := 79) rfl (by omega) rfl (by omega) (by omega)) (FRM_wn 0 224 (FRM_wn 0 224 (hF5) (r := 78) rfl rfl rfl (by omega) (by omega)) (r := 79) rfl rfl rfl (by omega) (by omega))
              · refine x_iconst 138 hK rfl rfl ?_
                refine x_goto 142 hK rfl rfl ?_
                refine x_bastore 143 hK rfl rfl (sp_196 (h := h5) hG5) (by omega) (by omega) (by omega) (by omega) ?_
                refine x_iinc 146 hK rfl rfl l5 _ rfl ?_
                refine x_goto 59 hK rfl rfl ?_
                have mn : gi (wI (wI h5 195 e.toNat ((gi h5 195 e.toNat) + ((sMn (fun k => snF (gi h 193) (gi h 194) k (gi h 171 42).toNat) last (last - (k + 1)).toNat) (max 0 (min 8 (l + v)))))) 196 e.toNat 1) 195 e.toNat = ((gi h5 195 e.toNat) + ((sMn (fun k => snF (gi h 193) (gi h 194) k (gi h 171 42).toNat) last (last - (k + 1)).toNat) (max 0 (min 8 (l + v))))) := (gi_a (by decide) _).trans (gi_same (by omega))
                have an : gi (wI (wI h5 195 e.toNat ((gi h5 195 e.toNat) + ((sMn (fun k => snF (gi h 193) (gi h 194) k (gi h 171 42).toNat) last (last - (k + 1)).toNat) (max 0 (min 8 (l + v)))))) 196 e.toNat 1) 196 e.toNat = 1 := gi_same (by omega)
                exact ih _ (by omega) e (v + 1) _ _ rfl (by omega) (ei) (by omega) ((TBL_w t5 (by omega) (by omega) fun j hj => ⟨(gi_a (by decide) _).trans (gi_k (by omega) _), (gi_k (by omega) _).trans (gi_a (by decide) _)⟩)) ((mn.trans (by rw [m5, if_neg (by omega), if_neg (by omega), s3n (by omega)]))) ((an.trans (by rw [mn]; first | rw [if_pos (by omega)] | rw [if_neg (by omega)]))) (lk1_n l0 (by decide) (Or.inl rfl)) (lk1_n l1 (by decide) (Or.inl rfl)) (lk1_n l2 (by decide) (Or.inl rfl)) (lk1_n l3 (by decide) (Or.inl rfl)) (lk1_n l4 (by decide) (Or.inl rfl)) lk1_s (GD_wu (GD_wn (hG5) (r := 78) rfl rfl) (r := 79) rfl (by omega) rfl (by omega) (by omega)) (FRM_wn 0 224 (FRM_wn 0 224 (hF5) (r := 78) rfl rfl rfl (by omega) (by omega)) (r := 79) rfl rfl rfl (by omega) (by omega))
      refine x_iload_n 9 hK rfl rfl l3 ?_
      refine x_bipush 11 hK rfl rfl rfl ?_
      refine x_if_icmp_ge 219 14 hK rfl rfl rfl (by omega) (by omega) (fun c3 => ?_) (fun c3 => ?_)
      · refine x_iinc 222 hK rfl rfl l2 _ rfl ?_
        refine x_goto 2 hK rfl rfl ?_
        exact ihK _ (by omega) (k + (-1)) _ _ rfl (by omega) ((fun k' l' y1 y2 y3 y4 y5 => t4 k' l' y1 y2 y3 y4 (by omega))) (lk1_n l0 (by decide) (Or.inl rfl)) (lk1_n l1 (by decide) (Or.inl rfl)) lk1_s (hG4) (hF4)
      · refine x_bipush 16 hK rfl rfl rfl ?_
        refine x_iload_n 17 hK rfl rfl l2 ?_
        refine x_imul 18 hK rfl rfl ?_
        refine x_iload_n 19 hK rfl rfl l3 ?_
        refine x_iadd 20 hK rfl rfl ?_
        refine x_istore 22 hK rfl rfl _ rfl ?_
        refine x_aload_n 23 hK rfl rfl (lk1_n l0 (by decide) (Or.inl rfl)) ?_
        refine x_getR 26 hK rfl rfl (sp_171 (h := h4) hG4) (rf_171_45 (h := h4) hG4) ?_
        refine x_iload 28 hK rfl rfl lk1_s ?_
        refine x_iload_n 29 hK rfl rfl (lk1_n l2 (by decide) (Or.inl rfl)) ?_
        refine x_iload_n 30 hK rfl rfl (lk1_n l1 (by decide) (Or.inl rfl)) ?_
        refine x_if_icmp_ne 37 33 hK rfl rfl rfl (by omega) (by omega) (fun c18 => ?_) (fun c18 => ?_)
        · refine x_iconst 38 hK rfl rfl ?_
          refine x_iastore 39 hK rfl rfl (sp_195 (h := h4) hG4) (by omega) (by omega) (by omega) ?_
          refine x_aload_n 40 hK rfl rfl (lk1_n l0 (by decide) (Or.inl rfl)) ?_
          refine x_getR 43 hK rfl rfl (sp_171 (h := h4) hG4) (rf_171_46 (h := h4) hG4) ?_
          refine x_iload 45 hK rfl rfl lk1_s ?_
          refine x_iload_n 46 hK rfl rfl (lk1_n l2 (by decide) (Or.inl rfl)) ?_
          refine x_iload_n 47 hK rfl rfl (lk1_n l1 (by decide) (Or.inl rfl)) ?_
          refine x_if_icmp_ne 54 50 hK rfl rfl rfl (by omega) (by omega) (fun _ => ?_) (fun c => by omega)
          refine x_iconst 55 hK rfl rfl ?_
          refine x_bastore 56 hK rfl rfl (sp_196 (h := h4) hG4) (by omega) (by omega) (by omega) (by omega) ?_
          refine x_iconst 57 hK rfl rfl ?_
          refine x_istore 59 hK rfl rfl _ rfl ?_
          exact loopV _ ((9 * k) + l) (-1) _ _ rfl (by omega) (rfl) (by omega) ((TBL_w t4 (by omega) (by omega) fun j hj => ⟨(gi_a (by decide) _).trans (gi_k (by omega) _), (gi_k (by omega) _).trans (gi_a (by decide) _)⟩)) ((((gi_a (by decide) _).trans (gi_same (by omega))).trans (by first | rw [if_pos (by omega)] | (rw [if_neg (by omega)]; rfl)))) (((gi_same (by omega)).trans (by rw [show gi (wI (wI h4 195 ((9 * k) + l).toNat 0) 196 ((9 * k) + l).toNat 0) 195 ((9 * k) + l).toNat = 0 from (gi_a (by decide) _).trans (gi_same (by omega))]; rfl))) (lk1_n (lk1_n l0 (by decide) (Or.inl rfl)) (by decide) (Or.inl rfl)) (lk1_n (lk1_n l1 (by decide) (Or.inl rfl)) (by decide) (Or.inl rfl)) (lk1_n (lk1_n l2 (by decide) (Or.inl rfl)) (by decide) (Or.inl rfl)) (lk1_n (lk1_n l3 (by decide) (Or.inl rfl)) (by decide) (Or.inl rfl)) (lk1_n lk1_s (by decide) (Or.inl rfl)) lk1_s (GD_wu (GD_wn (hG4) (r := 78) rfl rfl) (r := 79) rfl (by omega) rfl (by omega) (by omega)) (FRM_wn 0 224 (FRM_wn 0 224 (hF4) (r := 78) rfl rfl rfl (by omega) (by omega)) (r := 79) rfl rfl rfl (by omega) (by omega))
        · refine x_iconst 34 hK rfl rfl ?_
          refine x_goto 38 hK rfl rfl ?_
          refine x_iastore 39 hK rfl rfl (sp_195 (h := h4) hG4) (by omega) (by omega) (by omega) ?_
          refine x_aload_n 40 hK rfl rfl (lk1_n l0 (by decide) (Or.inl rfl)) ?_
          refine x_getR 43 hK rfl rfl (sp_171 (h := h4) hG4) (rf_171_46 (h := h4) hG4) ?_
          refine x_iload 45 hK rfl rfl lk1_s ?_
          refine x_iload_n 46 hK rfl rfl (lk1_n l2 (by decide) (Or.inl rfl)) ?_
          refine x_iload_n 47 hK rfl rfl (lk1_n l1 (by decide) (Or.inl rfl)) ?_
          refine x_if_icmp_ne 54 50 hK rfl rfl rfl (by omega) (by omega) (fun c => by omega) (fun _ => ?_)
          refine x_iconst 51 hK rfl rfl ?_
          refine x_goto 55 hK rfl rfl ?_
          refine x_bastore 56 hK rfl rfl (sp_196 (h := h4) hG4) (by omega) (by omega) (by omega) (by omega) ?_
          refine x_iconst 57 hK rfl rfl ?_
          refine x_istore 59 hK rfl rfl _ rfl ?_
          exact loopV _ ((9 * k) + l) (-1) _ _ rfl (by omega) (rfl) (by omega) ((TBL_w t4 (by omega) (by omega) fun j hj => ⟨(gi_a (by decide) _).trans (gi_k (by omega) _), (gi_k (by omega) _).trans (gi_a (by decide) _)⟩)) ((((gi_a (by decide) _).trans (gi_same (by omega))).trans (by first | rw [if_pos (by omega)] | (rw [if_neg (by omega)]; rfl)))) (((gi_same (by omega)).trans (by rw [show gi (wI (wI h4 195 ((9 * k) + l).toNat 1) 196 ((9 * k) + l).toNat 1) 195 ((9 * k) + l).toNat = 1 from (gi_a (by decide) _).trans (gi_same (by omega))]; rfl))) (lk1_n (lk1_n l0 (by decide) (Or.inl rfl)) (by decide) (Or.inl rfl)) (lk1_n (lk1_n l1 (by decide) (Or.inl rfl)) (by decide) (Or.inl rfl)) (lk1_n (lk1_n l2 (by decide) (Or.inl rfl)) (by decide) (Or.inl rfl)) (lk1_n (lk1_n l3 (by decide) (Or.inl rfl)) (by decide) (Or.inl rfl)) (lk1_n lk1_s (by decide) (Or.inl rfl)) lk1_s (GD_wu (GD_wn (hG4) (r := 78) rfl rfl) (r := 79) rfl (by omega) rfl (by omega) (by omega)) (FRM_wn 0 224 (FRM_wn 0 224 (hF4) (r := 78) rfl rfl rfl (by omega) (by omega)) (r := 79) rfl rfl rfl (by omega) (by omega))
    refine x_iload_n 3 hK rfl rfl l2 ?_
    refine x_if_lt 225 6 hK rfl rfl rfl (by omega) (fun c2 => ?_) (fun c2 => ?_)
    · obtain rfl : k = -1 := by omega
      exact x_vret hK rfl ⟨rfl, hG3, hF3, t3⟩
    · refine x_iconst 7 hK rfl rfl ?_
      refine x_istore_n 8 hK rfl rfl _ rfl ?_
      exact loopL _ 0 _ _ rfl (by omega) (by omega) (t3) (lk1_n l0 (by decide) (Or.inl rfl)) (lk1_n l1 (by decide) (Or.inl rfl)) (lk1_n l2 (by decide) (Or.inl rfl)) lk1_s (hG3) (hF3)
  refine x_iload_n 1 hK rfl rfl rfl ?_
  refine x_istore_n 2 hK rfl rfl [(2, .int (I last)), (0, .ref 171), (1, .int (I last))] rfl ?_
  exact loopK _ last _ _ rfl (by omega) ((fun k' l' y1 y2 y3 y4 y5 => absurd y5 (by omega))) rfl rfl rfl (hG) ((FRM.rf : FRM gRL [(0, 78, 0, 224), (0, 79, 0, 224)] h h))
set_option maxRecDepth 4000 in
theorem ctX11_ordered {SP : CT} (hSP : MONO SP) {sh : List (Nat × Nat)} {h : aH} (hG : GD gE gRL sh h) : CLd SP 5 mX11_ordered [.ref 171] h 0 0 (fun rv h' => ((gi h 171 42 = 0 ∧ rv = some (.int (I (-1))) ∧ mrow h' = mrow h) ∨ (0 < gi h 171 42 ∧ rv = some (.int (I (sMn (fun k => snF (gi h 193) (gi h 194) k (gi h 171 42).toNat) (lsF (gi h 193) (gi h 171 42).toNat) (lsF (gi h 193) (gi h 171 42).toNat).toNat 4))) ∧ mrow h' = if 0 < sMn (fun k => snF (gi h 193) (gi h 194) k (gi h 171 42).toNat) (lsF (gi h 193) (gi h 171 42).toNat) (lsF (gi h 193) (gi h 171 42).toNat).toNat 4 then sRow (fun k => snF (gi h 193) (gi h 194) k (gi h 171 42).toNat) (lsF (gi h 193) (gi h 171 42).toNat) (lsF (gi h 193) (gi h 171 42).toNat).toNat 4 else [])) ∧ GD gE gRL sh h' ∧ FRM gRL [(0, 54, 0, 0), (0, 54, 1, 1), (0, 78, 0, 224), (0, 79, 0, 224), (1, 55, 0, 39)] h h' ∧ gi h' 171 0 = 0) := by
  refine x_met _ rfl (Nat.le_of_ble_eq_true rfl) (fun K hK => ?_)
  have hmono := MONO_CLd hSP 4
  have g42 := gri 0 12 hG (a := 171) (r := 54) (k := 42) rfl rfl
  have lb := last_b hG
  have mb := sMn_b (fun k => snF (gi h 193) (gi h 194) k (gi h 171 42).toNat) (lsF (gi h 193) (gi h 171 42).toNat)
  have loop : ∀ (mz : Nat) (l k : Int) (h4 : aH) (ls : List (Nat × Value)), (((lsF (gi h 193) (gi h 171 42).toNat) + 1 - k).toNat = mz) → (0 < gi h 171 42) → (1 ≤ k ∧ k ≤ (lsF (gi h 193) (gi h 171 42).toNat) + 1) → (0 ≤ l ∧ l ≤ 8) → (TBL (fun k => snF (gi h 193) (gi h 194) k (gi h 171 42).toNat) (lsF (gi h 193) (gi h 171 42).toNat) h4 (-1) 0) → (gi h4 171 0 = 0) → (gi h4 171 1 = k - 1) → (0 < sMn (fun k => snF (gi h 193) (gi h 194) k (gi h 171 42).toNat) (lsF (gi h 193) (gi h 171 42).toNat) (lsF (gi h 193) (gi h 171 42).toNat).toNat 4 → 0 < sMn (fun k => snF (gi h 193) (gi h 194) k (gi h 171 42).toNat) (lsF (gi h 193) (gi h 171 42).toNat) ((lsF (gi h 193) (gi h 171 42).toNat) - (k - 1)).toNat l) → (¬ 0 < sMn (fun k => snF (gi h 193) (gi h 194) k (gi h 171 42).toNat) (lsF (gi h 193) (gi h 171 42).toNat) (lsF (gi h 193) (gi h 171 42).toNat).toNat 4 → k = 1) → (0 < sMn (fun k => snF (gi h 193) (gi h 194) k (gi h 171 42).toNat) (lsF (gi h 193) (gi h 171 42).toNat) (lsF (gi h 193) (gi h 171 42).toNat).toNat 4 → mrow h4 ++ sRow (fun k => snF (gi h 193) (gi h 194) k (gi h 171 42).toNat) (lsF (gi h 193) (gi h 171 42).toNat) ((lsF (gi h 193) (gi h 171 42).toNat) - (k - 1)).toNat l = sRow (fun k => snF (gi h 193) (gi h 194) k (gi h 171 42).toNat) (lsF (gi h 193) (gi h 171 42).toNat) (lsF (gi h 193) (gi h 171 42).toNat).toNat 4) → lk ls 0 = some (.ref 171) → lk ls 1 = some (.int (I (lsF (gi h 193) (gi h 171 42).toNat))) → lk ls 2 = some (.int (I l)) → lk ls 3 = some (.int (I k)) → GD gE gRL sh h4 → FRM gRL [(0, 54, 0, 0), (0, 54, 1, 1), (0, 78, 0, 224), (0, 79, 0, 224), (1, 55, 0, 39)] h h4 → K 30 ls [] h4 0 0 := by
    intro mz
    induction mz using Nat.strongRecOn with
    | ind mz ih =>
    intro l k h4 ls hm s1 k0 l0 tb t4 r4 w4 k9 e4 l0 l1 l2 l3 hG4 hF4
    have a4 : gi h4 196 4 = if 0 < sMn (fun k => snF (gi h 193) (gi h 194) k (gi h 171 42).toNat) (lsF (gi h 193) (gi h 171 42).toNat) (lsF (gi h 193) (gi h 171 42).toNat).toNat 4 then 1 else 0 := by have z := (tb 0 4 (by omega) (by omega) (by omega) (by omega) (Or.inl (by omega))).2; rw [show (lsF (gi h 193) (gi h 171 42).toNat) - 0 = (lsF (gi h 193) (gi h 171 42).toNat) by omega] at z; exact z
    have a4b : gi h4 196 4 = 0 ∨ gi h4 196 4 = 1 := by rw [a4]; split <;> omega
    have tz : ∀ p : Int, 0 ≤ p → p ≤ 8 → k ≤ (lsF (gi h 193) (gi h 171 42).toNat) → gi h4 196 ((9 * k) + p).toNat = if 0 < (sMn (fun k => snF (gi h 193) (gi h 194) k (gi h 171 42).toNat) (lsF (gi h 193) (gi h 171 42).toNat) ((lsF (gi h 193) (gi h 171 42).toNat) - k).toNat) p then 1 else 0 := fun p z1 z2 z3 => (tb k p (by omega) z1 z2 z3 (Or.inl (by omega))).2
    refine x_iload_n 31 hK rfl rfl l3 ?_
    refine x_iload_n 32 hK rfl rfl l1 ?_
    refine x_if_icmp_gt 94 35 hK rfl rfl rfl (by omega) (by omega) (fun c3 => ?_) (fun c3 => ?_)
    · refine x_aload_n 95 hK rfl rfl l0 ?_
      refine x_getR 98 hK rfl rfl (sp_171 (h := h4) hG4) (rf_171_45 (h := h4) hG4) ?_
      refine x_iconst 99 hK rfl rfl ?_
      have g77 := gi_r h4 195 4
      refine x_ialoadE 100 hK rfl rfl (sp_195 (h := h4) hG4) (by omega) (by omega) (by omega) (e' := (gi h4 195 4)) (rfl) ?_
      have m4 : gi h4 195 4 = sMn (fun k => snF (gi h 193) (gi h 194) k (gi h 171 42).toNat) (lsF (gi h 193) (gi h 171 42).toNat) (lsF (gi h 193) (gi h 171 42).toNat).toNat 4 := by have z := (tb 0 4 (by omega) (by omega) (by omega) (by omega) (Or.inl (by omega))).1; rw [show (lsF (gi h 193) (gi h 171 42).toNat) - 0 = (lsF (gi h 193) (gi h 171 42).toNat) by omega] at z; exact z
      have rw4 : mrow h4 = if 0 < sMn (fun k => snF (gi h 193) (gi h 194) k (gi h 171 42).toNat) (lsF (gi h 193) (gi h 171 42).toNat) (lsF (gi h 193) (gi h 171 42).toNat).toNat 4 then sRow (fun k => snF (gi h 193) (gi h 194) k (gi h 171 42).toNat) (lsF (gi h 193) (gi h 171 42).toNat) (lsF (gi h 193) (gi h 171 42).toNat).toNat 4 else [] := by
        by_cases c : 0 < sMn (fun k => snF (gi h 193) (gi h 194) k (gi h 171 42).toNat) (lsF (gi h 193) (gi h 171 42).toNat) (lsF (gi h 193) (gi h 171 42).toNat).toNat 4
        · rw [if_pos c]
          rw [if_pos c] at a4
          have z := e4 c
          rw [show ((lsF (gi h 193) (gi h 171 42).toNat) - (k - 1)).toNat = 0 by omega] at z
          rw [← z]; show mrow h4 = mrow h4 ++ []; rw [List.append_nil]
        · rw [if_neg c]
          exact mrow_0 (by rw [r4, k9 c]; rfl)
      exact x_iret hK rfl ⟨Or.inr ⟨s1, by rw [m4], rw4⟩, hG4, hF4, t4⟩
    · refine x_aload_n 36 hK rfl rfl l0 ?_
      refine x_getR 39 hK rfl rfl (sp_171 (h := h4) hG4) (rf_171_46 (h := h4) hG4) ?_
      refine x_iconst 40 hK rfl rfl ?_
      have g78 := gri (0) (1) hG4 (a := 196) (r := 79) (k := 4) rfl rfl
      refine x_baloadE 41 hK rfl rfl (sp_196 (h := h4) hG4) (by omega) (by omega) (by omega) (e' := (gi h4 196 4)) (rfl) ?_
      refine x_if_eq 94 44 hK rfl rfl rfl (by omega) (fun c13 => ?_) (fun c13 => ?_)
      · refine x_aload_n 95 hK rfl rfl l0 ?_
        refine x_getR 98 hK rfl rfl (sp_171 (h := h4) hG4) (rf_171_45 (h := h4) hG4) ?_
        refine x_iconst 99 hK rfl rfl ?_
        have g79 := gi_r h4 195 4
        refine x_ialoadE 100 hK rfl rfl (sp_195 (h := h4) hG4) (by omega) (by omega) (by omega) (e' := (gi h4 195 4)) (rfl) ?_
        have m4 : gi h4 195 4 = sMn (fun k => snF (gi h 193) (gi h 194) k (gi h 171 42).toNat) (lsF (gi h 193) (gi h 171 42).toNat) (lsF (gi h 193) (gi h 171 42).toNat).toNat 4 := by have z := (tb 0 4 (by omega) (by omega) (by omega) (by omega) (Or.inl (by omega))).1; rw [show (lsF (gi h 193) (gi h 171 42).toNat) - 0 = (lsF (gi h 193) (gi h 171 42).toNat) by omega] at z; exact z
        have rw4 : mrow h4 = if 0 < sMn (fun k => snF (gi h 193) (gi h 194) k (gi h 171 42).toNat) (lsF (gi h 193) (gi h 171 42).toNat) (lsF (gi h 193) (gi h 171 42).toNat).toNat 4 then sRow (fun k => snF (gi h 193) (gi h 194) k (gi h 171 42).toNat) (lsF (gi h 193) (gi h 171 42).toNat) (lsF (gi h 193) (gi h 171 42).toNat).toNat 4 else [] := by
          by_cases c : 0 < sMn (fun k => snF (gi h 193) (gi h 194) k (gi h 171 42).toNat) (lsF (gi h 193) (gi h 171 42).toNat) (lsF (gi h 193) (gi h 171 42).toNat).toNat 4
          · rw [if_pos c]
            rw [if_pos c] at a4
            have z := e4 c
            rw [show ((lsF (gi h 193) (gi h 171 42).toNat) - (k - 1)).toNat = 0 by omega] at z
            rw [← z]; show mrow h4 = mrow h4 ++ []; rw [List.append_nil]
          · rw [if_neg c]
            exact mrow_0 (by rw [r4, k9 c]; rfl)
        exact x_iret hK rfl ⟨Or.inr ⟨s1, by rw [m4], rw4⟩, hG4, hF4, t4⟩
      · have fp : 0 < sMn (fun k => snF (gi h 193) (gi h 194) k (gi h 171 42).toNat) (lsF (gi h 193) (gi h 171 42).toNat) (lsF (gi h 193) (gi h 171 42).toNat).toNat 4 := by
          by_cases c : 0 < sMn (fun k => snF (gi h 193) (gi h 194) k (gi h 171 42).toNat) (lsF (gi h 193) (gi h 171 42).toNat) (lsF (gi h 193) (gi h 171 42).toNat).toNat 4
          · exact c
          · rw [if_neg c] at a4; omega
        have wk := w4 fp
        rw [show (lsF (gi h 193) (gi h 171 42).toNat) - (k - 1) = (lsF (gi h 193) (gi h 171 42).toNat) - (k - 1) from rfl, sMn_s (k := k - 1) (by omega), show k - 1 + 1 = k by omega] at wk
        have w3 : 0 < s3 (sMn (fun k => snF (gi h 193) (gi h 194) k (gi h 171 42).toNat) (lsF (gi h 193) (gi h 171 42).toNat) ((lsF (gi h 193) (gi h 171 42).toNat) - k).toNat) l 2 := by
          by_cases c : snFine (fun k => snF (gi h 193) (gi h 194) k (gi h 171 42).toNat) (k - 1) l = true
          · rw [if_pos c] at wk; omega
          · rw [if_neg c] at wk; omega
        have nv := nxV_ok (mb _) w3
        have nb := nxV_b (sMn (fun k => snF (gi h 193) (gi h 194) k (gi h 171 42).toNat) (lsF (gi h 193) (gi h 171 42).toNat) ((lsF (gi h 193) (gi h 171 42).toNat) - k).toNat) l
        have nd : nxV (sMn (fun k => snF (gi h 193) (gi h 194) k (gi h 171 42).toNat) (lsF (gi h 193) (gi h 171 42).toNat) ((lsF (gi h 193) (gi h 171 42).toNat) - k).toNat) l = if 0 < (sMn (fun k => snF (gi h 193) (gi h 194) k (gi h 171 42).toNat) (lsF (gi h 193) (gi h 171 42).toNat) ((lsF (gi h 193) (gi h 171 42).toNat) - k).toNat) (max 0 (min 8 (l + -1))) then -1 else if 0 < (sMn (fun k => snF (gi h 193) (gi h 194) k (gi h 171 42).toNat) (lsF (gi h 193) (gi h 171 42).toNat) ((lsF (gi h 193) (gi h 171 42).toNat) - k).toNat) (max 0 (min 8 (l + 0))) then 0 else 1 := rfl
        refine x_iconst 45 hK rfl rfl ?_
        refine x_istore 47 hK rfl rfl _ rfl ?_
        refine x_aload_n 48 hK rfl rfl (lk1_n l0 (by decide) (Or.inl rfl)) ?_
        refine x_getR 51 hK rfl rfl (sp_171 (h := h4) hG4) (rf_171_46 (h := h4) hG4) ?_
        refine x_bipush 53 hK rfl rfl rfl ?_
        refine x_iload_n 54 hK rfl rfl (lk1_n l3 (by decide) (Or.inl rfl)) ?_
        refine x_imul 55 hK rfl rfl ?_
        refine x_iload_n 56 hK rfl rfl (lk1_n l2 (by decide) (Or.inl rfl)) ?_
        refine x_iload 58 hK rfl rfl lk1_s ?_
        refine x_iadd 59 hK rfl rfl ?_
        refine x_callS 62 hK hmono rfl (Or.inl rfl) rfl [.int (I (l + (-1)))] [.int (I (9 * k)), .ref 196] rfl rfl (Nat.le_of_ble_eq_true rfl) (Nat.le_of_ble_eq_true rfl) (CLd_le (Nat.le_of_ble_eq_true rfl) (ctX11_put hSP (by omega))) ?_
        rintro v9 h9 ⟨e9, rfl⟩
        rw [e9]
        clear e9
        refine x_iadd 63 hK rfl rfl ?_
        refine x_baloadE 64 hK rfl rfl (sp_196 (h := h4) hG4) (by omega) (by omega) (by omega) (e' := (if 0 < (sMn (fun k => snF (gi h 193) (gi h 194) k (gi h 171 42).toNat) (lsF (gi h 193) (gi h 171 42).toNat) ((lsF (gi h 193) (gi h 171 42).toNat) - k).toNat) (max 0 (min 8 (l + (-1)))) then 1 else 0)) (tz _ (by omega) (by omega) (by omega)) ?_
        refine x_if_ne 73 67 hK rfl rfl rfl (by omega) (fun c33 => ?_) (fun c33 => ?_)
        · have ve : nxV (sMn (fun k => snF (gi h 193) (gi h 194) k (gi h 171 42).toNat) (lsF (gi h 193) (gi h 171 42).toNat) ((lsF (gi h 193) (gi h 171 42).toNat) - k).toNat) l = (-1) := by rw [nd, if_pos (by omega)]
          rw [ve] at nv
          refine x_aload_n 74 hK rfl rfl (lk1_n l0 (by decide) (Or.inl rfl)) ?_
          refine x_iload 76 hK rfl rfl lk1_s ?_
          refine x_i2l 77 hK rfl rfl (by omega) ?_
          have z82 : gi h4 171 1 = (k - 1) := r4
          have z82r : mrow h4 = (mrow h4) := rfl
          refine x_callV 80 hK hmono rfl rfl [.ref 171, .long (J (-1))] [] rfl rfl (Nat.le_of_ble_eq_true rfl) (Nat.le_of_ble_eq_true rfl) rfl (sp_171 (h := h4) hG4) (CLd_le (Nat.le_of_ble_eq_true rfl) (ctX11_entersF hSP hG4 (by omega) (by omega))) ?_
          rintro v81 h81 ⟨rfl, hG81, hF81, t81, s81⟩
          rw [z82] at t81
          rw [z82r] at s81
          refine x_iload_n 81 hK rfl rfl (lk1_n l2 (by decide) (Or.inl rfl)) ?_
          refine x_iload 83 hK rfl rfl lk1_s ?_
          refine x_iadd 84 hK rfl rfl ?_
          refine x_callS 87 hK hmono rfl (Or.inl rfl) rfl [.int (I (l + (-1)))] [] rfl rfl (Nat.le_of_ble_eq_true rfl) (Nat.le_of_ble_eq_true rfl) (CLd_le (Nat.le_of_ble_eq_true rfl) (ctX11_put hSP (by omega))) ?_
          rintro v9 h9 ⟨e9, rfl⟩
          rw [e9]
          clear e9
          refine x_istore_n 88 hK rfl rfl _ rfl ?_
          refine x_iinc 91 hK rfl rfl (lk1_n (lk1_n l3 (by decide) (Or.inl rfl)) (by decide) (Or.inl rfl)) _ rfl ?_
          refine x_goto 30 hK rfl rfl ?_
          exact ih _ (by omega) (max 0 (min 8 (l + (-1)))) (k + 1) _ _ rfl (s1) (by omega) (by omega) ((fun k' l' y1 y2 y3 y4 y5 => by rw [show gi h81 195 _ = gi h4 195 _ from FRM_gi hF81 (r := 78) rfl rfl, show gi h81 196 _ = gi h4 196 _ from FRM_gi hF81 (r := 79) rfl rfl]; exact tb k' l' y1 y2 y3 y4 y5)) ((FRM_gi hF81 (r := 54) rfl rfl).trans (t4)) ((t81).trans (by omega)) ((fun _ => by rw [show (lsF (gi h 193) (gi h 171 42).toNat) - (k + 1 - 1) = (lsF (gi h 193) (gi h 171 42).toNat) - k by omega]; exact nv)) ((fun z => absurd fp z)) ((fun _ => by rw [s81, ← e4 fp, show ((lsF (gi h 193) (gi h 171 42).toNat) - (k - 1)).toNat = ((lsF (gi h 193) (gi h 171 42).toNat) - k).toNat + 1 by omega, show (lsF (gi h 193) (gi h 171 42).toNat) - (k + 1 - 1) = (lsF (gi h 193) (gi h 171 42).toNat) - k by omega, List.append_assoc]; show mrow h4 ++ ([_] ++ _) = mrow h4 ++ (nxV (sMn (fun k => snF (gi h 193) (gi h 194) k (gi h 171 42).toNat) (lsF (gi h 193) (gi h 171 42).toNat) ((lsF (gi h 193) (gi h 171 42).toNat) - k).toNat) l :: sRow _ _ _ (max 0 (min 8 (l + nxV (sMn (fun k => snF (gi h 193) (gi h 194) k (gi h 171 42).toNat) (lsF (gi h 193) (gi h 171 42).toNat) ((lsF (gi h 193) (gi h 171 42).toNat) - k).toNat) l)))); rw [ve]; rfl)) (lk1_n (lk1_n (lk1_n l0 (by decide) (Or.inl rfl)) (by decide) (Or.inl rfl)) (by decide) (Or.inl rfl)) (lk1_n (lk1_n (lk1_n l1 (by decide) (Or.inl rfl)) (by decide) (Or.inl rfl)) (by decide) (Or.inl rfl)) (lk1_n lk1_s (by decide) (Or.inl rfl)) lk1_s (hG81) ((hF4).trans ((hF81).mono rfl))
        · refine x_iinc 70 hK rfl rfl lk1_s _ rfl ?_
          refine x_goto 47 hK rfl rfl ?_
          refine x_aload_n 48 hK rfl rfl (lk1_n (lk1_n l0 (by decide) (Or.inl rfl)) (by decide) (Or.inl rfl)) ?_
          refine x_getR 51 hK rfl rfl (sp_171 (h := h4) hG4) (rf_171_46 (h := h4) hG4) ?_
          refine x_bipush 53 hK rfl rfl rfl ?_
          refine x_iload_n 54 hK rfl rfl (lk1_n (lk1_n l3 (by decide) (Or.inl rfl)) (by decide) (Or.inl rfl)) ?_
          refine x_imul 55 hK rfl rfl ?_
          refine x_iload_n 56 hK rfl rfl (lk1_n (lk1_n l2 (by decide) (Or.inl rfl)) (by decide) (Or.inl rfl)) ?_
          refine x_iload 58 hK rfl rfl lk1_s ?_
          refine x_iadd 59 hK rfl rfl ?_
          refine x_callS 62 hK hmono rfl (Or.inl rfl) rfl [.int (I (l + 0))] [.int (I (9 * k)), .ref 196] rfl rfl (Nat.le_of_ble_eq_true rfl) (Nat.le_of_ble_eq_true rfl) (CLd_le (Nat.le_of_ble_eq_true rfl) (ctX11_put hSP (by omega))) ?_
          rintro v9 h9 ⟨e9, rfl⟩
          rw [e9]
          clear e9
          refine x_iadd 63 hK rfl rfl ?_
          refine x_baloadE 64 hK rfl rfl (sp_196 (h := h4) hG4) (by omega) (by omega) (by omega) (e' := (if 0 < (sMn (fun k => snF (gi h 193) (gi h 194) k (gi h 171 42).toNat) (lsF (gi h 193) (gi h 171 42).toNat) ((lsF (gi h 193) (gi h 171 42).toNat) - k).toNat) (max 0 (min 8 (l + 0))) then 1 else 0)) (tz _ (by omega) (by omega) (by omega)) ?_
          refine x_if_ne 73 67 hK rfl rfl rfl (by omega) (fun c60 => ?_) (fun c60 => ?_)
          · have ve : nxV (sMn (fun k => snF (gi h 193) (gi h 194) k (gi h 171 42).toNat) (lsF (gi h 193) (gi h 171 42).toNat) ((lsF (gi h 193) (gi h 171 42).toNat) - k).toNat) l = 0 := by rw [nd, if_neg (by omega), if_pos (by omega)]
            rw [ve] at nv
            refine x_aload_n 74 hK rfl rfl (lk1_n (lk1_n l0 (by decide) (Or.inl rfl)) (by decide) (Or.inl rfl)) ?_
            refine x_iload 76 hK rfl rfl lk1_s ?_
            refine x_i2l 77 hK rfl rfl (by omega) ?_
            have z86 : gi h4 171 1 = (k - 1) := r4
            have z86r : mrow h4 = (mrow h4) := rfl
            refine x_callV 80 hK hmono rfl rfl [.ref 171, .long (J 0)] [] rfl rfl (Nat.le_of_ble_eq_true rfl) (Nat.le_of_ble_eq_true rfl) rfl (sp_171 (h := h4) hG4) (CLd_le (Nat.le_of_ble_eq_true rfl) (ctX11_entersF hSP hG4 (by omega) (by omega))) ?_
            rintro v85 h85 ⟨rfl, hG85, hF85, t85, s85⟩
            rw [z86] at t85
            rw [z86r] at s85
            refine x_iload_n 81 hK rfl rfl (lk1_n (lk1_n l2 (by decide) (Or.inl rfl)) (by decide) (Or.inl rfl)) ?_
            refine x_iload 83 hK rfl rfl lk1_s ?_
            refine x_iadd 84 hK rfl rfl ?_
            refine x_callS 87 hK hmono rfl (Or.inl rfl) rfl [.int (I (l + 0))] [] rfl rfl (Nat.le_of_ble_eq_true rfl) (Nat.le_of_ble_eq_true rfl) (CLd_le (Nat.le_of_ble_eq_true rfl) (ctX11_put hSP (by omega))) ?_
            rintro v9 h9 ⟨e9, rfl⟩
            rw [e9]
            clear e9
            refine x_istore_n 88 hK rfl rfl _ rfl ?_
            refine x_iinc 91 hK rfl rfl (lk1_n (lk1_n (lk1_n l3 (by decide) (Or.inl rfl)) (by decide) (Or.inl rfl)) (by decide) (Or.inl rfl)) _ rfl ?_
            refine x_goto 30 hK rfl rfl ?_
            exact ih _ (by omega) (max 0 (min 8 (l + 0))) (k + 1) _ _ rfl (s1) (by omega) (by omega) ((fun k' l' y1 y2 y3 y4 y5 => by rw [show gi h85 195 _ = gi h4 195 _ from FRM_gi hF85 (r := 78) rfl rfl, show gi h85 196 _ = gi h4 196 _ from FRM_gi hF85 (r := 79) rfl rfl]; exact tb k' l' y1 y2 y3 y4 y5)) ((FRM_gi hF85 (r := 54) rfl rfl).trans (t4)) ((t85).trans (by omega)) ((fun _ => by rw [show (lsF (gi h 193) (gi h 171 42).toNat) - (k + 1 - 1) = (lsF (gi h 193) (gi h 171 42).toNat) - k by omega]; exact nv)) ((fun z => absurd fp z)) ((fun _ => by rw [s85, ← e4 fp, show ((lsF (gi h 193) (gi h 171 42).toNat) - (k - 1)).toNat = ((lsF (gi h 193) (gi h 171 42).toNat) - k).toNat + 1 by omega, show (lsF (gi h 193) (gi h 171 42).toNat) - (k + 1 - 1) = (lsF (gi h 193) (gi h 171 42).toNat) - k by omega, List.append_assoc]; show mrow h4 ++ ([_] ++ _) = mrow h4 ++ (nxV (sMn (fun k => snF (gi h 193) (gi h 194) k (gi h 171 42).toNat) (lsF (gi h 193) (gi h 171 42).toNat) ((lsF (gi h 193) (gi h 171 42).toNat) - k).toNat) l :: sRow _ _ _ (max 0 (min 8 (l + nxV (sMn (fun k => snF (gi h 193) (gi h 194) k (gi h 171 42).toNat) (lsF (gi h 193) (gi h 171 42).toNat) ((lsF (gi h 193) (gi h 171 42).toNat) - k).toNat) l)))); rw [ve]; rfl)) (lk1_n (lk1_n (lk1_n (lk1_n l0 (by decide) (Or.inl rfl)) (by decide) (Or.inl rfl)) (by decide) (Or.inl rfl)) (by decide) (Or.inl rfl)) (lk1_n (lk1_n (lk1_n (lk1_n l1 (by decide) (Or.inl rfl)) (by decide) (Or.inl rfl)) (by decide) (Or.inl rfl)) (by decide) (Or.inl rfl)) (lk1_n lk1_s (by decide) (Or.inl rfl)) lk1_s (hG85) ((hF4).trans ((hF85).mono rfl))
          · refine x_iinc 70 hK rfl rfl lk1_s _ rfl ?_
            refine x_goto 47 hK rfl rfl ?_
            refine x_aload_n 48 hK rfl rfl (lk1_n (lk1_n (lk1_n l0 (by decide) (Or.inl rfl)) (by decide) (Or.inl rfl)) (by decide) (Or.inl rfl)) ?_
            refine x_getR 51 hK rfl rfl (sp_171 (h := h4) hG4) (rf_171_46 (h := h4) hG4) ?_
            refine x_bipush 53 hK rfl rfl rfl ?_
            refine x_iload_n 54 hK rfl rfl (lk1_n (lk1_n (lk1_n l3 (by decide) (Or.inl rfl)) (by decide) (Or.inl rfl)) (by decide) (Or.inl rfl)) ?_
            refine x_imul 55 hK rfl rfl ?_
            refine x_iload_n 56 hK rfl rfl (lk1_n (lk1_n (lk1_n l2 (by decide) (Or.inl rfl)) (by decide) (Or.inl rfl)) (by decide) (Or.inl rfl)) ?_
            refine x_iload 58 hK rfl rfl lk1_s ?_
            refine x_iadd 59 hK rfl rfl ?_
            refine x_callS 62 hK hmono rfl (Or.inl rfl) rfl [.int (I (l + 1))] [.int (I (9 * k)), .ref 196] rfl rfl (Nat.le_of_ble_eq_true rfl) (Nat.le_of_ble_eq_true rfl) (CLd_le (Nat.le_of_ble_eq_true rfl) (ctX11_put hSP (by omega))) ?_
            rintro v9 h9 ⟨e9, rfl⟩
            rw [e9]
            clear e9
            refine x_iadd 63 hK rfl rfl ?_
            refine x_baloadE 64 hK rfl rfl (sp_196 (h := h4) hG4) (by omega) (by omega) (by omega) (e' := (if 0 < (sMn (fun k => snF (gi h 193) (gi h 194) k (gi h 171 42).toNat) (lsF (gi h 193) (gi h 171 42).toNat) ((lsF (gi h 193) (gi h 171 42).toNat) - k).toNat) (max 0 (min 8 (l + 1))) then 1 else 0)) (tz _ (by omega) (by omega) (by omega)) ?_
            refine x_if_ne 73 67 hK rfl rfl rfl (by omega) (fun c87 => ?_) (fun c87 => ?_)
            · have ve : nxV (sMn (fun k => snF (gi h 193) (gi h 194) k (gi h 171 42).toNat) (lsF (gi h 193) (gi h 171 42).toNat) ((lsF (gi h 193) (gi h 171 42).toNat) - k).toNat) l = 1 := by rw [nd, if_neg (by omega), if_neg (by omega)]
              rw [ve] at nv
              refine x_aload_n 74 hK rfl rfl (lk1_n (lk1_n (lk1_n l0 (by decide) (Or.inl rfl)) (by decide) (Or.inl rfl)) (by decide) (Or.inl rfl)) ?_
              refine x_iload 76 hK rfl rfl lk1_s ?_
              refine x_i2l 77 hK rfl rfl (by omega) ?_
              have z90 : gi h4 171 1 = (k - 1) := r4
              have z90r : mrow h4 = (mrow h4) := rfl
              refine x_callV 80 hK hmono rfl rfl [.ref 171, .long (J 1)] [] rfl rfl (Nat.le_of_ble_eq_true rfl) (Nat.le_of_ble_eq_true rfl) rfl (sp_171 (h := h4) hG4) (CLd_le (Nat.le_of_ble_eq_true rfl) (ctX11_entersF hSP hG4 (by omega) (by omega))) ?_
              rintro v89 h89 ⟨rfl, hG89, hF89, t89, s89⟩
              rw [z90] at t89
              rw [z90r] at s89
              refine x_iload_n 81 hK rfl rfl (lk1_n (lk1_n (lk1_n l2 (by decide) (Or.inl rfl)) (by decide) (Or.inl rfl)) (by decide) (Or.inl rfl)) ?_
              refine x_iload 83 hK rfl rfl lk1_s ?_
              refine x_iadd 84 hK rfl rfl ?_
              refine x_callS 87 hK hmono rfl (Or.inl rfl) rfl [.int (I (l + 1))] [] rfl rfl (Nat.le_of_ble_eq_true rfl) (Nat.le_of_ble_eq_true rfl) (CLd_le (Nat.le_of_ble_eq_true rfl) (ctX11_put hSP (by omega))) ?_
              rintro v9 h9 ⟨e9, rfl⟩
              rw [e9]
              clear e9
              refine x_istore_n 88 hK rfl rfl _ rfl ?_
              refine x_iinc 91 hK rfl rfl (lk1_n (lk1_n (lk1_n (lk1_n l3 (by decide) (Or.inl rfl)) (by decide) (Or.inl rfl)) (by decide) (Or.inl rfl)) (by decide) (Or.inl rfl)) _ rfl ?_
              refine x_goto 30 hK rfl rfl ?_
              exact ih _ (by omega) (max 0 (min 8 (l + 1))) (k + 1) _ _ rfl (s1) (by omega) (by omega) ((fun k' l' y1 y2 y3 y4 y5 => by rw [show gi h89 195 _ = gi h4 195 _ from FRM_gi hF89 (r := 78) rfl rfl, show gi h89 196 _ = gi h4 196 _ from FRM_gi hF89 (r := 79) rfl rfl]; exact tb k' l' y1 y2 y3 y4 y5)) ((FRM_gi hF89 (r := 54) rfl rfl).trans (t4)) ((t89).trans (by omega)) ((fun _ => by rw [show (lsF (gi h 193) (gi h 171 42).toNat) - (k + 1 - 1) = (lsF (gi h 193) (gi h 171 42).toNat) - k by omega]; exact nv)) ((fun z => absurd fp z)) ((fun _ => by rw [s89, ← e4 fp, show ((lsF (gi h 193) (gi h 171 42).toNat) - (k - 1)).toNat = ((lsF (gi h 193) (gi h 171 42).toNat) - k).toNat + 1 by omega, show (lsF (gi h 193) (gi h 171 42).toNat) - (k + 1 - 1) = (lsF (gi h 193) (gi h 171 42).toNat) - k by omega, List.append_assoc]; show mrow h4 ++ ([_] ++ _) = mrow h4 ++ (nxV (sMn (fun k => snF (gi h 193) (gi h 194) k (gi h 171 42).toNat) (lsF (gi h 193) (gi h 171 42).toNat) ((lsF (gi h 193) (gi h 171 42).toNat) - k).toNat) l :: sRow _ _ _ (max 0 (min 8 (l + nxV (sMn (fun k => snF (gi h 193) (gi h 194) k (gi h 171 42).toNat) (lsF (gi h 193) (gi h 171 42).toNat) ((lsF (gi h 193) (gi h 171 42).toNat) - k).toNat) l)))); rw [ve]; rfl)) (lk1_n (lk1_n (lk1_n (lk1_n (lk1_n l0 (by decide) (Or.inl rfl)) (by decide) (Or.inl rfl)) (by decide) (Or.inl rfl)) (by decide) (Or.inl rfl)) (by decide) (Or.inl rfl)) (lk1_n (lk1_n (lk1_n (lk1_n (lk1_n l1 (by decide) (Or.inl rfl)) (by decide) (Or.inl rfl)) (by decide) (Or.inl rfl)) (by decide) (Or.inl rfl)) (by decide) (Or.inl rfl)) (lk1_n lk1_s (by decide) (Or.inl rfl)) lk1_s (hG89) ((hF4).trans ((hF89).mono rfl))
            · have ve : nxV (sMn (fun k => snF (gi h 193) (gi h 194) k (gi h 171 42).toNat) (lsF (gi h 193) (gi h 171 42).toNat) ((lsF (gi h 193) (gi h 171 42).toNat) - k).toNat) l = 1 := by rw [nd, if_neg (by omega), if_neg (by omega)]
              rw [ve] at nv
              exfalso
              omega
  refine x_aload_n 1 hK rfl rfl rfl ?_
  refine x_iconst 2 hK rfl rfl ?_
  refine x_putI 5 hK rfl rfl (sp_171 (h := h) hG) ?_
  refine x_aload_n 6 hK rfl rfl rfl ?_
  have hGp93 : GD gE gRL sh (wI h 171 0 0) := GD_w1 (hG) (r := 54) rfl (by omega) rfl (by omega) (by omega)
  refine x_callV 9 hK hmono rfl rfl [.ref 171] [] rfl rfl (Nat.le_of_ble_eq_true rfl) (Nat.le_of_ble_eq_true rfl) rfl (sp_171 (h := h) hG) (CLd_le (Nat.le_of_ble_eq_true rfl) (ctX11_lastSeen hSP hGp93)) ?_
  rintro v9 h9 ⟨e9, rfl⟩
  rw [e9]
  clear e9
  rw [show lsF (gi (wI h 171 0 0) 193) (gi (wI h 171 0 0) 171 42).toNat = lsF (gi h 193) (gi h 171 42).toNat from by rw [show gi (wI h 171 0 0) 171 42 = gi h 171 42 from gi_k (by decide) _, show gi (wI h 171 0 0) 193 = gi h 193 from funext fun j => gi_a (by decide) _]]
  have lb92 := last_b hG
  refine x_istore_n 10 hK rfl rfl [(1, .int (I (lsF (gi h 193) (gi h 171 42).toNat))), (0, .ref 171)] rfl ?_
  refine x_iload_n 11 hK rfl rfl rfl ?_
  refine x_if_ge 16 14 hK rfl rfl rfl (by omega) (fun c8 => ?_) (fun c8 => ?_)
  · refine x_aload_n 17 hK rfl rfl rfl ?_
    refine x_iload_n 18 hK rfl rfl rfl ?_
    have hGp94 : GD gE gRL sh (wI h 171 0 0) := GD_w1 (hG) (r := 54) rfl (by omega) rfl (by omega) (by omega)
    refine x_callV 21 hK hmono rfl rfl [.ref 171, .int (I (lsF (gi h 193) (gi h 171 42).toNat))] [] rfl rfl (Nat.le_of_ble_eq_true rfl) (Nat.le_of_ble_eq_true rfl) rfl (sp_171 (h := h) hG) (CLd_le (Nat.le_of_ble_eq_true rfl) (ctX11_laysSeen hSP hGp94 (by omega))) ?_
    rintro v2 h2 ⟨rfl, hG2, hF2, tb2⟩
    rw [show (fun k => snF (gi (wI h 171 0 0) 193) (gi (wI h 171 0 0) 194) k (gi (wI h 171 0 0) 171 42).toNat) = (fun k => snF (gi h 193) (gi h 194) k (gi h 171 42).toNat) from rfl] at tb2
    refine x_aload_n 22 hK rfl rfl rfl ?_
    refine x_iconst 23 hK rfl rfl ?_
    refine x_putI 26 hK rfl rfl (sp_171 (h := h2) hG2) ?_
    refine x_iconst 27 hK rfl rfl ?_
    refine x_istore_n 28 hK rfl rfl [(2, .int (I 4)), (1, .int (I (lsF (gi h 193) (gi h 171 42).toNat))), (0, .ref 171)] rfl ?_
    refine x_iconst 29 hK rfl rfl ?_
    refine x_istore_n 30 hK rfl rfl [(3, .int (I 1)), (2, .int (I 4)), (1, .int (I (lsF (gi h 193) (gi h 171 42).toNat))), (0, .ref 171)] rfl ?_
    exact loop _ 4 1 _ _ rfl (by omega) (by omega) (by omega) ((fun k' l' y1 y2 y3 y4 y5 => by rw [show gi (wI h2 171 1 0) 195 _ = gi h2 195 _ from gi_a (by decide) _, show gi (wI h2 171 1 0) 196 _ = gi h2 196 _ from gi_a (by decide) _]; exact tb2 k' l' y1 y2 y3 y4 y5)) ((gi_k (by decide) _).trans ((FRM_gi hF2 (r := 54) rfl rfl).trans (gi_same (by omega)))) (gi_same (by omega)) ((fun z => by rw [show (lsF (gi h 193) (gi h 171 42).toNat) - (1 - 1) = (lsF (gi h 193) (gi h 171 42).toNat) by omega]; exact z)) ((fun _ => rfl)) ((fun _ => by rw [mrow_0 (gi_same (by omega)), show (lsF (gi h 193) (gi h 171 42).toNat) - (1 - 1) = (lsF (gi h 193) (gi h 171 42).toNat) by omega]; rfl)) rfl rfl rfl rfl (GD_w1 (hG2) (r := 54) rfl (by omega) rfl (by omega) (by omega)) (FRM_w ((FRM_w ((FRM.rf : FRM gRL [(0, 54, 0, 0), (0, 54, 1, 1), (0, 78, 0, 224), (0, 79, 0, 224), (1, 55, 0, 39)] h h)) (r := 54) rfl rfl).trans ((hF2).mono rfl)) (r := 54) rfl rfl)
  · refine x_iconst 15 hK rfl rfl ?_
    exact x_iret hK rfl ⟨Or.inl ⟨by omega, rfl, mrow_k (by decide)⟩, GD_w1 (hG) (r := 54) rfl (by omega) rfl (by omega) (by omega), FRM_w ((FRM.rf : FRM gRL [(0, 54, 0, 0), (0, 54, 1, 1), (0, 78, 0, 224), (0, 79, 0, 224), (1, 55, 0, 39)] h h)) (r := 54) rfl rfl, gi_same (by omega)⟩
