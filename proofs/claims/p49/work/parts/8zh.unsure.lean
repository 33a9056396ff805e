/-! UNSURE -/
/-- LANES (bits) of which g is above 0 -/
noncomputable def psF (g : Nat → Int) : Nat → Int
  | 0 => 0
  | i + 1 => bOr (psF g i) (if 0 < g i then bShl 1 i else 0)
theorem psF_s {g : Nat → Int} {i : Int} (h : 0 ≤ i) : psF g (i + 1).toNat = bOr (psF g i.toNat) (if 0 < g i.toNat then bShl 1 i else 0) := by
  rw [tn_s h]
  show bOr (psF g i.toNat) (if 0 < g i.toNat then bShl 1 ((i.toNat : Nat) : Int) else 0) = _
  rw [show ((i.toNat : Nat) : Int) = i by omega]
theorem gb_0n : ∀ j : Nat, j < 9 → gb 0 j = false := by decide +kernel
theorem gb_16 : ∀ j : Nat, j < 9 → gb 16 j = decide (j = 4) := by decide +kernel
theorem bo0_n : ∀ s : Nat, s < 512 → bOr s 0 = s := by decide +kernel
theorem psF_b {g : Nat → Int} : ∀ n : Nat, n ≤ 9 → (0 ≤ psF g n ∧ psF g n ≤ 511) ∧ ∀ j : Nat, j < 9 → (gb (psF g n) j = true ↔ j < n ∧ 0 < g j)
  | 0, _ => ⟨by show (0 : Int) ≤ 0 ∧ (0 : Int) ≤ 511; omega, fun j hj => by
      rw [show psF g 0 = 0 from rfl, gb_0n j hj]
      exact ⟨fun z => absurd z Bool.noConfusion, fun z => absurd z.1 (Nat.not_lt_zero _)⟩⟩
  | n + 1, h => by
    obtain ⟨ih1, ih2⟩ := psF_b (g := g) n (by omega)
    obtain ⟨k, hk⟩ : ∃ k : Nat, psF g n = k := ⟨(psF g n).toNat, by omega⟩
    have y := or_n n (by omega)
    have e : psF g (n + 1) = bOr (psF g n) (if 0 < g n then bShl 1 n else 0) := rfl
    by_cases c : 0 < g n
    · rw [e, if_pos c]
      refine ⟨by rw [hk]; exact y.2.2 k (by omega), fun j hj => ?_⟩
      rw [gb_or, Bool.or_eq_true, ih2 j hj, y.2.1 j hj]
      constructor
      · rintro (z | rfl)
        · exact ⟨by omega, z.2⟩
        · exact ⟨by omega, c⟩
      · intro z
        by_cases q : j = n
        · exact Or.inr q
        · exact Or.inl ⟨by omega, z.2⟩
    · rw [e, if_neg c, hk, bo0_n k (by omega), ← hk]
      refine ⟨ih1, fun j hj => ?_⟩
      rw [ih2 j hj]
      constructor
      · intro z; exact ⟨by omega, z.2⟩
      · intro z
        by_cases q : j = n
        · subst q; exact absurd z.2 c
        · exact ⟨by omega, z.2⟩
theorem ps_ext {g g' : Nat → Int} : ∀ n : Nat, (∀ i : Nat, i < n → (0 < g i ↔ 0 < g' i)) → psF g n = psF g' n
  | 0, _ => rfl
  | n + 1, h => by
    show bOr (psF g n) (if 0 < g n then bShl 1 n else 0) = bOr (psF g' n) (if 0 < g' n then bShl 1 n else 0)
    rw [ps_ext n fun i hi => h i (by omega)]
    by_cases c : 0 < g n
    · rw [if_pos c, if_pos ((h n (by omega)).mp c)]
    · rw [if_neg c, if_neg fun z => c ((h n (by omega)).mpr z)]
theorem ps_id_n : ∀ s : Nat, s < 512 → psF (fun i => b2i (gb s i)) 9 = s := by decide +kernel
theorem ps_id {s : Int} (h : 0 ≤ s ∧ s ≤ 511) : psF (fun i => b2i (gb s i)) 9 = s := by
  obtain ⟨k, hk⟩ : ∃ k : Nat, s = k := ⟨s.toNat, by omega⟩
  rw [hk]
  exact ps_id_n k (by omega)
theorem b2i_lt {b : Bool} : 0 < b2i b ↔ b = true := by cases b <;> simp [b2i]
theorem bits_e {s t : Int} (hs : 0 ≤ s ∧ s ≤ 511) (ht : 0 ≤ t ∧ t ≤ 511) (h : ∀ j : Nat, j < 9 → (gb s j = true ↔ gb t j = true)) : s = t := by
  rw [← ps_id hs, ← ps_id ht]
  exact ps_ext 9 fun i hi => by rw [b2i_lt, b2i_lt]; exact h i hi
/-- LANES in which she can have been, by what each STEP allows -/
noncomputable def uF (P : Nat → Int) : Nat → Int
  | 0 => bAnd 16 (P 0)
  | k + 1 => bAnd (wdB (uF P k)) (P (k + 1))
theorem uF_s {P : Nat → Int} {k : Int} (h : 1 ≤ k) : uF P k.toNat = bAnd (wdB (uF P (k - 1).toNat)) (P k.toNat) := by
  obtain ⟨n, hn⟩ : ∃ n : Nat, k = ((n + 1 : Nat) : Int) := ⟨(k - 1).toNat, by omega⟩
  rw [hn, Int.toNat_natCast, show (((n + 1 : Nat) : Int) - 1).toNat = n by omega]
  rfl
theorem wdB_r {s : Int} (h : 0 ≤ s ∧ s ≤ 511) : 0 ≤ wdB s ∧ wdB s ≤ 511 := by
  obtain ⟨k, hk⟩ : ∃ k : Nat, s = k := ⟨s.toNat, by omega⟩
  rw [hk]
  exact (wdB_n k (by omega)).1
theorem uF_b (P : Nat → Int) : ∀ k : Nat, 0 ≤ uF P k ∧ uF P k ≤ 511
  | 0 => bAnd_in ⟨by omega, by omega⟩ _
  | k + 1 => bAnd_in (wdB_r (uF_b P k)) _
theorem uF_ext {P P' : Nat → Int} (h0 : bAnd 16 (P 0) = bAnd 16 (P' 0)) : ∀ k : Nat, (∀ i : Nat, 1 ≤ i → i ≤ k → P i = P' i) → uF P k = uF P' k
  | 0, _ => h0
  | k + 1, h => by
    show bAnd (wdB (uF P k)) (P (k + 1)) = bAnd (wdB (uF P' k)) (P' (k + 1))
    rw [uF_ext h0 k fun i a b => h i a (by omega), h (k + 1) (by omega) (by omega)]
/-- the first STEP with the most of them, and these -/
noncomputable def bsF (U : Nat → Int) : Nat → Int × Int
  | 0 => (0, U 0)
  | k + 1 => if bcF (bsF U k).2 < bcF (U (k + 1)) then (((k + 1 : Nat) : Int), U (k + 1)) else bsF U k
theorem bsF_s {U : Nat → Int} {k : Int} (h : 1 ≤ k) : bsF U k.toNat = if bcF (bsF U (k - 1).toNat).2 < bcF (U k.toNat) then (k, U k.toNat) else bsF U (k - 1).toNat := by
  obtain ⟨n, hn⟩ : ∃ n : Nat, k = ((n + 1 : Nat) : Int) := ⟨(k - 1).toNat, by omega⟩
  rw [hn, Int.toNat_natCast, show (((n + 1 : Nat) : Int) - 1).toNat = n by omega]
  rfl
theorem bsF_b {U : Nat → Int} (hu : ∀ k, 0 ≤ U k ∧ U k ≤ 511) : ∀ k : Nat, (0 ≤ (bsF U k).1 ∧ (bsF U k).1 ≤ k) ∧ 0 ≤ (bsF U k).2 ∧ (bsF U k).2 ≤ 511
  | 0 => ⟨by show (0 : Int) ≤ 0 ∧ (0 : Int) ≤ ((0 : Nat) : Int); omega, hu 0⟩
  | k + 1 => by
    have ih := bsF_b hu k
    have y := hu (k + 1)
    unfold bsF
    split
    · exact ⟨by show (0 : Int) ≤ ((k + 1 : Nat) : Int) ∧ ((k + 1 : Nat) : Int) ≤ ((k + 1 : Nat) : Int); omega, y⟩
    · exact ⟨by omega, ih.2⟩
theorem bsF_ext {U U' : Nat → Int} : ∀ k : Nat, (∀ i : Nat, i ≤ k → U i = U' i) → bsF U k = bsF U' k
  | 0, h => by show ((0 : Int), U 0) = (0, U' 0); rw [h 0 (Nat.le_refl _)]
  | k + 1, h => by
    show (if bcF (bsF U k).2 < bcF (U (k + 1)) then (((k + 1 : Nat) : Int), U (k + 1)) else bsF U k) = if bcF (bsF U' k).2 < bcF (U' (k + 1)) then (((k + 1 : Nat) : Int), U' (k + 1)) else bsF U' k
    rw [bsF_ext k fun i hi => h i (by omega), h (k + 1) (Nat.le_refl _)]
noncomputable def pcF (f : Int → Int) (last : Int) (k : Nat) : Int := psF (fun i : Nat => cwF f last (last - (k : Int)).toNat (i : Int)) 9
noncomputable def pmF (f : Int → Int) (last : Int) (k : Nat) : Int := psF (fun i : Nat => sMn f last (last - (k : Int)).toNat (i : Int)) 9
theorem u0_z {P : Nat → Int} (hp : 0 ≤ P 0 ∧ P 0 ≤ 511) : uF P 0 = 0 ↔ ¬ gb (P 0) 4 = true := by
  have e : uF P 0 = bAnd 16 (P 0) := rfl
  constructor
  · intro z y
    have q : gb (bAnd 16 (P 0)) 4 = true := by rw [gb_and, y, gb_16 4 (by omega)]; rfl
    rw [← e, z, gb_0n 4 (by omega)] at q
    exact Bool.noConfusion q
  · intro y
    refine bits_e (uF_b P 0) ⟨by omega, by omega⟩ fun j hj => ?_
    rw [e, gb_and, gb_16 j hj, gb_0n j hj]
    by_cases c : j = 4
    · subst c
      rw [show gb (P 0) 4 = false by cases q : gb (P 0) 4 with | true => exact absurd q y | false => rfl]
      exact ⟨fun z => by rw [Bool.and_false] at z; exact z, fun z => absurd z Bool.noConfusion⟩
    · rw [decide_eq_false c, Bool.false_and]
theorem u0_c {P P' : Nat → Int} (h : gb (P 0) 4 = true ↔ gb (P' 0) 4 = true) : bAnd 16 (P 0) = bAnd 16 (P' 0) := by
  refine bits_e (uF_b P 0) (uF_b P' 0) fun j hj => ?_
  show gb (bAnd 16 (P 0)) j = true ↔ gb (bAnd 16 (P' 0)) j = true
  rw [gb_and, gb_and, gb_16 j hj, Bool.and_eq_true, Bool.and_eq_true, decide_eq_true_eq]
  constructor
  · rintro ⟨rfl, z⟩; exact ⟨rfl, h.mp z⟩
  · rintro ⟨rfl, z⟩; exact ⟨rfl, h.mpr z⟩
/-- a LANE that is next to one of the first n, or is it -/
noncomputable def isN (s l : Int) : Nat → Bool
  | 0 => false
  | o + 1 => isN s l o || (gb s o && (decide (max 0 (min 8 ((o : Int) - 1)) = l) || decide ((o : Int) = l) || decide (max 0 (min 8 ((o : Int) + 1)) = l)))
theorem isN_iff {s l : Int} : ∀ n : Nat, isN s l n = true ↔ ∃ o : Nat, o < n ∧ gb s o = true ∧ (max 0 (min 8 ((o : Int) - 1)) = l ∨ (o : Int) = l ∨ max 0 (min 8 ((o : Int) + 1)) = l)
  | 0 => ⟨fun z => absurd z Bool.noConfusion, fun ⟨o, z, _⟩ => absurd z (Nat.not_lt_zero _)⟩
  | n + 1 => by
    have ih := isN_iff (s := s) (l := l) n
    show (isN s l n || (gb s n && (decide (max 0 (min 8 ((n : Int) - 1)) = l) || decide ((n : Int) = l) || decide (max 0 (min 8 ((n : Int) + 1)) = l)))) = true ↔ _
    rw [Bool.or_eq_true, ih, Bool.and_eq_true, Bool.or_eq_true, Bool.or_eq_true, decide_eq_true_eq, decide_eq_true_eq, decide_eq_true_eq]
    constructor
    · rintro (⟨o, a, b⟩ | ⟨a, b⟩)
      · exact ⟨o, by omega, b⟩
      · exact ⟨n, Nat.lt_succ_self n, a, or_assoc.mp b⟩
    · rintro ⟨o, a, b, c⟩
      by_cases q : o = n
      · subst q
        exact Or.inr ⟨b, or_assoc.mpr c⟩
      · exact Or.inl ⟨o, by omega, b, c⟩
theorem isN_1 {s l o : Int} (h : 0 ≤ o) (c : ¬ b2i (isN s l o.toNat) = 0 ∨ (¬ b2i (gb s o.toNat) = 0 ∧ (max 0 (min 8 (o - 1)) = l ∨ o = l ∨ max 0 (min 8 (o + 1)) = l))) : b2i (isN s l (o + 1).toNat) = 1 := by
  rw [tn_s h]
  show b2i (isN s l o.toNat || (gb s o.toNat && (decide (max 0 (min 8 (((o.toNat : Nat) : Int) - 1)) = l) || decide (((o.toNat : Nat) : Int) = l) || decide (max 0 (min 8 (((o.toNat : Nat) : Int) + 1)) = l)))) = 1
  rw [show ((o.toNat : Nat) : Int) = o by omega]
  rcases c with c | ⟨c, d⟩
  · rw [b2i_1 c]; rfl
  · rw [b2i_1 c, show (decide (max 0 (min 8 (o - 1)) = l) || decide (o = l) || decide (max 0 (min 8 (o + 1)) = l)) = true by rw [Bool.or_eq_true, Bool.or_eq_true, decide_eq_true_eq, decide_eq_true_eq, decide_eq_true_eq]; omega, Bool.and_self, Bool.or_true]
    rfl
theorem isN_0 {s l o : Int} (h : 0 ≤ o) (c : b2i (isN s l o.toNat) = 0) (d : b2i (gb s o.toNat) = 0 ∨ ¬ (max 0 (min 8 (o - 1)) = l ∨ o = l ∨ max 0 (min 8 (o + 1)) = l)) : b2i (isN s l (o + 1).toNat) = 0 := by
  rw [tn_s h]
  show b2i (isN s l o.toNat || (gb s o.toNat && (decide (max 0 (min 8 (((o.toNat : Nat) : Int) - 1)) = l) || decide (((o.toNat : Nat) : Int) = l) || decide (max 0 (min 8 (((o.toNat : Nat) : Int) + 1)) = l)))) = 0
  rw [show ((o.toNat : Nat) : Int) = o by omega, b2i_0 c]
  rcases d with d | d
  · rw [b2i_0 d]; rfl
  · rw [decide_eq_false (fun z => d (Or.inl z)), decide_eq_false (fun z => d (Or.inr (Or.inl z))), decide_eq_false (fun z => d (Or.inr (Or.inr z)))]
    rw [Bool.or_self, Bool.or_self, Bool.and_false, Bool.or_self]
    rfl
theorem isN_wd {s l : Int} (hs : 0 ≤ s ∧ s ≤ 511) (hl : 0 ≤ l ∧ l ≤ 8) : isN s l 9 = true ↔ gb (wdB s) l.toNat = true := by
  have hw := wdB_r hs
  obtain ⟨k, hk⟩ : ∃ k : Nat, s = k := ⟨s.toNat, by omega⟩
  have z := (wdB_n k (by omega)).2 l.toNat (by omega)
  rw [← hk] at z
  rw [isN_iff, ← bt_gb hw (by omega), z]
  have b : ∀ j : Nat, j < 9 → (bitS s j = 1 ↔ gb s j = true) := fun j hj => bt_gb hs hj
  constructor
  · rintro ⟨o, h1, h2, h3⟩
    have y := (b o h1).mpr h2
    rcases (show o = l.toNat ∨ (1 ≤ l.toNat ∧ o = l.toNat - 1) ∨ (l.toNat ≤ 7 ∧ o = l.toNat + 1) by omega) with rfl | ⟨q, rfl⟩ | ⟨q, rfl⟩
    · exact Or.inl y
    · exact Or.inr (Or.inl ⟨q, y⟩)
    · exact Or.inr (Or.inr ⟨q, y⟩)
  · rintro (y | ⟨q, y⟩ | ⟨q, y⟩)
    · exact ⟨l.toNat, by omega, (b _ (by omega)).mp y, by omega⟩
    · exact ⟨l.toNat - 1, by omega, (b _ (by omega)).mp y, by omega⟩
    · exact ⟨l.toNat + 1, by omega, (b _ (by omega)).mp y, by omega⟩
theorem pmF_g {f : Int → Int} {last k l : Int} (hk : 0 ≤ k) (hl : 0 ≤ l ∧ l ≤ 8) : gb (pmF f last k.toNat) l.toNat = true ↔ 0 < sMn f last (last - k).toNat l := by
  have z := (psF_b (g := fun i : Nat => sMn f last (last - ((k.toNat : Nat) : Int)).toNat (i : Int)) 9 (Nat.le_refl _)).2 l.toNat (by omega)
  rw [show ((k.toNat : Nat) : Int) = k by omega, show ((l.toNat : Nat) : Int) = l by omega] at z
  unfold pmF
  rw [show ((k.toNat : Nat) : Int) = k by omega, z]
  exact ⟨fun y => y.2, fun y => ⟨by omega, y⟩⟩
theorem gU_iff {f : Int → Int} {last k l : Int} (hk : 0 ≤ k) (hl : 0 ≤ l ∧ l ≤ 8) : gb (uF (pmF f last) k.toNat) l.toNat = true ↔ ((k = 0 ∧ l = 4) ∨ (1 ≤ k ∧ isN (uF (pmF f last) (k - 1).toNat) l 9 = true)) ∧ 0 < sMn f last (last - k).toNat l := by
  by_cases c : k = 0
  · subst c
    have e : uF (pmF f last) (0 : Int).toNat = bAnd 16 (pmF f last (0 : Int).toNat) := rfl
    rw [e, gb_and, gb_16 _ (by omega), Bool.and_eq_true, decide_eq_true_eq, pmF_g (Int.le_refl 0) hl]
    constructor
    · rintro ⟨a, b⟩; exact ⟨Or.inl ⟨rfl, by omega⟩, b⟩
    · rintro ⟨⟨_, a⟩ | ⟨a, _⟩, b⟩
      · exact ⟨by omega, b⟩
      · omega
  · rw [uF_s (by omega), gb_and, Bool.and_eq_true, pmF_g hk hl, ← isN_wd (uF_b _ _) hl]
    constructor
    · rintro ⟨a, b⟩; exact ⟨Or.inr ⟨by omega, a⟩, b⟩
    · rintro ⟨⟨a, _⟩ | ⟨_, a⟩, b⟩
      · exact absurd a c
      · exact ⟨a, b⟩
theorem gU_1 {f : Int → Int} {last k l : Int} (hk : 0 ≤ k) (hl : 0 ≤ l ∧ l ≤ 8) (h : (k = 0 ∧ l = 4) ∨ (1 ≤ k ∧ ¬ b2i (isN (uF (pmF f last) (k - 1).toNat) l 9) = 0)) (h2 : 0 < sMn f last (last - k).toNat l) : b2i (gb (uF (pmF f last) k.toNat) l.toNat) = 1 := by
  rw [(gU_iff hk hl).mpr ⟨h.imp id fun z => ⟨z.1, b2i_1 z.2⟩, h2⟩]
  rfl
theorem gU_0 {f : Int → Int} {last k l : Int} (hk : 0 ≤ k) (hl : 0 ≤ l ∧ l ≤ 8) (h : (k = 0 ∧ l ≠ 4) ∨ (1 ≤ k ∧ b2i (isN (uF (pmF f last) (k - 1).toNat) l 9) = 0) ∨ ¬ 0 < sMn f last (last - k).toNat l) : b2i (gb (uF (pmF f last) k.toNat) l.toNat) = 0 := by
  cases q : gb (uF (pmF f last) k.toNat) l.toNat with
  | false => rfl
  | true =>
    obtain ⟨a, b⟩ := (gU_iff hk hl).mp q
    rcases h with ⟨h1, h2⟩ | ⟨h1, h2⟩ | h
    · rcases a with ⟨_, a⟩ | ⟨a, _⟩
      · exact absurd a h2
      · omega
    · rcases a with ⟨a, _⟩ | ⟨_, a⟩
      · omega
      · rw [a] at h2; exact absurd h2 (by decide)
    · exact absurd b h
/-- the same by both -/
theorem uns_eq {sh : List (Nat × Nat)} {h : aH} (hG : GD gE gRL sh h) (hc : ∀ k : Nat, k ≤ 24 → gi h 134 k = snF (gi h 193) (gi h 194) k (gi h 171 42).toNat) (hn : 0 < gi h 171 42) :
    lsF (gi h 193) (gi h 171 42).toNat = lcF (gi h 134) 24 ∧ (0 < sMn (fun k => snF (gi h 193) (gi h 194) k (gi h 171 42).toNat) (lcF (gi h 134) 24) (lcF (gi h 134) 24).toNat 4 ↔ ¬ uF (pcF (fun k : Int => gi h 134 k.toNat) (lcF (gi h 134) 24)) 0 = 0) ∧
    ∀ n : Nat, (n : Int) ≤ lcF (gi h 134) 24 → bsF (uF (pmF (fun k => snF (gi h 193) (gi h 194) k (gi h 171 42).toNat) (lcF (gi h 134) 24))) n = bsF (uF (pcF (fun k : Int => gi h 134 k.toNat) (lcF (gi h 134) 24))) n := by
  have gn := gri 0 12 hG (a := 171) (r := 54) (k := 42) rfl rfl
  have hs : ∀ i, i < (gi h 171 42).toNat → 0 ≤ gi h 193 i ∧ gi h 193 i ≤ 24 := fun i hi => grn 0 24 hG (a := 193) (r := 76) rfl rfl (by omega)
  have hl : ∀ i, i < (gi h 171 42).toNat → 0 ≤ gi h 194 i ∧ gi h 194 i ≤ 8 := fun i hi => grn 0 8 hG (a := 194) (r := 77) rfl rfl (by omega)
  have el := ls_lc (by omega) hs (fun i hi => (hl i hi).1) hc
  have lb := lcF_b (gi h 134) 24
  have pe : ∀ (k : Nat) (l : Int), (k : Int) ≤ lcF (gi h 134) 24 → (1 ≤ k ∨ l = 4) → (0 < sMn (fun k => snF (gi h 193) (gi h 194) k (gi h 171 42).toNat) (lcF (gi h 134) 24) (lcF (gi h 134) 24 - (k : Int)).toNat l ↔ 0 < cwF (fun k : Int => gi h 134 k.toNat) (lcF (gi h 134) 24) (lcF (gi h 134) 24 - (k : Int)).toNat l) := fun k l hk h4 => by
    have e1 := cw_mn (f := fun k => snF (gi h 193) (gi h 194) k (gi h 171 42).toNat) (fun k => (snF_b _ hl).1) (lcF (gi h 134) 24) (lcF (gi h 134) 24 - (k : Int)).toNat l (by omega)
    have e2 := cwF_ext (f := fun k => snF (gi h 193) (gi h 194) k (gi h 171 42).toNat) (g := fun k : Int => gi h 134 k.toNat) (last := lcF (gi h 134) 24) (fun k k0 k1 => by
      show snF (gi h 193) (gi h 194) k (gi h 171 42).toNat = gi h 134 k.toNat
      rw [hc _ (by omega), show ((k.toNat : Nat) : Int) = k by omega]) lb.1 (lcF (gi h 134) 24 - (k : Int)).toNat l (by omega)
    rw [e1, e2]
    omega
  have pg := fun (f : Int → Int) => (pmF_g (f := f) (last := lcF (gi h 134) 24) (k := 0) (l := 4) (by omega) (by omega))
  have cg : gb (pcF (fun k : Int => gi h 134 k.toNat) (lcF (gi h 134) 24) 0) 4 = true ↔ 0 < cwF (fun k : Int => gi h 134 k.toNat) (lcF (gi h 134) 24) (lcF (gi h 134) 24 - ((0 : Nat) : Int)).toNat 4 := by
    have z := (psF_b (g := fun i : Nat => cwF (fun k : Int => gi h 134 k.toNat) (lcF (gi h 134) 24) (lcF (gi h 134) 24 - ((0 : Nat) : Int)).toNat (i : Int)) 9 (Nat.le_refl _)).2 4 (by omega)
    exact z.trans ⟨fun y => y.2, fun y => ⟨by omega, y⟩⟩
  have p0 := pe 0 4 (by omega) (Or.inr rfl)
  have z0 : lcF (gi h 134) 24 - ((0 : Nat) : Int) = lcF (gi h 134) 24 := by omega
  have pm0 : gb (pmF (fun k => snF (gi h 193) (gi h 194) k (gi h 171 42).toNat) (lcF (gi h 134) 24) 0) 4 = true ↔ 0 < sMn (fun k => snF (gi h 193) (gi h 194) k (gi h 171 42).toNat) (lcF (gi h 134) 24) (lcF (gi h 134) 24 - ((0 : Nat) : Int)).toNat 4 := pg _
  refine ⟨el.symm, ?_, fun n hn => bsF_ext n fun i hi => uF_ext (u0_c (pm0.trans (p0.trans cg.symm))) i fun j j1 j2 => ps_ext 9 fun q hq => pe j (q : Int) (by omega) (Or.inl j1)⟩
  rw [u0_z (psF_b 9 (Nat.le_refl _)).1, cg, ← p0, z0]
  exact ⟨fun z y => y z, fun z => Classical.not_not.mp z⟩
set_option maxRecDepth 4000 in
theorem ctX7_possible {SP : CT} (hSP : MONO SP) {sh : List (Nat × Nat)} {h : aH} (hG : GD gE gRL sh h) {s : Int} (hP : PT h) (hs : 0 ≤ s ∧ s ≤ 24) : CLd SP 1 mX7_possible [.ref 133, .int (I s)] h 0 0 (fun rv h' => h' = h ∧ rv = some (.int (I (psF (fun i : Nat => gj h (136 + s.toNat) i) 9)))) := by
  refine x_met _ rfl (Nat.le_of_ble_eq_true rfl) (fun K hK => ?_)
  have hmono := MONO_CLd hSP 0
  have loop : ∀ (mz : Nat) (e i : Int) (ls : List (Nat × Value)), ((9 - i).toNat = mz) → (0 ≤ i ∧ i ≤ 9) → (e = psF (fun i : Nat => gj h (136 + s.toNat) i) i.toNat) → lk ls 0 = some (.ref 133) → lk ls 1 = some (.int (I s)) → lk ls 2 = some (.int (I e)) → lk ls 3 = some (.int (I i)) → K 4 ls [] h 0 0 := by
    intro mz
    induction mz using Nat.strongRecOn with
    | ind mz ih =>
    intro e i ls hm i0 ee l0 l1 l2 l3
    have pb := (psF_b (g := (fun i : Nat => gj h (136 + s.toNat) i)) i.toNat (by omega)).1
    have gr := gj_r h (136 + s.toNat) i.toNat
    refine x_iload_n 5 hK rfl rfl l3 ?_
    refine x_bipush 7 hK rfl rfl rfl ?_
    refine x_if_icmp_gt 39 10 hK rfl rfl rfl (by omega) (by omega) (fun c3 => ?_) (fun c3 => ?_)
    · refine x_iload_n 40 hK rfl rfl l2 ?_
      exact x_iret hK rfl ⟨rfl, by rw [ee, show i.toNat = 9 by omega]⟩
    · refine x_iload_n 11 hK rfl rfl l2 ?_
      refine x_aload_n 12 hK rfl rfl l0 ?_
      refine x_getR 15 hK rfl rfl (sp_133 (h := h) hG) (rf_133_2 (h := h) hG) ?_
      refine x_iload_n 16 hK rfl rfl l1 ?_
      refine x_aaload 17 hK rfl rfl (sp_135 (h := h) hG) (by decide) (by omega) (by omega) (by omega) (hP.1 _ (by omega)) ?_
      refine x_iload_n 18 hK rfl rfl l3 ?_
      refine x_laloadE 19 hK rfl rfl (shx (h := h) hG (r := 50) (pt_r1 _ (by omega)) rfl) (by omega) (by omega) (by omega) (e' := (gj h (136 + s.toNat) i.toNat)) (rfl) ?_
      refine x_lconstE 20 0 hK rfl rfl rfl ?_
      refine x_lcmp_le 30 24 hK rfl rfl rfl rfl (by omega) (by omega) (fun c14 => ?_) (fun c14 => ?_)
      · refine x_iconst 31 hK rfl rfl ?_
        have g679 := bOr_r e 0
        refine x_iorF 32 hK rfl rfl ?_
        refine x_istore_n 33 hK rfl rfl _ rfl ?_
        refine x_iinc 36 hK rfl rfl (lk1_n l3 (by decide) (Or.inl rfl)) _ rfl ?_
        refine x_goto 4 hK rfl rfl ?_
        exact ih _ (by omega) (bOr e 0) (i + 1) _ rfl (by omega) (by rw [psF_s i0.1, if_neg (show ¬ 0 < gj h (136 + s.toNat) i.toNat by omega), ee]) (lk1_n (lk1_n l0 (by decide) (Or.inl rfl)) (by decide) (Or.inl rfl)) (lk1_n (lk1_n l1 (by decide) (Or.inl rfl)) (by decide) (Or.inl rfl)) (lk1_n lk1_s (by decide) (Or.inl rfl)) lk1_s
      · refine x_iconst 25 hK rfl rfl ?_
        refine x_iload_n 26 hK rfl rfl l3 ?_
        have g680 := bShl_r 1 i
        refine x_ishlF 27 hK rfl rfl ?_
        refine x_goto 31 hK rfl rfl ?_
        have g681 := bOr_r e (bShl 1 i)
        refine x_iorF 32 hK rfl rfl ?_
        refine x_istore_n 33 hK rfl rfl _ rfl ?_
        refine x_iinc 36 hK rfl rfl (lk1_n l3 (by decide) (Or.inl rfl)) _ rfl ?_
        refine x_goto 4 hK rfl rfl ?_
        exact ih _ (by omega) (bOr e (bShl 1 i)) (i + 1) _ rfl (by omega) (by rw [psF_s i0.1, if_pos (show 0 < gj h (136 + s.toNat) i.toNat by omega), ee]) (lk1_n (lk1_n l0 (by decide) (Or.inl rfl)) (by decide) (Or.inl rfl)) (lk1_n (lk1_n l1 (by decide) (Or.inl rfl)) (by decide) (Or.inl rfl)) (lk1_n lk1_s (by decide) (Or.inl rfl)) lk1_s
  refine x_iconst 1 hK rfl rfl ?_
  refine x_istore_n 2 hK rfl rfl [(2, .int (I 0)), (0, .ref 133), (1, .int (I s))] rfl ?_
  refine x_iconst 3 hK rfl rfl ?_
  refine x_istore_n 4 hK rfl rfl [(3, .int (I 0)), (2, .int (I 0)), (0, .ref 133), (1, .int (I s))] rfl ?_
  exact loop _ 0 0 _ rfl (by omega) (rfl) rfl rfl rfl rfl
set_option maxRecDepth 4000 in
theorem ctX10_unsure {SP : CT} (hSP : MONO SP) {sh : List (Nat × Nat)} {h : aH} (hG : GD gE gRL sh h) (hP : PT h) : CLd SP 6 mX10_unsure [.ref 0] h 0 0 (fun rv h' => ((gi h 133 0 = 0 ∧ rv = some (.int (I (-2))) ∧ crow h' = crow h) ∨ (gi h 133 0 ≠ 0 ∧ (uF (pcF (fun k : Int => gi h 134 k.toNat) (lcF (gi h 134) 24))) 0 = 0 ∧ rv = some (.int (I (-2))) ∧ crow h' = crow h) ∨ (gi h 133 0 ≠ 0 ∧ (uF (pcF (fun k : Int => gi h 134 k.toNat) (lcF (gi h 134) 24))) 0 ≠ 0 ∧ rv = some (.int (I (bsF (uF (pcF (fun k : Int => gi h 134 k.toNat) (lcF (gi h 134) 24))) (lcF (gi h 134) 24).toNat).1)) ∧ crow h' = [(bsF (uF (pcF (fun k : Int => gi h 134 k.toNat) (lcF (gi h 134) 24))) (lcF (gi h 134) 24).toNat).2])) ∧ GD gE gRL sh h' ∧ FRM gRL [(0, 3, 1, 1), (1, 4, 0, 29), (1, 50, 0, 8)] h h') := by
  refine x_met _ rfl (Nat.le_of_ble_eq_true rfl) (fun K hK => ?_)
  have hmono := MONO_CLd hSP 5
  have lb := lcF_b (gi h 134) 24
  have ub := uF_b (pcF (fun k : Int => gi h 134 k.toNat) (lcF (gi h 134) 24))
  have bb := bsF_b (U := (uF (pcF (fun k : Int => gi h 134 k.toNat) (lcF (gi h 134) 24)))) ub
  have loop : ∀ (mz : Nat) (u b e k : Int) (h4 : aH) (ls : List (Nat × Value)), (((lcF (gi h 134) 24) + 1 - k).toNat = mz) → (gi h 133 0 ≠ 0) → ((uF (pcF (fun k : Int => gi h 134 k.toNat) (lcF (gi h 134) 24))) 0 ≠ 0) → (1 ≤ k ∧ k ≤ (lcF (gi h 134) 24) + 1) → (u = (uF (pcF (fun k : Int => gi h 134 k.toNat) (lcF (gi h 134) 24))) (k - 1).toNat) → (b = (bsF (uF (pcF (fun k : Int => gi h 134 k.toNat) (lcF (gi h 134) 24))) (k - 1).toNat).1) → (e = (bsF (uF (pcF (fun k : Int => gi h 134 k.toNat) (lcF (gi h 134) 24))) (k - 1).toNat).2) → (CTB (fun k : Int => gi h 134 k.toNat) (lcF (gi h 134) 24) h4 (-1) 0) → lk ls 0 = some (.ref 0) → lk ls 1 = some (.int (I (lcF (gi h 134) 24))) → lk ls 2 = some (.int (I u)) → lk ls 3 = some (.int (I b)) → lk ls 4 = some (.int (I e)) → lk ls 5 = some (.int (I k)) → GD gE gRL sh h4 → FRM gRL [(1, 50, 0, 8)] h h4 → K 56 ls [] h4 0 0 := by
    intro mz
    induction mz using Nat.strongRecOn with
    | ind mz ih =>
    intro u b e k h4 ls hm s1 z1 k0 uu be ee tb l0 l1 l2 l3 l4 l5 hG4 hF4
    have ub1 := ub (k - 1).toNat
    have bb1 := bb (k - 1).toNat
    have us := uF_s (P := (pcF (fun k : Int => gi h 134 k.toNat) (lcF (gi h 134) 24))) (k := k) (by omega)
    have bs := bsF_s (U := (uF (pcF (fun k : Int => gi h 134 k.toNat) (lcF (gi h 134) 24)))) (k := k) (by omega)
    refine x_iload 58 hK rfl rfl l5 ?_
    refine x_iload_n 59 hK rfl rfl l1 ?_
    refine x_if_icmp_gt 101 62 hK rfl rfl rfl (by omega) (by omega) (fun c3 => ?_) (fun c3 => ?_)
    · refine x_aload_n 102 hK rfl rfl l0 ?_
      refine x_getR 105 hK rfl rfl (sp_0 (h := h4) hG4) (rf_0_1 (h := h4) hG4) ?_
      refine x_iload 107 hK rfl rfl l4 ?_
      refine x_i2l 108 hK rfl rfl (by omega) ?_
      refine x_callV 111 hK hmono rfl rfl [.ref 3, .long (J e)] [] rfl rfl (Nat.le_of_ble_eq_true rfl) (Nat.le_of_ble_eq_true rfl) rfl (sp_3 (h := h4) hG4) (CLd_le (Nat.le_of_ble_eq_true rfl) (ctX3_tellOne hSP hG4 (by omega))) ?_
      rintro v682 h682 ⟨rfl, hG682, hF682, t682, s682⟩
      refine x_iload_n 112 hK rfl rfl l3 ?_
      have ek : (k - 1).toNat = (lcF (gi h 134) 24).toNat := by omega
      rw [ek] at be ee
      exact x_iret hK rfl ⟨Or.inr (Or.inr ⟨s1, z1, by rw [be], by rw [← ee]; exact s682⟩), hG682, ((hF4).mono rfl).trans ((hF682).mono rfl)⟩
    · refine x_iload_n 63 hK rfl rfl l2 ?_
      refine x_callS 66 hK hmono rfl (Or.inl rfl) rfl [.int (I u)] [] rfl rfl (Nat.le_of_ble_eq_true rfl) (Nat.le_of_ble_eq_true rfl) (CLd_le (Nat.le_of_ble_eq_true rfl) (ctX10_widenedF hSP (s := u))) ?_
      rintro v9 h9 ⟨e9, rfl⟩
      rw [e9]
      clear e9
      refine x_aload_n 67 hK rfl rfl l0 ?_
      refine x_getR 70 hK rfl rfl (sp_0 (h := h4) hG4) (rf_0_14 (h := h4) hG4) ?_
      refine x_iload 72 hK rfl rfl l5 ?_
      refine x_callV 75 hK hmono rfl rfl [.ref 133, .int (I k)] [.int (I (wdB u))] rfl rfl (Nat.le_of_ble_eq_true rfl) (Nat.le_of_ble_eq_true rfl) rfl (sp_133 (h := h4) hG4) (CLd_le (Nat.le_of_ble_eq_true rfl) (ctX7_possible hSP hG4 (s := k) (PT_F hF4 (by decide) hP) (by omega))) ?_
      rintro v9 h9 ⟨e9, rfl⟩
      rw [e9]
      clear e9
      rw [show psF (fun i : Nat => gj h4 (136 + k.toNat) i) 9 = (pcF (fun k : Int => gi h 134 k.toNat) (lcF (gi h 134) 24)) k.toNat from ps_ext 9 fun i hi => by
            have z := tb k (i : Int) (by omega) (by omega) (by omega) (by omega) (Or.inl (by omega))
            have z : gj h4 (136 + k.toNat) i = _ := z
            rw [z]
            show 0 < cwF (fun k : Int => gi h 134 k.toNat) (lcF (gi h 134) 24) ((lcF (gi h 134) 24) - k).toNat (i : Int) ↔ 0 < cwF (fun k : Int => gi h 134 k.toNat) (lcF (gi h 134) 24) ((lcF (gi h 134) 24) - ((k.toNat : Nat) : Int)).toNat (i : Int)
            rw [show (((k.toNat : Nat) : Int)) = k by omega]]
      have g684 := bAnd_r (wdB u) ((pcF (fun k : Int => gi h 134 k.toNat) (lcF (gi h 134) 24)) k.toNat)
      refine x_iandF 76 hK rfl rfl ?_
      have ue : bAnd (wdB u) ((pcF (fun k : Int => gi h 134 k.toNat) (lcF (gi h 134) 24)) k.toNat) = (uF (pcF (fun k : Int => gi h 134 k.toNat) (lcF (gi h 134) 24))) k.toNat := by rw [us, uu]
      rw [ue]
      have ubk := ub k.toNat
      refine x_istore_n 77 hK rfl rfl _ rfl ?_
      refine x_iload_n 78 hK rfl rfl lk1_s ?_
      have bz685 := bcF_r ((uF (pcF (fun k : Int => gi h 134 k.toNat) (lcF (gi h 134) 24))) k.toNat)
      refine x_callS 81 hK hmono rfl (Or.inl rfl) rfl [.int (I ((uF (pcF (fun k : Int => gi h 134 k.toNat) (lcF (gi h 134) 24))) k.toNat))] [] rfl rfl (Nat.le_of_ble_eq_true rfl) (Nat.le_of_ble_eq_true rfl) (CLd_le (Nat.le_of_ble_eq_true rfl) (ctJ6_bitCount_0f7a4F hSP (x := ((uF (pcF (fun k : Int => gi h 134 k.toNat) (lcF (gi h 134) 24))) k.toNat)))) ?_
      rintro v9 h9 ⟨e9, rfl⟩
      rw [e9]
      clear e9
      refine x_iload 83 hK rfl rfl (lk1_n l4 (by decide) (Or.inl rfl)) ?_
      have bz686 := bcF_r e
      refine x_callS 86 hK hmono rfl (Or.inl rfl) rfl [.int (I e)] [.int (I (bcF ((uF (pcF (fun k : Int => gi h 134 k.toNat) (lcF (gi h 134) 24))) k.toNat)))] rfl rfl (Nat.le_of_ble_eq_true rfl) (Nat.le_of_ble_eq_true rfl) (CLd_le (Nat.le_of_ble_eq_true rfl) (ctJ6_bitCount_0f7a4F hSP (x := e))) ?_
      rintro v9 h9 ⟨e9, rfl⟩
      rw [e9]
      clear e9
      refine x_if_icmp_le 95 89 hK rfl rfl rfl (by omega) (by omega) (fun c24 => ?_) (fun c24 => ?_)
      · refine x_iinc 98 hK rfl rfl (lk1_n l5 (by decide) (Or.inl rfl)) _ rfl ?_
        refine x_goto 56 hK rfl rfl ?_
        have bz : bsF (uF (pcF (fun k : Int => gi h 134 k.toNat) (lcF (gi h 134) 24))) k.toNat = (bsF (uF (pcF (fun k : Int => gi h 134 k.toNat) (lcF (gi h 134) 24))) (k - 1).toNat) := bs.trans (if_neg (by rw [← ee]; omega))
        exact ih _ (by omega) ((uF (pcF (fun k : Int => gi h 134 k.toNat) (lcF (gi h 134) 24))) k.toNat) b e (k + 1) _ _ rfl (s1) (z1) (by omega) (by rw [show k + 1 - 1 = k by omega]) (by rw [show k + 1 - 1 = k by omega, bz]; exact be) (by rw [show k + 1 - 1 = k by omega, bz]; exact ee) (tb) (lk1_n (lk1_n l0 (by decide) (Or.inl rfl)) (by decide) (Or.inl rfl)) (lk1_n (lk1_n l1 (by decide) (Or.inl rfl)) (by decide) (Or.inl rfl)) (lk1_n lk1_s (by decide) (Or.inl rfl)) (lk1_n (lk1_n l3 (by decide) (Or.inl rfl)) (by decide) (Or.inl rfl)) (lk1_n (lk1_n l4 (by decide) (Or.inl rfl)) (by decide) (Or.inl rfl)) lk1_s (hG4) (hF4)
      · refine x_iload 91 hK rfl rfl (lk1_n l5 (by decide) (Or.inl rfl)) ?_
        refine x_istore_n 92 hK rfl rfl _ rfl ?_
        refine x_iload_n 93 hK rfl rfl (lk1_n lk1_s (by decide) (Or.inl rfl)) ?_
        refine x_istore 95 hK rfl rfl _ rfl ?_
        refine x_iinc 98 hK rfl rfl (lk1_n (lk1_n (lk1_n l5 (by decide) (Or.inl rfl)) (by decide) (Or.inl rfl)) (by decide) (Or.inl rfl)) _ rfl ?_
        refine x_goto 56 hK rfl rfl ?_
        have bz : bsF (uF (pcF (fun k : Int => gi h 134 k.toNat) (lcF (gi h 134) 24))) k.toNat = (k, (uF (pcF (fun k : Int => gi h 134 k.toNat) (lcF (gi h 134) 24))) k.toNat) := bs.trans (if_pos (by rw [← ee]; omega))
        exact ih _ (by omega) ((uF (pcF (fun k : Int => gi h 134 k.toNat) (lcF (gi h 134) 24))) k.toNat) k ((uF (pcF (fun k : Int => gi h 134 k.toNat) (lcF (gi h 134) 24))) k.toNat) (k + 1) _ _ rfl (s1) (z1) (by omega) (by rw [show k + 1 - 1 = k by omega]) (by rw [show k + 1 - 1 = k by omega, bz]) (by rw [show k + 1 - 1 = k by omega, bz]) (tb) (lk1_n (lk1_n (lk1_n (lk1_n l0 (by decide) (Or.inl rfl)) (by decide) (Or.inl rfl)) (by decide) (Or.inl rfl)) (by decide) (Or.inl rfl)) (lk1_n (lk1_n (lk1_n (lk1_n l1 (by decide) (Or.inl rfl)) (by decide) (Or.inl rfl)) (by decide) (Or.inl rfl)) (by decide) (Or.inl rfl)) (lk1_n (lk1_n (lk1_n lk1_s (by decide) (Or.inl rfl)) (by decide) (Or.inl rfl)) (by decide) (Or.inl rfl)) (lk1_n (lk1_n lk1_s (by decide) (Or.inl rfl)) (by decide) (Or.inl rfl)) (lk1_n lk1_s (by decide) (Or.inl rfl)) lk1_s (hG4) (hF4)
  refine x_aload_n 1 hK rfl rfl rfl ?_
  refine x_getR 4 hK rfl rfl (sp_0 (h := h) hG) (rf_0_14 (h := h) hG) ?_
  have g687 := gri (0) (12) hG (a := 133) (r := 47) (k := 0) rfl rfl
  refine x_getE 7 hK rfl (Or.inl rfl) rfl (sp_133 (h := h) hG) (e := (gi h 133 0)) (rfl) ?_
  refine x_if_ne 13 10 hK rfl rfl rfl (by omega) (fun c4 => ?_) (fun c4 => ?_)
  · refine x_aload_n 14 hK rfl rfl rfl ?_
    refine x_getR 17 hK rfl rfl (sp_0 (h := h) hG) (rf_0_14 (h := h) hG) ?_
    refine x_callV 20 hK hmono rfl rfl [.ref 133] [] rfl rfl (Nat.le_of_ble_eq_true rfl) (Nat.le_of_ble_eq_true rfl) rfl (sp_133 (h := h) hG) (CLd_le (Nat.le_of_ble_eq_true rfl) (ctX7_lastStep hSP hG)) ?_
    rintro v9 h9 ⟨e9, rfl⟩
    rw [e9]
    clear e9
    have lb688 := lcF_b (gi h 134) 24
    refine x_istore_n 21 hK rfl rfl [(1, .int (I (lcF (gi h 134) 24))), (0, .ref 0)] rfl ?_
    refine x_aload_n 22 hK rfl rfl rfl ?_
    refine x_getR 25 hK rfl rfl (sp_0 (h := h) hG) (rf_0_14 (h := h) hG) ?_
    refine x_iload_n 26 hK rfl rfl rfl ?_
    refine x_callV 29 hK hmono rfl rfl [.ref 133, .int (I (lcF (gi h 134) 24))] [] rfl rfl (Nat.le_of_ble_eq_true rfl) (Nat.le_of_ble_eq_true rfl) rfl (sp_133 (h := h) hG) (CLd_le (Nat.le_of_ble_eq_true rfl) (ctX7_countWays hSP hG (last := (lcF (gi h 134) 24)) hP (by omega))) ?_
    rintro v2 h2 ⟨rfl, hG2, hF2, tb⟩
    refine x_bipush 31 hK rfl rfl rfl ?_
    refine x_aload_n 32 hK rfl rfl rfl ?_
    refine x_getR 35 hK rfl rfl (sp_0 (h := h2) hG2) (rf_0_14 (h := h2) hG2) ?_
    refine x_iconst 36 hK rfl rfl ?_
    refine x_callV 39 hK hmono rfl rfl [.ref 133, .int (I 0)] [.int (I 16)] rfl rfl (Nat.le_of_ble_eq_true rfl) (Nat.le_of_ble_eq_true rfl) rfl (sp_133 (h := h2) hG2) (CLd_le (Nat.le_of_ble_eq_true rfl) (ctX7_possible hSP hG2 (s := (0 : Int)) (PT_F hF2 (by decide) hP) (by omega))) ?_
    rintro v9 h9 ⟨e9, rfl⟩
    rw [e9]
    clear e9
    rw [show psF (fun i : Nat => gj h2 (136 + (0 : Int).toNat) i) 9 = (pcF (fun k : Int => gi h 134 k.toNat) (lcF (gi h 134) 24)) 0 from ps_ext 9 fun i hi => by
          have z := tb (0 : Int) (i : Int) (by omega) (by omega) (by omega) (by omega) (Or.inl (by omega))
          have z : gj h2 (136 + (0 : Int).toNat) i = _ := z
          rw [z]
          show 0 < cwF (fun k : Int => gi h 134 k.toNat) (lcF (gi h 134) 24) ((lcF (gi h 134) 24) - (0 : Int)).toNat (i : Int) ↔ 0 < cwF (fun k : Int => gi h 134 k.toNat) (lcF (gi h 134) 24) ((lcF (gi h 134) 24) - ((0 : Nat) : Int)).toNat (i : Int)
          rw [show (((0 : Nat) : Int)) = (0 : Int) by omega]]
    have g690 := bAnd_r 16 ((pcF (fun k : Int => gi h 134 k.toNat) (lcF (gi h 134) 24)) 0)
    refine x_iandF 40 hK rfl rfl ?_
    change K 40 _ (.int (I ((uF (pcF (fun k : Int => gi h 134 k.toNat) (lcF (gi h 134) 24))) 0)) :: _) _ _ _
    have ub0 := ub 0
    have bb0 := bb 0
    refine x_istore_n 41 hK rfl rfl [(2, .int (I ((uF (pcF (fun k : Int => gi h 134 k.toNat) (lcF (gi h 134) 24))) 0))), (1, .int (I (lcF (gi h 134) 24))), (0, .ref 0)] rfl ?_
    refine x_iload_n 42 hK rfl rfl rfl ?_
    refine x_if_ne 48 45 hK rfl rfl rfl (by omega) (fun c22 => ?_) (fun c22 => ?_)
    · refine x_iconst 49 hK rfl rfl ?_
      refine x_istore_n 50 hK rfl rfl [(3, .int (I 0)), (2, .int (I ((uF (pcF (fun k : Int => gi h 134 k.toNat) (lcF (gi h 134) 24))) 0))), (1, .int (I (lcF (gi h 134) 24))), (0, .ref 0)] rfl ?_
      refine x_iload_n 51 hK rfl rfl rfl ?_
      refine x_istore 53 hK rfl rfl [(4, .int (I ((uF (pcF (fun k : Int => gi h 134 k.toNat) (lcF (gi h 134) 24))) 0))), (3, .int (I 0)), (2, .int (I ((uF (pcF (fun k : Int => gi h 134 k.toNat) (lcF (gi h 134) 24))) 0))), (1, .int (I (lcF (gi h 134) 24))), (0, .ref 0)] rfl ?_
      refine x_iconst 54 hK rfl rfl ?_
      refine x_istore 56 hK rfl rfl [(5, .int (I 1)), (4, .int (I ((uF (pcF (fun k : Int => gi h 134 k.toNat) (lcF (gi h 134) 24))) 0))), (3, .int (I 0)), (2, .int (I ((uF (pcF (fun k : Int => gi h 134 k.toNat) (lcF (gi h 134) 24))) 0))), (1, .int (I (lcF (gi h 134) 24))), (0, .ref 0)] rfl ?_
      exact loop _ ((uF (pcF (fun k : Int => gi h 134 k.toNat) (lcF (gi h 134) 24))) 0) 0 ((uF (pcF (fun k : Int => gi h 134 k.toNat) (lcF (gi h 134) 24))) 0) 1 _ _ rfl (by omega) (by omega) (by omega) (rfl) (rfl) (rfl) (tb) rfl rfl rfl rfl rfl rfl (hG2) (hF2)
    · refine x_bipush 47 hK rfl rfl rfl ?_
      exact x_iret hK rfl ⟨Or.inr (Or.inl ⟨by omega, by omega, rfl, crow_F hF2 rfl rfl⟩), hG2, (hF2).mono rfl⟩
  · refine x_bipush 12 hK rfl rfl rfl ?_
    exact x_iret hK rfl ⟨Or.inl ⟨by omega, rfl, rfl⟩, hG, (FRM.rf : FRM gRL [(0, 3, 1, 1), (1, 4, 0, 29), (1, 50, 0, 8)] h h)⟩
set_option maxRecDepth 4000 in
theorem ctX11_unsureF {SP : CT} (hSP : MONO SP) {sh : List (Nat × Nat)} {h : aH} (hG : GD gE gRL sh h) : CLd SP 5 mX11_unsure [.ref 171] h 0 0 (fun rv h' => ((gi h 171 42 = 0 ∧ rv = some (.int (I (-2))) ∧ mrow h' = mrow h) ∨ (0 < gi h 171 42 ∧ ¬ 0 < sMn (fun k => snF (gi h 193) (gi h 194) k (gi h 171 42).toNat) (lsF (gi h 193) (gi h 171 42).toNat) (lsF (gi h 193) (gi h 171 42).toNat).toNat 4 ∧ rv = some (.int (I (-2))) ∧ mrow h' = mrow h) ∨ (0 < gi h 171 42 ∧ 0 < sMn (fun k => snF (gi h 193) (gi h 194) k (gi h 171 42).toNat) (lsF (gi h 193) (gi h 171 42).toNat) (lsF (gi h 193) (gi h 171 42).toNat).toNat 4 ∧ rv = some (.int (I (bsF (uF (pmF (fun k => snF (gi h 193) (gi h 194) k (gi h 171 42).toNat) (lsF (gi h 193) (gi h 171 42).toNat))) (lsF (gi h 193) (gi h 171 42).toNat).toNat).1)) ∧ mrow h' = [(bsF (uF (pmF (fun k => snF (gi h 193) (gi h 194) k (gi h 171 42).toNat) (lsF (gi h 193) (gi h 171 42).toNat))) (lsF (gi h 193) (gi h 171 42).toNat).toNat).2])) ∧ GD gE gRL sh h' ∧ FRM gRL [(0, 54, 0, 0), (0, 54, 1, 1), (0, 78, 0, 224), (0, 79, 0, 224), (0, 80, 0, 224), (1, 55, 0, 39)] h h' ∧ gi h' 171 0 = 0) := by
  refine x_met _ rfl (Nat.le_of_ble_eq_true rfl) (fun K hK => ?_)
  have hmono := MONO_CLd hSP 4
  have g42 := gri 0 12 hG (a := 171) (r := 54) (k := 42) rfl rfl
  have lb := last_b hG
  have mb := sMn_b (fun k => snF (gi h 193) (gi h 194) k (gi h 171 42).toNat) (lsF (gi h 193) (gi h 171 42).toNat)
  have ub := uF_b (pmF (fun k => snF (gi h 193) (gi h 194) k (gi h 171 42).toNat) (lsF (gi h 193) (gi h 171 42).toNat))
  have bb := bsF_b (U := (uF (pmF (fun k => snF (gi h 193) (gi h 194) k (gi h 171 42).toNat) (lsF (gi h 193) (gi h 171 42).toNat)))) ub
  have z0 : bcF 0 = 0 := by decide +kernel
  have z16 : bcF 16 = 1 := by decide +kernel
  have loopK : ∀ (mz : Nat) (b e k : Int) (h3 : aH) (ls : List (Nat × Value)), (((lsF (gi h 193) (gi h 171 42).toNat) + 1 - k).toNat = mz) → (0 < gi h 171 42) → (0 ≤ k ∧ k ≤ (lsF (gi h 193) (gi h 171 42).toNat) + 1) → ((-2 ≤ b ∧ b ≤ 24) ∧ 0 ≤ e ∧ e ≤ 511) → (1 ≤ k → 0 < sMn (fun k => snF (gi h 193) (gi h 194) k (gi h 171 42).toNat) (lsF (gi h 193) (gi h 171 42).toNat) (lsF (gi h 193) (gi h 171 42).toNat).toNat 4) → ((k = 0 ∧ b = -2 ∧ e = 0) ∨ (1 ≤ k ∧ b = (bsF (uF (pmF (fun k => snF (gi h 193) (gi h 194) k (gi h 171 42).toNat) (lsF (gi h 193) (gi h 171 42).toNat))) (k - 1).toNat).1 ∧ e = (bsF (uF (pmF (fun k => snF (gi h 193) (gi h 194) k (gi h 171 42).toNat) (lsF (gi h 193) (gi h 171 42).toNat))) (k - 1).toNat).2)) → (TBL (fun k => snF (gi h 193) (gi h 194) k (gi h 171 42).toNat) (lsF (gi h 193) (gi h 171 42).toNat) h3 (-1) 0) → (gi h3 171 0 = 0) → (mrow h3 = mrow h) → (∀ k' l' : Int, 0 ≤ k' → 0 ≤ l' → l' ≤ 8 → (k' < k ∨ (k' = k ∧ l' < 0)) → gi h3 197 (9 * k' + l').toNat = b2i (gb ((uF (pmF (fun k => snF (gi h 193) (gi h 194) k (gi h 171 42).toNat) (lsF (gi h 193) (gi h 171 42).toNat))) k'.toNat) l'.toNat)) → lk ls 0 = some (.ref 171) → lk ls 1 = some (.int (I (lsF (gi h 193) (gi h 171 42).toNat))) → lk ls 2 = some (.int (I b)) → lk ls 3 = some (.int (I e)) → lk ls 4 = some (.int (I k)) → GD gE gRL sh h3 → FRM gRL [(0, 54, 0, 0), (0, 54, 1, 1), (0, 78, 0, 224), (0, 79, 0, 224), (0, 80, 0, 224), (1, 55, 0, 39)] h h3 → K 30 ls [] h3 0 0 := by
    intro mz
    induction mz using Nat.strongRecOn with
    | ind mz ih =>
    intro b e k h3 ls hm s1 k0 rb fp be tb3 t3 m3 rt3 l0 l1 l2 l3 l4 hG3 hF3
    have ihK := ih
    have a4 : gi h3 196 4 = if 0 < sMn (fun k => snF (gi h 193) (gi h 194) k (gi h 171 42).toNat) (lsF (gi h 193) (gi h 171 42).toNat) (lsF (gi h 193) (gi h 171 42).toNat).toNat 4 then 1 else 0 := by have z := (tb3 0 4 (by omega) (by omega) (by omega) (by omega) (Or.inl (by omega))).2; rw [show (lsF (gi h 193) (gi h 171 42).toNat) - 0 = (lsF (gi h 193) (gi h 171 42).toNat) by omega] at z; exact z
    have a4b : gi h3 196 4 = 0 ∨ gi h3 196 4 = 1 := by rw [a4]; split <;> omega
    have bb1 := bb (k - 1).toNat
    have bbk := bb k.toNat
    have ubk := ub k.toNat
    have ub1 := ub (k - 1).toNat
    have loopL : ∀ (mz : Nat) (s l : Int) (h5 : aH) (ls : List (Nat × Value)), ((9 - l).toNat = mz) → (k ≤ (lsF (gi h 193) (gi h 171 42).toNat)) → (0 < sMn (fun k => snF (gi h 193) (gi h 194) k (gi h 171 42).toNat) (lsF (gi h 193) (gi h 171 42).toNat) (lsF (gi h 193) (gi h 171 42).toNat).toNat 4) → (0 ≤ l ∧ l ≤ 9) → (0 ≤ s ∧ s ≤ 511) → (s = psF (fun i => b2i (gb ((uF (pmF (fun k => snF (gi h 193) (gi h 194) k (gi h 171 42).toNat) (lsF (gi h 193) (gi h 171 42).toNat))) k.toNat) i)) l.toNat) → (TBL (fun k => snF (gi h 193) (gi h 194) k (gi h 171 42).toNat) (lsF (gi h 193) (gi h 171 42).toNat) h5 (-1) 0) → (gi h5 171 0 = 0) → (mrow h5 = mrow h) → (∀ k' l' : Int, 0 ≤ k' → 0 ≤ l' → l' ≤ 8 → (k' < k ∨ (k' = k ∧ l' < l)) → gi h5 197 (9 * k' + l').toNat = b2i (gb ((uF (pmF (fun k => snF (gi h 193) (gi h 194) k (gi h 171 42).toNat) (lsF (gi h 193) (gi h 171 42).toNat))) k'.toNat) l'.toNat)) → lk ls 0 = some (.ref 171) → lk ls 1 = some (.int (I (lsF (gi h 193) (gi h 171 42).toNat))) → lk ls 2 = some (.int (I b)) → lk ls 3 = some (.int (I e)) → lk ls 4 = some (.int (I k)) → lk ls 5 = some (.int (I s)) → lk ls 6 = some (.int (I l)) → GD gE gRL sh h5 → FRM gRL [(0, 54, 0, 0), (0, 54, 1, 1), (0, 78, 0, 224), (0, 79, 0, 224), (0, 80, 0, 224), (1, 55, 0, 39)] h h5 → K 51 ls [] h5 0 0 := by
      intro mz
      induction mz using Nat.strongRecOn with
      | ind mz ih =>
      intro s l h5 ls hm k1 f4 lq0 sb ss tb5 t5 m5 rt5 l0 l1 l2 l3 l4 l5 l6 hG5 hF5
      have ihL := ih
      have az : l ≤ 8 → gi h5 196 ((9 * k) + l).toNat = if 0 < sMn (fun k => snF (gi h 193) (gi h 194) k (gi h 171 42).toNat) (lsF (gi h 193) (gi h 171 42).toNat) ((lsF (gi h 193) (gi h 171 42).toNat) - k).toNat l then 1 else 0 := fun z => (tb5 k l (by omega) (by omega) z (by omega) (Or.inl (by omega))).2
      have mbl := mb ((lsF (gi h 193) (gi h 171 42).toNat) - k).toNat l
      have loopO : ∀ (mz : Nat) (i o : Int) (ls : List (Nat × Value)), ((9 - o).toNat = mz) → (l ≤ 8) → (0 ≤ o ∧ o ≤ 9) → (0 ≤ i ∧ i ≤ 1) → ((k = 0 ∧ o = 0 ∧ ((l = 4 ∧ i = 1) ∨ (l ≠ 4 ∧ i = 0))) ∨ (1 ≤ k ∧ i = b2i (isN ((uF (pmF (fun k => snF (gi h 193) (gi h 194) k (gi h 171 42).toNat) (lsF (gi h 193) (gi h 171 42).toNat))) (k - 1).toNat) l o.toNat))) → lk ls 0 = some (.ref 171) → lk ls 1 = some (.int (I (lsF (gi h 193) (gi h 171 42).toNat))) → lk ls 2 = some (.int (I b)) → lk ls 3 = some (.int (I e)) → lk ls 4 = some (.int (I k)) → lk ls 5 = some (.int (I s)) → lk ls 6 = some (.int (I l)) → lk ls 7 = some (.int (I i)) → lk ls 8 = some (.int (I o)) → K 79 ls [] h5 0 0 := by
        intro mz
        induction mz using Nat.strongRecOn with
        | ind mz ih =>
        intro i o ls hm lq1 o0 i0 ie l0 l1 l2 l3 l4 l5 l6 l7 l8
        have rz : 1 ≤ k → o ≤ 8 → gi h5 197 ((9 * (k - 1)) + o).toNat = (b2i (gb ((uF (pmF (fun k => snF (gi h 193) (gi h 194) k (gi h 171 42).toNat) (lsF (gi h 193) (gi h 171 42).toNat))) (k - 1).toNat) o.toNat)) := fun z1 z2 => rt5 (k - 1) o (by omega) (by omega) z2 (Or.inl (by omega))
        have gbr := b2i_r (gb ((uF (pmF (fun k => snF (gi h 193) (gi h 194) k (gi h 171 42).toNat) (lsF (gi h 193) (gi h 171 42).toNat))) (k - 1).toNat) o.toNat)
        have isr := b2i_r (isN ((uF (pmF (fun k => snF (gi h 193) (gi h 194) k (gi h 171 42).toNat) (lsF (gi h 193) (gi h 171 42).toNat))) (k - 1).toNat) l o.toNat)
        have azl := az lq1
        refine x_iload 81 hK rfl rfl l8 ?_
        refine x_bipush 83 hK rfl rfl rfl ?_
        refine x_if_icmp_ge 158 86 hK rfl rfl rfl (by omega) (by omega) (fun c3 => ?_) (fun c3 => ?_)
        · refine x_aload_n 159 hK rfl rfl l0 ?_
          refine x_getR 162 hK rfl rfl (sp_171 (h := h5) hG5) (rf_171_47 (h := h5) hG5) ?_
          refine x_bipush 164 hK rfl rfl rfl ?_
          refine x_iload 166 hK rfl rfl l4 ?_
          refine x_imul 167 hK rfl rfl ?_
          refine x_iload 169 hK rfl rfl l6 ?_
          refine x_iadd 170 hK rfl rfl ?_
          refine x_iload 172 hK rfl rfl l7 ?_
          refine x_if_eq 195 175 hK rfl rfl rfl (by omega) (fun c12 => ?_) (fun c12 => ?_)
          · refine x_iconst 196 hK rfl rfl ?_
            refine x_bastore 197 hK rfl rfl (sp_197 (h := h5) hG5) (by omega) (by omega) (by omega) (by omega) ?_
            refine x_iload 199 hK rfl rfl l5 ?_
            refine x_aload_n 200 hK rfl rfl l0 ?_
            refine x_getR 203 hK rfl rfl (sp_171 (h := h5) hG5) (rf_171_47 (h := h5) hG5) ?_
            refine x_bipush 205 hK rfl rfl rfl ?_
            refine x_iload 207 hK rfl rfl l4 ?_
            refine x_imul 208 hK rfl rfl ?_
            refine x_iload 210 hK rfl rfl l6 ?_
            refine x_iadd 211 hK rfl rfl ?_
            refine x_baloadE 212 hK rfl rfl (sp_197 (h := h5) hG5) (by omega) (by omega) (by omega) (e' := 0) (gi_same (by omega)) ?_
            refine x_if_eq 222 215 hK rfl rfl rfl (by omega) (fun _ => ?_) (fun c => by omega)
            refine x_iconst 223 hK rfl rfl ?_
            have g691 := bOr_r s 0
            refine x_iorF 224 hK rfl rfl ?_
            refine x_istore 226 hK rfl rfl _ rfl ?_
            refine x_iinc 229 hK rfl rfl (lk1_n l6 (by decide) (Or.inl rfl)) _ rfl ?_
            refine x_goto 51 hK rfl rfl ?_
            have ie2 : (k = 0 ∧ ((l = 4 ∧ i = 1) ∨ (l ≠ 4 ∧ i = 0))) ∨ (1 ≤ k ∧ i = b2i (isN ((uF (pmF (fun k => snF (gi h 193) (gi h 194) k (gi h 171 42).toNat) (lsF (gi h 193) (gi h 171 42).toNat))) (k - 1).toNat) l 9)) := by
              rcases ie with ⟨y1, y2, y3⟩ | ⟨y1, y2⟩
              · exact Or.inl ⟨y1, y3⟩
              · refine Or.inr ⟨y1, ?_⟩
                rw [show o.toNat = 9 by omega] at y2
                exact y2
            have gv : b2i (gb ((uF (pmF (fun k => snF (gi h 193) (gi h 194) k (gi h 171 42).toNat) (lsF (gi h 193) (gi h 171 42).toNat))) k.toNat) l.toNat) = 0 := gU_0 k0.1 (by omega) (by omega)
            have rn : ∀ k' l' : Int, 0 ≤ k' → 0 ≤ l' → l' ≤ 8 → (k' < k ∨ (k' = k ∧ l' < (l + 1))) → gi (wI h5 197 ((9 * k) + l).toNat 0) 197 (9 * k' + l').toNat = b2i (gb ((uF (pmF (fun k => snF (gi h 193) (gi h 194) k (gi h 171 42).toNat) (lsF (gi h 193) (gi h 171 42).toNat))) k'.toNat) l'.toNat) := by
              intro k' l' y1 y2 y3 y4
              by_cases c : k' = k ∧ l' = l
              · obtain ⟨rfl, rfl⟩ := c
                exact (gi_same (by omega)).trans gv.symm
              · exact (gi_k (by omega) _).trans (rt5 k' l' y1 y2 y3 (by omega))
            have se : psF (fun i => b2i (gb ((uF (pmF (fun k => snF (gi h 193) (gi h 194) k (gi h 171 42).toNat) (lsF (gi h 193) (gi h 171 42).toNat))) k.toNat) i)) (l + 1).toNat = (bOr s 0) := by
              rw [psF_s lq0.1, ← ss]
              show bOr s (if 0 < b2i (gb ((uF (pmF (fun k => snF (gi h 193) (gi h 194) k (gi h 171 42).toNat) (lsF (gi h 193) (gi h 171 42).toNat))) k.toNat) l.toNat) then bShl 1 l else 0) = _
              rw [gv]
              rfl
            have pbn := (psF_b (g := fun i => b2i (gb ((uF (pmF (fun k => snF (gi h 193) (gi h 194) k (gi h 171 42).toNat) (lsF (gi h 193) (gi h 171 42).toNat))) k.toNat) i)) (l + 1).toNat (by omega)).1
            exact ihL _ (by omega) (bOr s 0) (l + 1) _ _ rfl (k1) (f4) (by omega) (by rw [← se]; exact pbn) (se.symm) ((fun a b c d e f => by rw [show gi (wI h5 197 ((9 * k) + l).toNat 0) 195 _ = gi h5 195 _ from gi_a (by decide) _, show gi (wI h5 197 ((9 * k) + l).toNat 0) 196 _ = gi h5 196 _ from gi_a (by decide) _]; exact tb5 a b c d e f)) ((gi_a (by decide) _).trans (t5)) ((mrow_a (by decide)).trans (m5)) (rn) (lk1_n (lk1_n l0 (by decide) (Or.inl rfl)) (by decide) (Or.inl rfl)) (lk1_n (lk1_n l1 (by decide) (Or.inl rfl)) (by decide) (Or.inl rfl)) (lk1_n (lk1_n l2 (by decide) (Or.inl rfl)) (by decide) (Or.inl rfl)) (lk1_n (lk1_n l3 (by decide) (Or.inl rfl)) (by decide) (Or.inl rfl)) (lk1_n (lk1_n l4 (by decide) (Or.inl rfl)) (by decide) (Or.inl rfl)) (lk1_n lk1_s (by decide) (Or.inl rfl)) lk1_s (GD_wu (hG5) (r := 80) rfl (by omega) rfl (by omega) (by omega)) (FRM_wn 0 224 (hF5) (r := 80) rfl rfl rfl (by omega) (by omega))
          · refine x_aload_n 176 hK rfl rfl l0 ?_
            refine x_getR 179 hK rfl rfl (sp_171 (h := h5) hG5) (rf_171_46 (h := h5) hG5) ?_
            refine x_bipush 181 hK rfl rfl rfl ?_
            refine x_iload 183 hK rfl rfl l4 ?_
            refine x_imul 184 hK rfl rfl ?_
            refine x_iload 186 hK rfl rfl l6 ?_
            refine x_iadd 187 hK rfl rfl ?_
            refine x_baloadE 188 hK rfl rfl (sp_196 (h := h5) hG5) (by omega) (by omega) (by omega) (e' := (if 0 < sMn (fun k => snF (gi h 193) (gi h 194) k (gi h 171 42).toNat) (lsF (gi h 193) (gi h 171 42).toNat) ((lsF (gi h 193) (gi h 171 42).toNat) - k).toNat l then 1 else 0)) (azl) ?_
            refine x_if_eq 195 191 hK rfl rfl rfl (by omega) (fun c39 => ?_) (fun c39 => ?_)
            · refine x_iconst 196 hK rfl rfl ?_
              refine x_bastore 197 hK rfl rfl (sp_197 (h := h5) hG5) (by omega) (by omega) (by omega) (by omega) ?_
              refine x_iload 199 hK rfl rfl l5 ?_
              refine x_aload_n 200 hK rfl rfl l0 ?_
              refine x_getR 203 hK rfl rfl (sp_171 (h := h5) hG5) (rf_171_47 (h := h5) hG5) ?_
              refine x_bipush 205 hK rfl rfl rfl ?_
              refine x_iload 207 hK rfl rfl l4 ?_
              refine x_imul 208 hK rfl rfl ?_
              refine x_iload 210 hK rfl rfl l6 ?_
              refine x_iadd 211 hK rfl rfl ?_
              refine x_baloadE 212 hK rfl rfl (sp_197 (h := h5) hG5) (by omega) (by omega) (by omega) (e' := 0) (gi_same (by omega)) ?_
              refine x_if_eq 222 215 hK rfl rfl rfl (by omega) (fun _ => ?_) (fun c => by omega)
              refine x_iconst 223 hK rfl rfl ?_
              have g692 := bOr_r s 0
              refine x_iorF 224 hK rfl rfl ?_
              refine x_istore 226 hK rfl rfl _ rfl ?_
              refine x_iinc 229 hK rfl rfl (lk1_n l6 (by decide) (Or.inl rfl)) _ rfl ?_
              refine x_goto 51 hK rfl rfl ?_
              have ie2 : (k = 0 ∧ ((l = 4 ∧ i = 1) ∨ (l ≠ 4 ∧ i = 0))) ∨ (1 ≤ k ∧ i = b2i (isN ((uF (pmF (fun k => snF (gi h 193) (gi h 194) k (gi h 171 42).toNat) (lsF (gi h 193) (gi h 171 42).toNat))) (k - 1).toNat) l 9)) := by
                rcases ie with ⟨y1, y2, y3⟩ | ⟨y1, y2⟩
                · exact Or.inl ⟨y1, y3⟩
                · refine Or.inr ⟨y1, ?_⟩
                  rw [show o.toNat = 9 by omega] at y2
                  exact y2
              have gv : b2i (gb ((uF (pmF (fun k => snF (gi h 193) (gi h 194) k (gi h 171 42).toNat) (lsF (gi h 193) (gi h 171 42).toNat))) k.toNat) l.toNat) = 0 := gU_0 k0.1 (by omega) (by omega)
              have rn : ∀ k' l' : Int, 0 ≤ k' → 0 ≤ l' → l' ≤ 8 → (k' < k ∨ (k' = k ∧ l' < (l + 1))) → gi (wI h5 197 ((9 * k) + l).toNat 0) 197 (9 * k' + l').toNat = b2i (gb ((uF (pmF (fun k => snF (gi h 193) (gi h 194) k (gi h 171 42).toNat) (lsF (gi h 193) (gi h 171 42).toNat))) k'.toNat) l'.toNat) := by
                intro k' l' y1 y2 y3 y4
                by_cases c : k' = k ∧ l' = l
                · obtain ⟨rfl, rfl⟩ := c
                  exact (gi_same (by omega)).trans gv.symm
                · exact (gi_k (by omega) _).trans (rt5 k' l' y1 y2 y3 (by omega))
              have se : psF (fun i => b2i (gb ((uF (pmF (fun k => snF (gi h 193) (gi h 194) k (gi h 171 42).toNat) (lsF (gi h 193) (gi h 171 42).toNat))) k.toNat) i)) (l + 1).toNat = (bOr s 0) := by
                rw [psF_s lq0.1, ← ss]
                show bOr s (if 0 < b2i (gb ((uF (pmF (fun k => snF (gi h 193) (gi h 194) k (gi h 171 42).toNat) (lsF (gi h 193) (gi h 171 42).toNat))) k.toNat) l.toNat) then bShl 1 l else 0) = _
                rw [gv]
                rfl
              have pbn := (psF_b (g := fun i => b2i (gb ((uF (pmF (fun k => snF (gi h 193) (gi h 194) k (gi h 171 42).toNat) (lsF (gi h 193) (gi h 171 42).toNat))) k.toNat) i)) (l + 1).toNat (by omega)).1
              exact ihL _ (by omega) (bOr s 0) (l + 1) _ _ rfl (k1) (f4) (by omega) (by rw [← se]; exact pbn) (se.symm) ((fun a b c d e f => by rw [show gi (wI h5 197 ((9 * k) + l).toNat 0) 195 _ = gi h5 195 _ from gi_a (by decide) _, show gi (wI h5 197 ((9 * k) + l).toNat 0) 196 _ = gi h5 196 _ from gi_a (by decide) _]; exact tb5 a b c d e f)) ((gi_a (by decide) _).trans (t5)) ((mrow_a (by decide)).trans (m5)) (rn) (lk1_n (lk1_n l0 (by decide) (Or.inl rfl)) (by decide) (Or.inl rfl)) (lk1_n (lk1_n l1 (by decide) (Or.inl rfl)) (by decide) (Or.inl rfl)) (lk1_n (lk1_n l2 (by decide) (Or.inl rfl)) (by decide) (Or.inl rfl)) (lk1_n (lk1_n l3 (by decide) (Or.inl rfl)) (by decide) (Or.inl rfl)) (lk1_n (lk1_n l4 (by decide) (Or.inl rfl)) (by decide) (Or.inl rfl)) (lk1_n lk1_s (by decide) (Or.inl rfl)) lk1_s (GD_wu (hG5) (r := 80) rfl (by omega) rfl (by omega) (by omega)) (FRM_wn 0 224 (hF5) (r := 80) rfl rfl rfl (by omega) (by omega))
            · refine x_iconst 192 hK rfl rfl ?_
              refine x_goto 196 hK rfl rfl ?_
              refine x_bastore 197 hK rfl rfl (sp_197 (h := h5) hG5) (by omega) (by omega) (by omega) (by omega) ?_
              refine x_iload 199 hK rfl rfl l5 ?_
              refine x_aload_n 200 hK rfl rfl l0 ?_
              refine x_getR 203 hK rfl rfl (sp_171 (h := h5) hG5) (rf_171_47 (h := h5) hG5) ?_
              refine x_bipush 205 hK rfl rfl rfl ?_
              refine x_iload 207 hK rfl rfl l4 ?_
              refine x_imul 208 hK rfl rfl ?_
              refine x_iload 210 hK rfl rfl l6 ?_
              refine x_iadd 211 hK rfl rfl ?_
              refine x_baloadE 212 hK rfl rfl (sp_197 (h := h5) hG5) (by omega) (by omega) (by omega) (e' := 1) (gi_same (by omega)) ?_
              refine x_if_eq 222 215 hK rfl rfl rfl (by omega) (fun c => by omega) (fun _ => ?_)
              refine x_iconst 216 hK rfl rfl ?_
              refine x_iload 218 hK rfl rfl l6 ?_
              have g693 := bShl_r 1 l
              refine x_ishlF 219 hK rfl rfl ?_
              refine x_goto 223 hK rfl rfl ?_
              have g694 := bOr_r s (bShl 1 l)
              refine x_iorF 224 hK rfl rfl ?_
              refine x_istore 226 hK rfl rfl _ rfl ?_
              refine x_iinc 229 hK rfl rfl (lk1_n l6 (by decide) (Or.inl rfl)) _ rfl ?_
              refine x_goto 51 hK rfl rfl ?_
              have ie2 : (k = 0 ∧ ((l = 4 ∧ i = 1) ∨ (l ≠ 4 ∧ i = 0))) ∨ (1 ≤ k ∧ i = b2i (isN ((uF (pmF (fun k => snF (gi h 193) (gi h 194) k (gi h 171 42).toNat) (lsF (gi h 193) (gi h 171 42).toNat))) (k - 1).toNat) l 9)) := by
                rcases ie with ⟨y1, y2, y3⟩ | ⟨y1, y2⟩
                · exact Or.inl ⟨y1, y3⟩
                · refine Or.inr ⟨y1, ?_⟩
                  rw [show o.toNat = 9 by omega] at y2
                  exact y2
              have gv : b2i (gb ((uF (pmF (fun k => snF (gi h 193) (gi h 194) k (gi h 171 42).toNat) (lsF (gi h 193) (gi h 171 42).toNat))) k.toNat) l.toNat) = 1 := gU_1 k0.1 (by omega) (by omega) (by omega)
              have rn : ∀ k' l' : Int, 0 ≤ k' → 0 ≤ l' → l' ≤ 8 → (k' < k ∨ (k' = k ∧ l' < (l + 1))) → gi (wI h5 197 ((9 * k) + l).toNat 1) 197 (9 * k' + l').toNat = b2i (gb ((uF (pmF (fun k => snF (gi h 193) (gi h 194) k (gi h 171 42).toNat) (lsF (gi h 193) (gi h 171 42).toNat))) k'.toNat) l'.toNat) := by
                intro k' l' y1 y2 y3 y4
                by_cases c : k' = k ∧ l' = l
                · obtain ⟨rfl, rfl⟩ := c
                  exact (gi_same (by omega)).trans gv.symm
                · exact (gi_k (by omega) _).trans (rt5 k' l' y1 y2 y3 (by omega))
              have se : psF (fun i => b2i (gb ((uF (pmF (fun k => snF (gi h 193) (gi h 194) k (gi h 171 42).toNat) (lsF (gi h 193) (gi h 171 42).toNat))) k.toNat) i)) (l + 1).toNat = (bOr s (bShl 1 l)) := by
                rw [psF_s lq0.1, ← ss]
                show bOr s (if 0 < b2i (gb ((uF (pmF (fun k => snF (gi h 193) (gi h 194) k (gi h 171 42).toNat) (lsF (gi h 193) (gi h 171 42).toNat))) k.toNat) l.toNat) then bShl 1 l else 0) = _
                rw [gv]
                rfl
              have pbn := (psF_b (g := fun i => b2i (gb ((uF (pmF (fun k => snF (gi h 193) (gi h 194) k (gi h 171 42).toNat) (lsF (gi h 193) (gi h 171 42).toNat))) k.toNat) i)) (l + 1).toNat (by omega)).1
              exact ihL _ (by omega) (bOr s (bShl 1 l)) (l + 1) _ _ rfl (k1) (f4) (by omega) (by rw [← se]; exact pbn) (se.symm) ((fun a b c d e f => by rw [show gi (wI h5 197 ((9 * k) + l).toNat 1) 195 _ = gi h5 195 _ from gi_a (by decide) _, show gi (wI h5 197 ((9 * k) + l).toNat 1) 196 _ = gi h5 196 _ from gi_a (by decide) _]; exact tb5 a b c d e f)) ((gi_a (by decide) _).trans (t5)) ((mrow_a (by decide)).trans (m5)) (rn) (lk1_n (lk1_n l0 (by decide) (Or.inl rfl)) (by decide) (Or.inl rfl)) (lk1_n (lk1_n l1 (by decide) (Or.inl rfl)) (by decide) (Or.inl rfl)) (lk1_n (lk1_n l2 (by decide) (Or.inl rfl)) (by decide) (Or.inl rfl)) (lk1_n (lk1_n l3 (by decide) (Or.inl rfl)) (by decide) (Or.inl rfl)) (lk1_n (lk1_n l4 (by decide) (Or.inl rfl)) (by decide) (Or.inl rfl)) (lk1_n lk1_s (by decide) (Or.inl rfl)) lk1_s (GD_wu (hG5) (r := 80) rfl (by omega) rfl (by omega) (by omega)) (FRM_wn 0 224 (hF5) (r := 80) rfl rfl rfl (by omega) (by omega))
        · refine x_iload 88 hK rfl rfl l4 ?_
          refine x_if_le 158 91 hK rfl rfl rfl (by omega) (fun c81 => ?_) (fun c81 => ?_)
          · refine x_aload_n 159 hK rfl rfl l0 ?_
            refine x_getR 162 hK rfl rfl (sp_171 (h := h5) hG5) (rf_171_47 (h := h5) hG5) ?_
            refine x_bipush 164 hK rfl rfl rfl ?_
            refine x_iload 166 hK rfl rfl l4 ?_
            refine x_imul 167 hK rfl rfl ?_
            refine x_iload 169 hK rfl rfl l6 ?_
            refine x_iadd 170 hK rfl rfl ?_
            refine x_iload 172 hK rfl rfl l7 ?_
            refine x_if_eq 195 175 hK rfl rfl rfl (by omega) (fun c90 => ?_) (fun c90 => ?_)
            · refine x_iconst 196 hK rfl rfl ?_
              refine x_bastore 197 hK rfl rfl (sp_197 (h := h5) hG5) (by omega) (by omega) (by omega) (by omega) ?_
              refine x_iload 199 hK rfl rfl l5 ?_
              refine x_aload_n 200 hK rfl rfl l0 ?_
              refine x_getR 203 hK rfl rfl (sp_171 (h := h5) hG5) (rf_171_47 (h := h5) hG5) ?_
              refine x_bipush 205 hK rfl rfl rfl ?_
              refine x_iload 207 hK rfl rfl l4 ?_
              refine x_imul 208 hK rfl rfl ?_
              refine x_iload 210 hK rfl rfl l6 ?_
              refine x_iadd 211 hK rfl rfl ?_
              refine x_baloadE 212 hK rfl rfl (sp_197 (h := h5) hG5) (by omega) (by omega) (by omega) (e' := 0) (gi_same (by omega)) ?_
              refine x_if_eq 222 215 hK rfl rfl rfl (by omega) (fun _ => ?_) (fun c => by omega)
              refine x_iconst 223 hK rfl rfl ?_
              have g695 := bOr_r s 0
              refine x_iorF 224 hK rfl rfl ?_
              refine x_istore 226 hK rfl rfl _ rfl ?_
              refine x_iinc 229 hK rfl rfl (lk1_n l6 (by decide) (Or.inl rfl)) _ rfl ?_
              refine x_goto 51 hK rfl rfl ?_
              have ie2 : (k = 0 ∧ ((l = 4 ∧ i = 1) ∨ (l ≠ 4 ∧ i = 0))) ∨ (1 ≤ k ∧ i = b2i (isN ((uF (pmF (fun k => snF (gi h 193) (gi h 194) k (gi h 171 42).toNat) (lsF (gi h 193) (gi h 171 42).toNat))) (k - 1).toNat) l 9)) := by
                rcases ie with ⟨y1, y2, y3⟩ | ⟨y1, y2⟩
                · exact Or.inl ⟨y1, y3⟩
                · refine Or.inr ⟨y1, ?_⟩
                  rw [show o.toNat = 9 by omega] at y2
                  exact y2
              have gv : b2i (gb ((uF (pmF (fun k => snF (gi h 193) (gi h 194) k (gi h 171 42).toNat) (lsF (gi h 193) (gi h 171 42).toNat))) k.toNat) l.toNat) = 0 := gU_0 k0.1 (by omega) (by omega)
              have rn : ∀ k' l' : Int, 0 ≤ k' → 0 ≤ l' → l' ≤ 8 → (k' < k ∨ (k' = k ∧ l' < (l + 1))) → gi (wI h5 197 ((9 * k) + l).toNat 0) 197 (9 * k' + l').toNat = b2i (gb ((uF (pmF (fun k => snF (gi h 193) (gi h 194) k (gi h 171 42).toNat) (lsF (gi h 193) (gi h 171 42).toNat))) k'.toNat) l'.toNat) := by
                intro k' l' y1 y2 y3 y4
                by_cases c : k' = k ∧ l' = l
                · obtain ⟨rfl, rfl⟩ := c
                  exact (gi_same (by omega)).trans gv.symm
                · exact (gi_k (by omega) _).trans (rt5 k' l' y1 y2 y3 (by omega))
              have se : psF (fun i => b2i (gb ((uF (pmF (fun k => snF (gi h 193) (gi h 194) k (gi h 171 42).toNat) (lsF (gi h 193) (gi h 171 42).toNat))) k.toNat) i)) (l + 1).toNat = (bOr s 0) := by
                rw [psF_s lq0.1, ← ss]
                show bOr s (if 0 < b2i (gb ((uF (pmF (fun k => snF (gi h 193) (gi h 194) k (gi h 171 42).toNat) (lsF (gi h 193) (gi h 171 42).toNat))) k.toNat) l.toNat) then bShl 1 l else 0) = _
                rw [gv]
                rfl
              have pbn := (psF_b (g := fun i => b2i (gb ((uF (pmF (fun k => snF (gi h 193) (gi h 194) k (gi h 171 42).toNat) (lsF (gi h 193) (gi h 171 42).toNat))) k.toNat) i)) (l + 1).toNat (by omega)).1
              exact ihL _ (by omega) (bOr s 0) (l + 1) _ _ rfl (k1) (f4) (by omega) (by rw [← se]; exact pbn) (se.symm) ((fun a b c d e f => by rw [show gi (wI h5 197 ((9 * k) + l).toNat 0) 195 _ = gi h5 195 _ from gi_a (by decide) _, show gi (wI h5 197 ((9 * k) + l).toNat 0) 196 _ = gi h5 196 _ from gi_a (by decide) _]; exact tb5 a b c d e f)) ((gi_a (by decide) _).trans (t5)) ((mrow_a (by decide)).trans (m5)) (rn) (lk1_n (lk1_n l0 (by decide) (Or.inl rfl)) (by decide) (Or.inl rfl)) (lk1_n (lk1_n l1 (by decide) (Or.inl rfl)) (by decide) (Or.inl rfl)) (lk1_n (lk1_n l2 (by decide) (Or.inl rfl)) (by decide) (Or.inl rfl)) (lk1_n (lk1_n l3 (by decide) (Or.inl rfl)) (by decide) (Or.inl rfl)) (lk1_n (lk1_n l4 (by decide) (Or.inl rfl)) (by decide) (Or.inl rfl)) (lk1_n lk1_s (by decide) (Or.inl rfl)) lk1_s (GD_wu (hG5) (r := 80) rfl (by omega) rfl (by omega) (by omega)) (FRM_wn 0 224 (hF5) (r := 80) rfl rfl rfl (by omega) (by omega))
            · refine x_aload_n 176 hK rfl rfl l0 ?_
              refine x_getR 179 hK rfl rfl (sp_171 (h := h5) hG5) (rf_171_46 (h := h5) hG5) ?_
              refine x_bipush 181 hK rfl rfl rfl ?_
              refine x_iload 183 hK rfl rfl l4 ?_
              refine x_imul 184 hK rfl rfl ?_
              refine x_iload 186 hK rfl rfl l6 ?_
              refine x_iadd 187 hK rfl rfl ?_
              refine x_baloadE 188 hK rfl rfl (sp_196 (h := h5) hG5) (by omega) (by omega) (by omega) (e' := (if 0 < sMn (fun k => snF (gi h 193) (gi h 194) k (gi h 171 42).toNat) (lsF (gi h 193) (gi h 171 42).toNat) ((lsF (gi h 193) (gi h 171 42).toNat) - k).toNat l then 1 else 0)) (azl) ?_
              refine x_if_eq 195 191 hK rfl rfl rfl (by omega) (fun c117 => ?_) (fun c117 => ?_)
              · refine x_iconst 196 hK rfl rfl ?_
                refine x_bastore 197 hK rfl rfl (sp_197 (h := h5) hG5) (by omega) (by omega) (by omega) (by omega) ?_
                refine x_iload 199 hK rfl rfl l5 ?_
                refine x_aload_n 200 hK rfl rfl l0 ?_
                refine x_getR 203 hK rfl rfl (sp_171 (h := h5) hG5) (rf_171_47 (h := h5) hG5) ?_
                refine x_bipush 205 hK rfl rfl rfl ?_
                refine x_iload 207 hK rfl rfl l4 ?_
                refine x_imul 208 hK rfl rfl ?_
                refine x_iload 210 hK rfl rfl l6 ?_
                refine x_iadd 211 hK rfl rfl ?_
                refine x_baloadE 212 hK rfl rfl (sp_197 (h := h5) hG5) (by omega) (by omega) (by omega) (e' := 0) (gi_same (by omega)) ?_
                refine x_if_eq 222 215 hK rfl rfl rfl (by omega) (fun _ => ?_) (fun c => by omega)
                refine x_iconst 223 hK rfl rfl ?_
                have g696 := bOr_r s 0
                refine x_iorF 224 hK rfl rfl ?_
                refine x_istore 226 hK rfl rfl _ rfl ?_
                refine x_iinc 229 hK rfl rfl (lk1_n l6 (by decide) (Or.inl rfl)) _ rfl ?_
                refine x_goto 51 hK rfl rfl ?_
                have ie2 : (k = 0 ∧ ((l = 4 ∧ i = 1) ∨ (l ≠ 4 ∧ i = 0))) ∨ (1 ≤ k ∧ i = b2i (isN ((uF (pmF (fun k => snF (gi h 193) (gi h 194) k (gi h 171 42).toNat) (lsF (gi h 193) (gi h 171 42).toNat))) (k - 1).toNat) l 9)) := by
                  rcases ie with ⟨y1, y2, y3⟩ | ⟨y1, y2⟩
                  · exact Or.inl ⟨y1, y3⟩
                  · refine Or.inr ⟨y1, ?_⟩
                    rw [show o.toNat = 9 by omega] at y2
                    exact y2
                have gv : b2i (gb ((uF (pmF (fun k => snF (gi h 193) (gi h 194) k (gi h 171 42).toNat) (lsF (gi h 193) (gi h 171 42).toNat))) k.toNat) l.toNat) = 0 := gU_0 k0.1 (by omega) (by omega)
                have rn : ∀ k' l' : Int, 0 ≤ k' → 0 ≤ l' → l' ≤ 8 → (k' < k ∨ (k' = k ∧ l' < (l + 1))) → gi (wI h5 197 ((9 * k) + l).toNat 0) 197 (9 * k' + l').toNat = b2i (gb ((uF (pmF (fun k => snF (gi h 193) (gi h 194) k (gi h 171 42).toNat) (lsF (gi h 193) (gi h 171 42).toNat))) k'.toNat) l'.toNat) := by
                  intro k' l' y1 y2 y3 y4
                  by_cases c : k' = k ∧ l' = l
                  · obtain ⟨rfl, rfl⟩ := c
                    exact (gi_same (by omega)).trans gv.symm
                  · exact (gi_k (by omega) _).trans (rt5 k' l' y1 y2 y3 (by omega))
                have se : psF (fun i => b2i (gb ((uF (pmF (fun k => snF (gi h 193) (gi h 194) k (gi h 171 42).toNat) (lsF (gi h 193) (gi h 171 42).toNat))) k.toNat) i)) (l + 1).toNat = (bOr s 0) := by
                  rw [psF_s lq0.1, ← ss]
                  show bOr s (if 0 < b2i (gb ((uF (pmF (fun k => snF (gi h 193) (gi h 194) k (gi h 171 42).toNat) (lsF (gi h 193) (gi h 171 42).toNat))) k.toNat) l.toNat) then bShl 1 l else 0) = _
                  rw [gv]
                  rfl
                have pbn := (psF_b (g := fun i => b2i (gb ((uF (pmF (fun k => snF (gi h 193) (gi h 194) k (gi h 171 42).toNat) (lsF (gi h 193) (gi h 171 42).toNat))) k.toNat) i)) (l + 1).toNat (by omega)).1
                exact ihL _ (by omega) (bOr s 0) (l + 1) _ _ rfl (k1) (f4) (by omega) (by rw [← se]; exact pbn) (se.symm) ((fun a b c d e f => by rw [show gi (wI h5 197 ((9 * k) + l).toNat 0) 195 _ = gi h5 195 _ from gi_a (by decide) _, show gi (wI h5 197 ((9 * k) + l).toNat 0) 196 _ = gi h5 196 _ from gi_a (by decide) _]; exact tb5 a b c d e f)) ((gi_a (by decide) _).trans (t5)) ((mrow_a (by decide)).trans (m5)) (rn) (lk1_n (lk1_n l0 (by decide) (Or.inl rfl)) (by decide) (Or.inl rfl)) (lk1_n (lk1_n l1 (by decide) (Or.inl rfl)) (by decide) (Or.inl rfl)) (lk1_n (lk1_n l2 (by decide) (Or.inl rfl)) (by decide) (Or.inl rfl)) (lk1_n (lk1_n l3 (by decide) (Or.inl rfl)) (by decide) (Or.inl rfl)) (lk1_n (lk1_n l4 (by decide) (Or.inl rfl)) (by decide) (Or.inl rfl)) (lk1_n lk1_s (by decide) (Or.inl rfl)) lk1_s (GD_wu (hG5) (r := 80) rfl (by omega) rfl (by omega) (by omega)) (FRM_wn 0 224 (hF5) (r := 80) rfl rfl rfl (by omega) (by omega))
              · refine x_iconst 192 hK rfl rfl ?_
                refine x_goto 196 hK rfl rfl ?_
                refine x_bastore 197 hK rfl rfl (sp_197 (h := h5) hG5) (by omega) (by omega) (by omega) (by omega) ?_
                refine x_iload 199 hK rfl rfl l5 ?_
                refine x_aload_n 200 hK rfl rfl l0 ?_
                refine x_getR 203 hK rfl rfl (sp_171 (h := h5) hG5) (rf_171_47 (h := h5) hG5) ?_
                refine x_bipush 205 hK rfl rfl rfl ?_
                refine x_iload 207 hK rfl rfl l4 ?_
                refine x_imul 208 hK rfl rfl ?_
                refine x_iload 210 hK rfl rfl l6 ?_
                refine x_iadd 211 hK rfl rfl ?_
                refine x_baloadE 212 hK rfl rfl (sp_197 (h := h5) hG5) (by omega) (by omega) (by omega) (e' := 1) (gi_same (by omega)) ?_
                refine x_if_eq 222 215 hK rfl rfl rfl (by omega) (fun c => by omega) (fun _ => ?_)
                refine x_iconst 216 hK rfl rfl ?_
                refine x_iload 218 hK rfl rfl l6 ?_
                have g697 := bShl_r 1 l
                refine x_ishlF 219 hK rfl rfl ?_
                refine x_goto 223 hK rfl rfl ?_
                have g698 := bOr_r s (bShl 1 l)
                refine x_iorF 224 hK rfl rfl ?_
                refine x_istore 226 hK rfl rfl _ rfl ?_
                refine x_iinc 229 hK rfl rfl (lk1_n l6 (by decide) (Or.inl rfl)) _ rfl ?_
                refine x_goto 51 hK rfl rfl ?_
                have ie2 : (k = 0 ∧ ((l = 4 ∧ i = 1) ∨ (l ≠ 4 ∧ i = 0))) ∨ (1 ≤ k ∧ i = b2i (isN ((uF (pmF (fun k => snF (gi h 193) (gi h 194) k (gi h 171 42).toNat) (lsF (gi h 193) (gi h 171 42).toNat))) (k - 1).toNat) l 9)) := by
                  rcases ie with ⟨y1, y2, y3⟩ | ⟨y1, y2⟩
                  · exact Or.inl ⟨y1, y3⟩
                  · refine Or.inr ⟨y1, ?_⟩
                    rw [show o.toNat = 9 by omega] at y2
                    exact y2
                have gv : b2i (gb ((uF (pmF (fun k => snF (gi h 193) (gi h 194) k (gi h 171 42).toNat) (lsF (gi h 193) (gi h 171 42).toNat))) k.toNat) l.toNat) = 1 := gU_1 k0.1 (by omega) (by omega) (by omega)
                have rn : ∀ k' l' : Int, 0 ≤ k' → 0 ≤ l' → l' ≤ 8 → (k' < k ∨ (k' = k ∧ l' < (l + 1))) → gi (wI h5 197 ((9 * k) + l).toNat 1) 197 (9 * k' + l').toNat = b2i (gb ((uF (pmF (fun k => snF (gi h 193) (gi h 194) k (gi h 171 42).toNat) (lsF (gi h 193) (gi h 171 42).toNat))) k'.toNat) l'.toNat) := by
                  intro k' l' y1 y2 y3 y4
                  by_cases c : k' = k ∧ l' = l
                  · obtain ⟨rfl, rfl⟩ := c
                    exact (gi_same (by omega)).trans gv.symm
                  · exact (gi_k (by omega) _).trans (rt5 k' l' y1 y2 y3 (by omega))
                have se : psF (fun i => b2i (gb ((uF (pmF (fun k => snF (gi h 193) (gi h 194) k (gi h 171 42).toNat) (lsF (gi h 193) (gi h 171 42).toNat))) k.toNat) i)) (l + 1).toNat = (bOr s (bShl 1 l)) := by
                  rw [psF_s lq0.1, ← ss]
                  show bOr s (if 0 < b2i (gb ((uF (pmF (fun k => snF (gi h 193) (gi h 194) k (gi h 171 42).toNat) (lsF (gi h 193) (gi h 171 42).toNat))) k.toNat) l.toNat) then bShl 1 l else 0) = _
                  rw [gv]
                  rfl
                have pbn := (psF_b (g := fun i => b2i (gb ((uF (pmF (fun k => snF (gi h 193) (gi h 194) k (gi h 171 42).toNat) (lsF (gi h 193) (gi h 171 42).toNat))) k.toNat) i)) (l + 1).toNat (by omega)).1
                exact ihL _ (by omega) (bOr s (bShl 1 l)) (l + 1) _ _ rfl (k1) (f4) (by omega) (by rw [← se]; exact pbn) (se.symm) ((fun a b c d e f => by rw [show gi (wI h5 197 ((9 * k) + l).toNat 1) 195 _ = gi h5 195 _ from gi_a (by decide) _, show gi (wI h5 197 ((9 * k) + l).toNat 1) 196 _ = gi h5 196 _ from gi_a (by decide) _]; exact tb5 a b c d e f)) ((gi_a (by decide) _).trans (t5)) ((mrow_a (by decide)).trans (m5)) (rn) (lk1_n (lk1_n l0 (by decide) (Or.inl rfl)) (by decide) (Or.inl rfl)) (lk1_n (lk1_n l1 (by decide) (Or.inl rfl)) (by decide) (Or.inl rfl)) (lk1_n (lk1_n l2 (by decide) (Or.inl rfl)) (by decide) (Or.inl rfl)) (lk1_n (lk1_n l3 (by decide) (Or.inl rfl)) (by decide) (Or.inl rfl)) (lk1_n (lk1_n l4 (by decide) (Or.inl rfl)) (by decide) (Or.inl rfl)) (lk1_n lk1_s (by decide) (Or.inl rfl)) lk1_s (GD_wu (hG5) (r := 80) rfl (by omega) rfl (by omega) (by omega)) (FRM_wn 0 224 (hF5) (r := 80) rfl rfl rfl (by omega) (by omega))
          · refine x_iload 93 hK rfl rfl l7 ?_
            refine x_if_ne 145 96 hK rfl rfl rfl (by omega) (fun c159 => ?_) (fun c159 => ?_)
            · refine x_iconst 146 hK rfl rfl ?_
              refine x_goto 150 hK rfl rfl ?_
              refine x_istore 152 hK rfl rfl _ rfl ?_
              refine x_iinc 155 hK rfl rfl (lk1_n l8 (by decide) (Or.inl rfl)) _ rfl ?_
              refine x_goto 79 hK rfl rfl ?_
              exact ih _ (by omega) 1 (o + 1) _ rfl (lq1) (by omega) (by omega) (Or.inr ⟨by omega, (isN_1 o0.1 (by omega)).symm⟩) (lk1_n (lk1_n l0 (by decide) (Or.inl rfl)) (by decide) (Or.inl rfl)) (lk1_n (lk1_n l1 (by decide) (Or.inl rfl)) (by decide) (Or.inl rfl)) (lk1_n (lk1_n l2 (by decide) (Or.inl rfl)) (by decide) (Or.inl rfl)) (lk1_n (lk1_n l3 (by decide) (Or.inl rfl)) (by decide) (Or.inl rfl)) (lk1_n (lk1_n l4 (by decide) (Or.inl rfl)) (by decide) (Or.inl rfl)) (lk1_n (lk1_n l5 (by decide) (Or.inl rfl)) (by decide) (Or.inl rfl)) (lk1_n (lk1_n l6 (by decide) (Or.inl rfl)) (by decide) (Or.inl rfl)) (lk1_n lk1_s (by decide) (Or.inl rfl)) lk1_s
            · refine x_aload_n 97 hK rfl rfl l0 ?_
              refine x_getR 100 hK rfl rfl (sp_171 (h := h5) hG5) (rf_171_47 (h := h5) hG5) ?_
              refine x_bipush 102 hK rfl rfl rfl ?_
              refine x_iload 104 hK rfl rfl l4 ?_
              refine x_iconst 105 hK rfl rfl ?_
              refine x_isub 106 hK rfl rfl ?_
              refine x_imul 107 hK rfl rfl ?_
              refine x_iload 109 hK rfl rfl l8 ?_
              refine x_iadd 110 hK rfl rfl ?_
              refine x_baloadE 111 hK rfl rfl (sp_197 (h := h5) hG5) (by omega) (by omega) (by omega) (e' := (b2i (gb ((uF (pmF (fun k => snF (gi h 193) (gi h 194) k (gi h 171 42).toNat) (lsF (gi h 193) (gi h 171 42).toNat))) (k - 1).toNat) o.toNat))) ((rz (by omega) (by omega))) ?_
              refine x_if_eq 149 114 hK rfl rfl rfl (by omega) (fun c176 => ?_) (fun c176 => ?_)
              · refine x_iconst 150 hK rfl rfl ?_
                refine x_istore 152 hK rfl rfl _ rfl ?_
                refine x_iinc 155 hK rfl rfl (lk1_n l8 (by decide) (Or.inl rfl)) _ rfl ?_
                refine x_goto 79 hK rfl rfl ?_
                exact ih _ (by omega) 0 (o + 1) _ rfl (lq1) (by omega) (by omega) (Or.inr ⟨by omega, (isN_0 o0.1 (by omega) (by omega)).symm⟩) (lk1_n (lk1_n l0 (by decide) (Or.inl rfl)) (by decide) (Or.inl rfl)) (lk1_n (lk1_n l1 (by decide) (Or.inl rfl)) (by decide) (Or.inl rfl)) (lk1_n (lk1_n l2 (by decide) (Or.inl rfl)) (by decide) (Or.inl rfl)) (lk1_n (lk1_n l3 (by decide) (Or.inl rfl)) (by decide) (Or.inl rfl)) (lk1_n (lk1_n l4 (by decide) (Or.inl rfl)) (by decide) (Or.inl rfl)) (lk1_n (lk1_n l5 (by decide) (Or.inl rfl)) (by decide) (Or.inl rfl)) (lk1_n (lk1_n l6 (by decide) (Or.inl rfl)) (by decide) (Or.inl rfl)) (lk1_n lk1_s (by decide) (Or.inl rfl)) lk1_s
              · refine x_iload 116 hK rfl rfl l8 ?_
                refine x_iconst 117 hK rfl rfl ?_
                refine x_isub 118 hK rfl rfl ?_
                refine x_callS 121 hK hmono rfl (Or.inl rfl) rfl [.int (I (o - 1))] [] rfl rfl (Nat.le_of_ble_eq_true rfl) (Nat.le_of_ble_eq_true rfl) (CLd_le (Nat.le_of_ble_eq_true rfl) (ctX11_put hSP (by omega))) ?_
                rintro v9 h9 ⟨e9, rfl⟩
                rw [e9]
                clear e9
                refine x_iload 123 hK rfl rfl l6 ?_
                refine x_if_icmp_eq 145 126 hK rfl rfl rfl (by omega) (by omega) (fun c187 => ?_) (fun c187 => ?_)
                · refine x_iconst 146 hK rfl rfl ?_
                  refine x_goto 150 hK rfl rfl ?_
                  refine x_istore 152 hK rfl rfl _ rfl ?_
                  refine x_iinc 155 hK rfl rfl (lk1_n l8 (by decide) (Or.inl rfl)) _ rfl ?_
                  refine x_goto 79 hK rfl rfl ?_
                  exact ih _ (by omega) 1 (o + 1) _ rfl (lq1) (by omega) (by omega) (Or.inr ⟨by omega, (isN_1 o0.1 (by omega)).symm⟩) (lk1_n (lk1_n l0 (by decide) (Or.inl rfl)) (by decide) (Or.inl rfl)) (lk1_n (lk1_n l1 (by decide) (Or.inl rfl)) (by decide) (Or.inl rfl)) (lk1_n (lk1_n l2 (by decide) (Or.inl rfl)) (by decide) (Or.inl rfl)) (lk1_n (lk1_n l3 (by decide) (Or.inl rfl)) (by decide) (Or.inl rfl)) (lk1_n (lk1_n l4 (by decide) (Or.inl rfl)) (by decide) (Or.inl rfl)) (lk1_n (lk1_n l5 (by decide) (Or.inl rfl)) (by decide) (Or.inl rfl)) (lk1_n (lk1_n l6 (by decide) (Or.inl rfl)) (by decide) (Or.inl rfl)) (lk1_n lk1_s (by decide) (Or.inl rfl)) lk1_s
                · refine x_iload 128 hK rfl rfl l8 ?_
                  refine x_iload 130 hK rfl rfl l6 ?_
                  refine x_if_icmp_eq 145 133 hK rfl rfl rfl (by omega) (by omega) (fun c196 => ?_) (fun c196 => ?_)
                  · refine x_iconst 146 hK rfl rfl ?_
                    refine x_goto 150 hK rfl rfl ?_
                    refine x_istore 152 hK rfl rfl _ rfl ?_
                    refine x_iinc 155 hK rfl rfl (lk1_n l8 (by decide) (Or.inl rfl)) _ rfl ?_
                    refine x_goto 79 hK rfl rfl ?_
                    exact ih _ (by omega) 1 (o + 1) _ rfl (lq1) (by omega) (by omega) (Or.inr ⟨by omega, (isN_1 o0.1 (by omega)).symm⟩) (lk1_n (lk1_n l0 (by decide) (Or.inl rfl)) (by decide) (Or.inl rfl)) (lk1_n (lk1_n l1 (by decide) (Or.inl rfl)) (by decide) (Or.inl rfl)) (lk1_n (lk1_n l2 (by decide) (Or.inl rfl)) (by decide) (Or.inl rfl)) (lk1_n (lk1_n l3 (by decide) (Or.inl rfl)) (by decide) (Or.inl rfl)) (lk1_n (lk1_n l4 (by decide) (Or.inl rfl)) (by decide) (Or.inl rfl)) (lk1_n (lk1_n l5 (by decide) (Or.inl rfl)) (by decide) (Or.inl rfl)) (lk1_n (lk1_n l6 (by decide) (Or.inl rfl)) (by decide) (Or.inl rfl)) (lk1_n lk1_s (by decide) (Or.inl rfl)) lk1_s
                  · refine x_iload 135 hK rfl rfl l8 ?_
                    refine x_iconst 136 hK rfl rfl ?_
                    refine x_iadd 137 hK rfl rfl ?_
                    refine x_callS 140 hK hmono rfl (Or.inl rfl) rfl [.int (I (o + 1))] [] rfl rfl (Nat.le_of_ble_eq_true rfl) (Nat.le_of_ble_eq_true rfl) (CLd_le (Nat.le_of_ble_eq_true rfl) (ctX11_put hSP (by omega))) ?_
                    rintro v9 h9 ⟨e9, rfl⟩
                    rw [e9]
                    clear e9
                    refine x_iload 142 hK rfl rfl l6 ?_
                    refine x_if_icmp_ne 149 145 hK rfl rfl rfl (by omega) (by omega) (fun c208 => ?_) (fun c208 => ?_)
                    · refine x_iconst 150 hK rfl rfl ?_
                      refine x_istore 152 hK rfl rfl _ rfl ?_
                      refine x_iinc 155 hK rfl rfl (lk1_n l8 (by decide) (Or.inl rfl)) _ rfl ?_
                      refine x_goto 79 hK rfl rfl ?_
                      exact ih _ (by omega) 0 (o + 1) _ rfl (lq1) (by omega) (by omega) (Or.inr ⟨by omega, (isN_0 o0.1 (by omega) (by omega)).symm⟩) (lk1_n (lk1_n l0 (by decide) (Or.inl rfl)) (by decide) (Or.inl rfl)) (lk1_n (lk1_n l1 (by decide) (Or.inl rfl)) (by decide) (Or.inl rfl)) (lk1_n (lk1_n l2 (by decide) (Or.inl rfl)) (by decide) (Or.inl rfl)) (lk1_n (lk1_n l3 (by decide) (Or.inl rfl)) (by decide) (Or.inl rfl)) (lk1_n (lk1_n l4 (by decide) (Or.inl rfl)) (by decide) (Or.inl rfl)) (lk1_n (lk1_n l5 (by decide) (Or.inl rfl)) (by decide) (Or.inl rfl)) (lk1_n (lk1_n l6 (by decide) (Or.inl rfl)) (by decide) (Or.inl rfl)) (lk1_n lk1_s (by decide) (Or.inl rfl)) lk1_s
                    · refine x_iconst 146 hK rfl rfl ?_
                      refine x_goto 150 hK rfl rfl ?_
                      refine x_istore 152 hK rfl rfl _ rfl ?_
                      refine x_iinc 155 hK rfl rfl (lk1_n l8 (by decide) (Or.inl rfl)) _ rfl ?_
                      refine x_goto 79 hK rfl rfl ?_
                      exact ih _ (by omega) 1 (o + 1) _ rfl (lq1) (by omega) (by omega) (Or.inr ⟨by omega, (isN_1 o0.1 (by omega)).symm⟩) (lk1_n (lk1_n l0 (by decide) (Or.inl rfl)) (by decide) (Or.inl rfl)) (lk1_n (lk1_n l1 (by decide) (Or.inl rfl)) (by decide) (Or.inl rfl)) (lk1_n (lk1_n l2 (by decide) (Or.inl rfl)) (by decide) (Or.inl rfl)) (lk1_n (lk1_n l3 (by decide) (Or.inl rfl)) (by decide) (Or.inl rfl)) (lk1_n (lk1_n l4 (by decide) (Or.inl rfl)) (by decide) (Or.inl rfl)) (lk1_n (lk1_n l5 (by decide) (Or.inl rfl)) (by decide) (Or.inl rfl)) (lk1_n (lk1_n l6 (by decide) (Or.inl rfl)) (by decide) (Or.inl rfl)) (lk1_n lk1_s (by decide) (Or.inl rfl)) lk1_s
      refine x_iload 53 hK rfl rfl l6 ?_
      refine x_bipush 55 hK rfl rfl rfl ?_
      refine x_if_icmp_ge 232 58 hK rfl rfl rfl (by omega) (by omega) (fun c3 => ?_) (fun c3 => ?_)
      · have es : s = (uF (pmF (fun k => snF (gi h 193) (gi h 194) k (gi h 171 42).toNat) (lsF (gi h 193) (gi h 171 42).toNat))) k.toNat := by
          rw [ss, show l.toNat = 9 by omega]
          exact ps_id ubk
        have u0 : k = 0 → bcF s = 1 := fun z => by
          have q : (uF (pmF (fun k => snF (gi h 193) (gi h 194) k (gi h 171 42).toNat) (lsF (gi h 193) (gi h 171 42).toNat))) k.toNat = 16 := by
            rw [z]
            refine bits_e (ub _) ⟨by omega, by omega⟩ fun j hj => ?_
            have w := gU_iff (f := (fun k => snF (gi h 193) (gi h 194) k (gi h 171 42).toNat)) (last := (lsF (gi h 193) (gi h 171 42).toNat)) (k := 0) (l := (j : Int)) (by omega) (by omega)
            rw [show ((j : Int)).toNat = j by omega] at w
            rw [w, gb_16 j hj, decide_eq_true_eq]
            constructor
            · rintro ⟨⟨_, y⟩ | ⟨y, _⟩, _⟩
              · omega
              · omega
            · rintro rfl
              refine ⟨Or.inl ⟨rfl, rfl⟩, ?_⟩
              rw [show (lsF (gi h 193) (gi h 171 42).toNat) - 0 = (lsF (gi h 193) (gi h 171 42).toNat) by omega]
              exact f4
          rw [es, q]
          exact z16
        have bs := fun z : 1 ≤ k => bsF_s (U := (uF (pmF (fun k => snF (gi h 193) (gi h 194) k (gi h 171 42).toNat) (lsF (gi h 193) (gi h 171 42).toNat)))) (k := k) z
        have ez : e = 0 → bcF e = 0 := fun z => by rw [z]; exact z0
        refine x_iload 234 hK rfl rfl l5 ?_
        have bz701 := bcF_r s
        refine x_callS 237 hK hmono rfl (Or.inl rfl) rfl [.int (I s)] [] rfl rfl (Nat.le_of_ble_eq_true rfl) (Nat.le_of_ble_eq_true rfl) (CLd_le (Nat.le_of_ble_eq_true rfl) (ctJ6_bitCount_0f7a4F hSP (x := s))) ?_
        rintro v9 h9 ⟨e9, rfl⟩
        rw [e9]
        clear e9
        refine x_iload_n 238 hK rfl rfl l3 ?_
        have bz702 := bcF_r e
        refine x_callS 241 hK hmono rfl (Or.inl rfl) rfl [.int (I e)] [.int (I (bcF s))] rfl rfl (Nat.le_of_ble_eq_true rfl) (Nat.le_of_ble_eq_true rfl) (CLd_le (Nat.le_of_ble_eq_true rfl) (ctJ6_bitCount_0f7a4F hSP (x := e))) ?_
        rintro v9 h9 ⟨e9, rfl⟩
        rw [e9]
        clear e9
        refine x_if_icmp_le 250 244 hK rfl rfl rfl (by omega) (by omega) (fun c9 => ?_) (fun c9 => ?_)
        · refine x_iinc 253 hK rfl rfl l4 _ rfl ?_
          refine x_goto 30 hK rfl rfl ?_
          have k9 : 1 ≤ k ∧ b = (bsF (uF (pmF (fun k => snF (gi h 193) (gi h 194) k (gi h 171 42).toNat) (lsF (gi h 193) (gi h 171 42).toNat))) (k - 1).toNat).1 ∧ e = (bsF (uF (pmF (fun k => snF (gi h 193) (gi h 194) k (gi h 171 42).toNat) (lsF (gi h 193) (gi h 171 42).toNat))) (k - 1).toNat).2 := by
            rcases be with ⟨y1, y2, y3⟩ | y
            · have := u0 y1
              have := ez y3
              omega
            · exact y
          have bz : (bsF (uF (pmF (fun k => snF (gi h 193) (gi h 194) k (gi h 171 42).toNat) (lsF (gi h 193) (gi h 171 42).toNat))) k.toNat) = (bsF (uF (pmF (fun k => snF (gi h 193) (gi h 194) k (gi h 171 42).toNat) (lsF (gi h 193) (gi h 171 42).toNat))) (k - 1).toNat) := by
            refine (bs k9.1).trans (if_neg ?_)
            rw [← k9.2.2, ← es]; omega
          exact ihK _ (by omega) b e (k + 1) _ _ rfl (s1) (by omega) (by omega) (fun _ => f4) (Or.inr ⟨by omega, by rw [show k + 1 - 1 = k by omega, bz]; exact k9.2.1, by rw [show k + 1 - 1 = k by omega, bz]; exact k9.2.2⟩) (tb5) (t5) (m5) ((fun k' l' y1 y2 y3 y4 => rt5 k' l' y1 y2 y3 (by omega))) (lk1_n l0 (by decide) (Or.inl rfl)) (lk1_n l1 (by decide) (Or.inl rfl)) (lk1_n l2 (by decide) (Or.inl rfl)) (lk1_n l3 (by decide) (Or.inl rfl)) lk1_s (hG5) (hF5)
        · refine x_iload 246 hK rfl rfl l4 ?_
          refine x_istore_n 247 hK rfl rfl _ rfl ?_
          refine x_iload 249 hK rfl rfl (lk1_n l5 (by decide) (Or.inl rfl)) ?_
          refine x_istore_n 250 hK rfl rfl _ rfl ?_
          refine x_iinc 253 hK rfl rfl (lk1_n (lk1_n l4 (by decide) (Or.inl rfl)) (by decide) (Or.inl rfl)) _ rfl ?_
          refine x_goto 30 hK rfl rfl ?_
          have bz : (bsF (uF (pmF (fun k => snF (gi h 193) (gi h 194) k (gi h 171 42).toNat) (lsF (gi h 193) (gi h 171 42).toNat))) k.toNat) = (k, (uF (pmF (fun k => snF (gi h 193) (gi h 194) k (gi h 171 42).toNat) (lsF (gi h 193) (gi h 171 42).toNat))) k.toNat) := by
            by_cases c : k = 0
            · rw [c]; rfl
            · rcases be with ⟨y, _⟩ | ⟨y1, y2, y3⟩
              · exact absurd y c
              · refine (bs y1).trans (if_pos ?_)
                rw [← y3, ← es]; omega
          exact ihK _ (by omega) k s (k + 1) _ _ rfl (s1) (by omega) (by omega) (fun _ => f4) (Or.inr ⟨by omega, by rw [show k + 1 - 1 = k by omega, bz], by rw [show k + 1 - 1 = k by omega, bz, es]⟩) (tb5) (t5) (m5) ((fun k' l' y1 y2 y3 y4 => rt5 k' l' y1 y2 y3 (by omega))) (lk1_n (lk1_n (lk1_n l0 (by decide) (Or.inl rfl)) (by decide) (Or.inl rfl)) (by decide) (Or.inl rfl)) (lk1_n (lk1_n (lk1_n l1 (by decide) (Or.inl rfl)) (by decide) (Or.inl rfl)) (by decide) (Or.inl rfl)) (lk1_n (lk1_n lk1_s (by decide) (Or.inl rfl)) (by decide) (Or.inl rfl)) (lk1_n lk1_s (by decide) (Or.inl rfl)) lk1_s (hG5) (hF5)
      · refine x_iload 60 hK rfl rfl l4 ?_
        refine x_if_ne 73 63 hK rfl rfl rfl (by omega) (fun c21 => ?_) (fun c21 => ?_)
        · refine x_iconst 74 hK rfl rfl ?_
          refine x_istore 76 hK rfl rfl _ rfl ?_
          refine x_iconst 77 hK rfl rfl ?_
          refine x_istore 79 hK rfl rfl _ rfl ?_
          exact loopO _ 0 0 _ rfl (by omega) (by omega) (by omega) ((if c : k = 0 then Or.inl ⟨c, rfl, by omega⟩ else Or.inr ⟨by omega, by first | rfl | omega⟩)) (lk1_n (lk1_n l0 (by decide) (Or.inl rfl)) (by decide) (Or.inl rfl)) (lk1_n (lk1_n l1 (by decide) (Or.inl rfl)) (by decide) (Or.inl rfl)) (lk1_n (lk1_n l2 (by decide) (Or.inl rfl)) (by decide) (Or.inl rfl)) (lk1_n (lk1_n l3 (by decide) (Or.inl rfl)) (by decide) (Or.inl rfl)) (lk1_n (lk1_n l4 (by decide) (Or.inl rfl)) (by decide) (Or.inl rfl)) (lk1_n (lk1_n l5 (by decide) (Or.inl rfl)) (by decide) (Or.inl rfl)) (lk1_n (lk1_n l6 (by decide) (Or.inl rfl)) (by decide) (Or.inl rfl)) (lk1_n lk1_s (by decide) (Or.inl rfl)) lk1_s
        · refine x_iload 65 hK rfl rfl l6 ?_
          refine x_iconst 66 hK rfl rfl ?_
          refine x_if_icmp_ne 73 69 hK rfl rfl rfl (by omega) (by omega) (fun c29 => ?_) (fun c29 => ?_)
          · refine x_iconst 74 hK rfl rfl ?_
            refine x_istore 76 hK rfl rfl _ rfl ?_
            refine x_iconst 77 hK rfl rfl ?_
            refine x_istore 79 hK rfl rfl _ rfl ?_
            exact loopO _ 0 0 _ rfl (by omega) (by omega) (by omega) ((if c : k = 0 then Or.inl ⟨c, rfl, by omega⟩ else Or.inr ⟨by omega, by first | rfl | omega⟩)) (lk1_n (lk1_n l0 (by decide) (Or.inl rfl)) (by decide) (Or.inl rfl)) (lk1_n (lk1_n l1 (by decide) (Or.inl rfl)) (by decide) (Or.inl rfl)) (lk1_n (lk1_n l2 (by decide) (Or.inl rfl)) (by decide) (Or.inl rfl)) (lk1_n (lk1_n l3 (by decide) (Or.inl rfl)) (by decide) (Or.inl rfl)) (lk1_n (lk1_n l4 (by decide) (Or.inl rfl)) (by decide) (Or.inl rfl)) (lk1_n (lk1_n l5 (by decide) (Or.inl rfl)) (by decide) (Or.inl rfl)) (lk1_n (lk1_n l6 (by decide) (Or.inl rfl)) (by decide) (Or.inl rfl)) (lk1_n lk1_s (by decide) (Or.inl rfl)) lk1_s
          · refine x_iconst 70 hK rfl rfl ?_
            refine x_goto 74 hK rfl rfl ?_
            refine x_istore 76 hK rfl rfl _ rfl ?_
            refine x_iconst 77 hK rfl rfl ?_
            refine x_istore 79 hK rfl rfl _ rfl ?_
            exact loopO _ 1 0 _ rfl (by omega) (by omega) (by omega) ((if c : k = 0 then Or.inl ⟨c, rfl, by omega⟩ else Or.inr ⟨by omega, by first | rfl | omega⟩)) (lk1_n (lk1_n l0 (by decide) (Or.inl rfl)) (by decide) (Or.inl rfl)) (lk1_n (lk1_n l1 (by decide) (Or.inl rfl)) (by decide) (Or.inl rfl)) (lk1_n (lk1_n l2 (by decide) (Or.inl rfl)) (by decide) (Or.inl rfl)) (lk1_n (lk1_n l3 (by decide) (Or.inl rfl)) (by decide) (Or.inl rfl)) (lk1_n (lk1_n l4 (by decide) (Or.inl rfl)) (by decide) (Or.inl rfl)) (lk1_n (lk1_n l5 (by decide) (Or.inl rfl)) (by decide) (Or.inl rfl)) (lk1_n (lk1_n l6 (by decide) (Or.inl rfl)) (by decide) (Or.inl rfl)) (lk1_n lk1_s (by decide) (Or.inl rfl)) lk1_s
    refine x_iload 32 hK rfl rfl l4 ?_
    refine x_iload_n 33 hK rfl rfl l1 ?_
    refine x_if_icmp_gt 256 36 hK rfl rfl rfl (by omega) (by omega) (fun c3 => ?_) (fun c3 => ?_)
    · refine x_iload_n 257 hK rfl rfl l2 ?_
      refine x_if_ge 263 260 hK rfl rfl rfl (by omega) (fun c5 => ?_) (fun c5 => ?_)
      · refine x_aload_n 264 hK rfl rfl l0 ?_
        refine x_iconst 265 hK rfl rfl ?_
        refine x_putI 268 hK rfl rfl (sp_171 (h := h3) hG3) ?_
        refine x_aload_n 269 hK rfl rfl l0 ?_
        refine x_iload_n 270 hK rfl rfl l3 ?_
        refine x_i2l 271 hK rfl rfl (by omega) ?_
        have hGp703 : GD gE gRL sh (wI h3 171 1 0) := GD_w1 (hG3) (r := 54) rfl (by omega) rfl (by omega) (by omega)
        have z705 : gi (wI h3 171 1 0) 171 1 = 0 := gi_same (by omega)
        have z705r : mrow (wI h3 171 1 0) = [] := mrow_0 (gi_same (by omega))
        refine x_callV 274 hK hmono rfl rfl [.ref 171, .long (J e)] [] rfl rfl (Nat.le_of_ble_eq_true rfl) (Nat.le_of_ble_eq_true rfl) rfl (sp_171 (h := h3) hG3) (CLd_le (Nat.le_of_ble_eq_true rfl) (ctX11_entersF hSP hGp703 (by omega) (by omega))) ?_
        rintro v704 h704 ⟨rfl, hG704, hF704, t704, s704⟩
        rw [z705] at t704
        rw [z705r] at s704
        replace t704 : gi h704 171 1 = 1 := t704
        change mrow h704 = [e] at s704
        refine x_iload_n 275 hK rfl rfl l2 ?_
        have k9 : 1 ≤ k ∧ b = (bsF (uF (pmF (fun k => snF (gi h 193) (gi h 194) k (gi h 171 42).toNat) (lsF (gi h 193) (gi h 171 42).toNat))) (k - 1).toNat).1 ∧ e = (bsF (uF (pmF (fun k => snF (gi h 193) (gi h 194) k (gi h 171 42).toNat) (lsF (gi h 193) (gi h 171 42).toNat))) (k - 1).toNat).2 := by
          rcases be with ⟨y1, y2, y3⟩ | y
          · omega
          · exact y
        have fq := fp k9.1
        have ek : (k - 1).toNat = (lsF (gi h 193) (gi h 171 42).toNat).toNat := by omega
        rw [ek] at k9
        exact x_iret hK rfl ⟨Or.inr (Or.inr ⟨s1, fq, by rw [← k9.2.1], by rw [← k9.2.2]; exact s704⟩), hG704, (FRM_w (hF3) (r := 54) rfl rfl).trans ((hF704).mono rfl), (FRM_gi hF704 (r := 54) rfl rfl).trans ((gi_k (by decide) _).trans (t3))⟩
      · refine x_bipush 262 hK rfl rfl rfl ?_
        have k9 : k = 0 := by
          rcases be with ⟨y, _⟩ | ⟨y1, y2, y3⟩
          · exact y
          · omega
        have fn : ¬ 0 < sMn (fun k => snF (gi h 193) (gi h 194) k (gi h 171 42).toNat) (lsF (gi h 193) (gi h 171 42).toNat) (lsF (gi h 193) (gi h 171 42).toNat).toNat 4 := by omega
        exact x_iret hK rfl ⟨Or.inr (Or.inl ⟨s1, fn, rfl, m3⟩), hG3, hF3, t3⟩
    · refine x_aload_n 37 hK rfl rfl l0 ?_
      refine x_getR 40 hK rfl rfl (sp_171 (h := h3) hG3) (rf_171_46 (h := h3) hG3) ?_
      refine x_iconst 41 hK rfl rfl ?_
      have g706 := gri (0) (1) hG3 (a := 196) (r := 79) (k := 4) rfl rfl
      refine x_baloadE 42 hK rfl rfl (sp_196 (h := h3) hG3) (by omega) (by omega) (by omega) (e' := (gi h3 196 4)) (rfl) ?_
      refine x_if_eq 256 45 hK rfl rfl rfl (by omega) (fun c21 => ?_) (fun c21 => ?_)
      · refine x_iload_n 257 hK rfl rfl l2 ?_
        refine x_if_ge 263 260 hK rfl rfl rfl (by omega) (fun c23 => ?_) (fun c23 => ?_)
        · refine x_aload_n 264 hK rfl rfl l0 ?_
          refine x_iconst 265 hK rfl rfl ?_
          refine x_putI 268 hK rfl rfl (sp_171 (h := h3) hG3) ?_
          refine x_aload_n 269 hK rfl rfl l0 ?_
          refine x_iload_n 270 hK rfl rfl l3 ?_
          refine x_i2l 271 hK rfl rfl (by omega) ?_
          have hGp707 : GD gE gRL sh (wI h3 171 1 0) := GD_w1 (hG3) (r := 54) rfl (by omega) rfl (by omega) (by omega)
          have z709 : gi (wI h3 171 1 0) 171 1 = 0 := gi_same (by omega)
          have z709r : mrow (wI h3 171 1 0) = [] := mrow_0 (gi_same (by omega))
          refine x_callV 274 hK hmono rfl rfl [.ref 171, .long (J e)] [] rfl rfl (Nat.le_of_ble_eq_true rfl) (Nat.le_of_ble_eq_true rfl) rfl (sp_171 (h := h3) hG3) (CLd_le (Nat.le_of_ble_eq_true rfl) (ctX11_entersF hSP hGp707 (by omega) (by omega))) ?_
          rintro v708 h708 ⟨rfl, hG708, hF708, t708, s708⟩
          rw [z709] at t708
          rw [z709r] at s708
          replace t708 : gi h708 171 1 = 1 := t708
          change mrow h708 = [e] at s708
          refine x_iload_n 275 hK rfl rfl l2 ?_
          have k9 : 1 ≤ k ∧ b = (bsF (uF (pmF (fun k => snF (gi h 193) (gi h 194) k (gi h 171 42).toNat) (lsF (gi h 193) (gi h 171 42).toNat))) (k - 1).toNat).1 ∧ e = (bsF (uF (pmF (fun k => snF (gi h 193) (gi h 194) k (gi h 171 42).toNat) (lsF (gi h 193) (gi h 171 42).toNat))) (k - 1).toNat).2 := by
            rcases be with ⟨y1, y2, y3⟩ | y
            · omega
            · exact y
          have fq := fp k9.1
          have ek : (k - 1).toNat = (lsF (gi h 193) (gi h 171 42).toNat).toNat := by omega
          rw [ek] at k9
          exact x_iret hK rfl ⟨Or.inr (Or.inr ⟨s1, fq, by rw [← k9.2.1], by rw [← k9.2.2]; exact s708⟩), hG708, (FRM_w (hF3) (r := 54) rfl rfl).trans ((hF708).mono rfl), (FRM_gi hF708 (r := 54) rfl rfl).trans ((gi_k (by decide) _).trans (t3))⟩
        · refine x_bipush 262 hK rfl rfl rfl ?_
          have k9 : k = 0 := by
            rcases be with ⟨y, _⟩ | ⟨y1, y2, y3⟩
            · exact y
            · omega
          have fn : ¬ 0 < sMn (fun k => snF (gi h 193) (gi h 194) k (gi h 171 42).toNat) (lsF (gi h 193) (gi h 171 42).toNat) (lsF (gi h 193) (gi h 171 42).toNat).toNat 4 := by omega
          exact x_iret hK rfl ⟨Or.inr (Or.inl ⟨s1, fn, rfl, m3⟩), hG3, hF3, t3⟩
      · refine x_iconst 46 hK rfl rfl ?_
        refine x_istore 48 hK rfl rfl _ rfl ?_
        refine x_iconst 49 hK rfl rfl ?_
        refine x_istore 51 hK rfl rfl _ rfl ?_
        exact loopL _ 0 0 _ _ rfl (by omega) (by have := a4; omega) (by omega) (by omega) (rfl) (tb3) (t3) (m3) (rt3) (lk1_n (lk1_n l0 (by decide) (Or.inl rfl)) (by decide) (Or.inl rfl)) (lk1_n (lk1_n l1 (by decide) (Or.inl rfl)) (by decide) (Or.inl rfl)) (lk1_n (lk1_n l2 (by decide) (Or.inl rfl)) (by decide) (Or.inl rfl)) (lk1_n (lk1_n l3 (by decide) (Or.inl rfl)) (by decide) (Or.inl rfl)) (lk1_n (lk1_n l4 (by decide) (Or.inl rfl)) (by decide) (Or.inl rfl)) (lk1_n lk1_s (by decide) (Or.inl rfl)) lk1_s (hG3) (hF3)
  refine x_aload_n 1 hK rfl rfl rfl ?_
  refine x_iconst 2 hK rfl rfl ?_
  refine x_putI 5 hK rfl rfl (sp_171 (h := h) hG) ?_
  refine x_aload_n 6 hK rfl rfl rfl ?_
  have hGp711 : GD gE gRL sh (wI h 171 0 0) := GD_w1 (hG) (r := 54) rfl (by omega) rfl (by omega) (by omega)
  refine x_callV 9 hK hmono rfl rfl [.ref 171] [] rfl rfl (Nat.le_of_ble_eq_true rfl) (Nat.le_of_ble_eq_true rfl) rfl (sp_171 (h := h) hG) (CLd_le (Nat.le_of_ble_eq_true rfl) (ctX11_lastSeen hSP hGp711)) ?_
  rintro v9 h9 ⟨e9, rfl⟩
  rw [e9]
  clear e9
  rw [show lsF (gi (wI h 171 0 0) 193) (gi (wI h 171 0 0) 171 42).toNat = lsF (gi h 193) (gi h 171 42).toNat from by rw [show gi (wI h 171 0 0) 171 42 = gi h 171 42 from gi_k (by decide) _, show gi (wI h 171 0 0) 193 = gi h 193 from funext fun j => gi_a (by decide) _]]
  have lb710 := last_b hG
  refine x_istore_n 10 hK rfl rfl [(1, .int (I (lsF (gi h 193) (gi h 171 42).toNat))), (0, .ref 171)] rfl ?_
  refine x_iload_n 11 hK rfl rfl rfl ?_
  refine x_if_ge 17 14 hK rfl rfl rfl (by omega) (fun c8 => ?_) (fun c8 => ?_)
  · refine x_aload_n 18 hK rfl rfl rfl ?_
    refine x_iload_n 19 hK rfl rfl rfl ?_
    have hGp712 : GD gE gRL sh (wI h 171 0 0) := GD_w1 (hG) (r := 54) rfl (by omega) rfl (by omega) (by omega)
    refine x_callV 22 hK hmono rfl rfl [.ref 171, .int (I (lsF (gi h 193) (gi h 171 42).toNat))] [] rfl rfl (Nat.le_of_ble_eq_true rfl) (Nat.le_of_ble_eq_true rfl) rfl (sp_171 (h := h) hG) (CLd_le (Nat.le_of_ble_eq_true rfl) (ctX11_laysSeen hSP hGp712 (by omega))) ?_
    rintro v2 h2 ⟨rfl, hG2, hF2, tb2⟩
    rw [show (fun k => snF (gi (wI h 171 0 0) 193) (gi (wI h 171 0 0) 194) k (gi (wI h 171 0 0) 171 42).toNat) = (fun k => snF (gi h 193) (gi h 194) k (gi h 171 42).toNat) from rfl] at tb2
    refine x_bipush 24 hK rfl rfl rfl ?_
    refine x_istore_n 25 hK rfl rfl [(2, .int (I (-2))), (1, .int (I (lsF (gi h 193) (gi h 171 42).toNat))), (0, .ref 171)] rfl ?_
    refine x_iconst 26 hK rfl rfl ?_
    refine x_istore_n 27 hK rfl rfl [(3, .int (I 0)), (2, .int (I (-2))), (1, .int (I (lsF (gi h 193) (gi h 171 42).toNat))), (0, .ref 171)] rfl ?_
    refine x_iconst 28 hK rfl rfl ?_
    refine x_istore 30 hK rfl rfl [(4, .int (I 0)), (3, .int (I 0)), (2, .int (I (-2))), (1, .int (I (lsF (gi h 193) (gi h 171 42).toNat))), (0, .ref 171)] rfl ?_
    exact loopK _ (-2) 0 0 _ _ rfl (by omega) (by omega) (by omega) (fun z => absurd z (by omega)) (Or.inl ⟨rfl, rfl, rfl⟩) (tb2) ((FRM_gi hF2 (r := 54) rfl rfl).trans (gi_same (by omega))) ((mrow_F hF2 rfl rfl).trans (mrow_k (by decide))) (fun k' l' y1 y2 y3 y4 => absurd y4 (by omega)) rfl rfl rfl rfl rfl (hG2) ((FRM_w ((FRM.rf : FRM gRL [(0, 54, 0, 0), (0, 54, 1, 1), (0, 78, 0, 224), (0, 79, 0, 224), (0, 80, 0, 224), (1, 55, 0, 39)] h h)) (r := 54) rfl rfl).trans ((hF2).mono rfl))
  · refine x_bipush 16 hK rfl rfl rfl ?_
    exact x_iret hK rfl ⟨Or.inl ⟨by omega, rfl, mrow_k (by decide)⟩, GD_w1 (hG) (r := 54) rfl (by omega) rfl (by omega) (by omega), FRM_w ((FRM.rf : FRM gRL [(0, 54, 0, 0), (0, 54, 1, 1), (0, 78, 0, 224), (0, 79, 0, 224), (0, 80, 0, 224), (1, 55, 0, 39)] h h)) (r := 54) rfl rfl, gi_same (by omega)⟩
