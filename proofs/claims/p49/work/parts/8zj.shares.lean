/-! FOOD THAT IS PASSED (the class) -/
theorem ps_r1 : ∀ k, k < 8 → gRL[163 + k]? = some 53 := by decide
noncomputable def lpF (P : Nat → Int) (M : Nat) (row : Nat → Int) (a : Int) : Nat → Int
  | 0 => 1000000
  | c + 1 => if a ≤ P c ∧ P c ≤ P M then min (lpF P M row a c) (row c) else lpF P M row a c
theorem lpF_s {P row : Nat → Int} {M : Nat} {a c : Int} (h : 0 ≤ c) : lpF P M row a (c + 1).toNat = if a ≤ P c.toNat ∧ P c.toNat ≤ P M then min (lpF P M row a c.toNat) (row c.toNat) else lpF P M row a c.toNat := by rw [tn_s h]; rfl
theorem lpF_le {P row : Nat → Int} {M : Nat} {a : Int} : ∀ n c : Nat, c < n → a ≤ P c → P c ≤ P M → lpF P M row a n ≤ row c
  | 0, c, h, _, _ => absurd h (Nat.not_lt_zero _)
  | n + 1, c, h, h1, h2 => by
    show (if a ≤ P n ∧ P n ≤ P M then min (lpF P M row a n) (row n) else lpF P M row a n) ≤ row c
    by_cases e : c = n
    · subst e
      rw [if_pos ⟨h1, h2⟩]
      omega
    · have ih := lpF_le (row := row) n c (by omega) h1 h2
      split <;> omega
theorem lpF_ge {P row : Nat → Int} {M : Nat} {a v : Int} (h0 : v ≤ 1000000) : ∀ n : Nat, (∀ c : Nat, c < n → a ≤ P c → P c ≤ P M → v ≤ row c) → v ≤ lpF P M row a n
  | 0, _ => h0
  | n + 1, h => by
    have ih := lpF_ge (row := row) h0 n fun c hc => h c (by omega)
    show v ≤ if a ≤ P n ∧ P n ≤ P M then min (lpF P M row a n) (row n) else lpF P M row a n
    by_cases e : a ≤ P n ∧ P n ≤ P M
    · rw [if_pos e]
      have := h n (by omega) e.1 e.2
      omega
    · rw [if_neg e]
      exact ih
theorem lpF_up {P row : Nat → Int} {M : Nat} {a : Int} : ∀ n : Nat, lpF P M row a n ≤ 1000000
  | 0 => Int.le_refl _
  | n + 1 => by
    have ih := lpF_up (P := P) (row := row) (M := M) (a := a) n
    show (if a ≤ P n ∧ P n ≤ P M then min (lpF P M row a n) (row n) else lpF P M row a n) ≤ 1000000
    split <;> omega
theorem lpF_ext {P P' row row' : Nat → Int} {M : Nat} {a : Int} (hM : P M = P' M) : ∀ n : Nat, (∀ c : Nat, c < n → P c = P' c ∧ row c = row' c) → lpF P M row a n = lpF P' M row' a n
  | 0, _ => rfl
  | n + 1, h => by
    have z := h n (by omega)
    show (if a ≤ P n ∧ P n ≤ P M then min (lpF P M row a n) (row n) else lpF P M row a n) = if a ≤ P' n ∧ P' n ≤ P' M then min (lpF P' M row' a n) (row' n) else lpF P' M row' a n
    rw [lpF_ext hM n fun c hc => h c (by omega), z.1, z.2, hM]
theorem abZ_nn (y : Int) : 0 ≤ abZ y := by unfold abZ; split <;> omega
/-- the least passed from a MESS on, by what is kept; d flows behind it -/
noncomputable def psS (sp : Nat → Int) (q : Nat) : Nat → Nat → Int
  | 0 => fun c => abZ (totF sp q - totF sp c)
  | d + 1 => fun c => abZ (totF sp (q - (d + 1)) - totF sp c) + lpF (totF sp) (q + 1) (psS sp q d) (totF sp c) (q + 2)
theorem psS_nn {sp : Nat → Int} {q : Nat} : ∀ d c : Nat, 0 ≤ psS sp q d c
  | 0, c => abZ_nn _
  | d + 1, c => by
    have a := abZ_nn (totF sp (q - (d + 1)) - totF sp c)
    have b := lpF_ge (P := totF sp) (M := q + 1) (row := psS sp q d) (a := totF sp c) (v := 0) (by omega) (q + 2) fun k _ _ _ => psS_nn d k
    show 0 ≤ abZ (totF sp (q - (d + 1)) - totF sp c) + lpF (totF sp) (q + 1) (psS sp q d) (totF sp c) (q + 2)
    omega
noncomputable def chF (P : Nat → Int) (M : Nat) (row : Nat → Int) (v a : Int) : Nat → Int
  | 0 => a
  | c + 1 => if chF P M row v a c < P c ∧ P c ≤ P M ∧ row c = v then P c else chF P M row v a c
theorem chF_s {P row : Nat → Int} {M : Nat} {v a c : Int} (h : 0 ≤ c) : chF P M row v a (c + 1).toNat = if chF P M row v a c.toNat < P c.toNat ∧ P c.toNat ≤ P M ∧ row c.toNat = v then P c.toNat else chF P M row v a c.toNat := by rw [tn_s h]; rfl
theorem chF_ge {P row : Nat → Int} {M : Nat} {v a : Int} : ∀ n : Nat, a ≤ chF P M row v a n ∧ ∀ c : Nat, c < n → P c ≤ P M → row c = v → P c ≤ chF P M row v a n
  | 0 => ⟨Int.le_refl _, fun c h => absurd h (Nat.not_lt_zero _)⟩
  | n + 1 => by
    obtain ⟨i1, i2⟩ := chF_ge (P := P) (row := row) (M := M) (v := v) (a := a) n
    have e : chF P M row v a (n + 1) = if chF P M row v a n < P n ∧ P n ≤ P M ∧ row n = v then P n else chF P M row v a n := rfl
    rw [e]
    by_cases k : chF P M row v a n < P n ∧ P n ≤ P M ∧ row n = v
    · rw [if_pos k]
      refine ⟨by omega, fun c hc h1 h2 => ?_⟩
      by_cases q : c = n
      · rw [q]; exact Int.le_refl _
      · have := i2 c (by omega) h1 h2
        omega
    · rw [if_neg k]
      refine ⟨i1, fun c hc h1 h2 => ?_⟩
      by_cases q : c = n
      · subst q
        by_cases z : chF P M row v a c < P c
        · exact absurd ⟨z, h1, h2⟩ k
        · omega
      · exact i2 c (by omega) h1 h2
theorem chF_in {P row : Nat → Int} {M : Nat} {v a : Int} : ∀ n : Nat, chF P M row v a n = a ∨ ∃ c : Nat, c < n ∧ P c = chF P M row v a n ∧ P c ≤ P M ∧ row c = v
  | 0 => Or.inl rfl
  | n + 1 => by
    have ih := chF_in (P := P) (row := row) (M := M) (v := v) (a := a) n
    have e : chF P M row v a (n + 1) = if chF P M row v a n < P n ∧ P n ≤ P M ∧ row n = v then P n else chF P M row v a n := rfl
    rw [e]
    by_cases k : chF P M row v a n < P n ∧ P n ≤ P M ∧ row n = v
    · rw [if_pos k]
      exact Or.inr ⟨n, by omega, rfl, k.2.1, k.2.2⟩
    · rw [if_neg k]
      exact ih.imp id fun ⟨c, h1, h2⟩ => ⟨c, by omega, h2⟩
noncomputable def chK (sp : Nat → Int) (q d : Nat) (a : Int) : Int := chF (totF sp) (q + 1) (psS sp q d) (lpF (totF sp) (q + 1) (psS sp q d) a (q + 2)) a (q + 2)
noncomputable def chR (sp : Nat → Int) (q : Nat) : Nat → Int → List Int
  | 0, _ => []
  | d + 1, a => (totF sp (q - d) - chK sp q d a) :: chR sp q d (chK sp q d a)
noncomputable def chS (sp : Nat → Int) (q : Nat) : Nat → Int → Int
  | 0, _ => 0
  | d + 1, a => abZ (totF sp (q - d) - chK sp q d a) + chS sp q d (chK sp q d a)
/-! functions that are convex, their least from a place on -/
noncomputable def mnD (g : Nat → Int) : Nat → Int
  | 0 => g 0
  | j + 1 => min (g (j + 1)) (mnD g j)
theorem mnD_le {g : Nat → Int} : ∀ j i : Nat, i ≤ j → mnD g j ≤ g i
  | 0, i, h => by rw [show i = 0 by omega]; exact Int.le_refl _
  | j + 1, i, h => by
    show min (g (j + 1)) (mnD g j) ≤ g i
    by_cases c : i = j + 1
    · rw [c]; omega
    · have := mnD_le (g := g) j i (by omega)
      omega
theorem mnD_ex {g : Nat → Int} : ∀ j : Nat, ∃ i : Nat, i ≤ j ∧ g i = mnD g j ∧ ∀ k : Nat, k < i → mnD g j < g k
  | 0 => ⟨0, Nat.le_refl _, rfl, fun k h => absurd h (Nat.not_lt_zero _)⟩
  | j + 1 => by
    obtain ⟨i, h1, h2, h3⟩ := mnD_ex (g := g) j
    have e : mnD g (j + 1) = min (g (j + 1)) (mnD g j) := rfl
    by_cases c : g (j + 1) < mnD g j
    · refine ⟨j + 1, Nat.le_refl _, by rw [e]; omega, fun k hk => ?_⟩
      have := mnD_le (g := g) j k (by omega)
      rw [e]
      omega
    · refine ⟨i, by omega, by rw [e]; omega, fun k hk => ?_⟩
      have := h3 k hk
      rw [e]
      omega
theorem mnD_st {g : Nat → Int} (cv : ∀ j : Nat, 2 * g (j + 1) ≤ g j + g (j + 2)) : ∀ j : Nat, mnD g j = g j ∨ g j ≤ g (j + 1)
  | 0 => Or.inl rfl
  | j + 1 => by
    have ih := mnD_st cv j
    have c := cv j
    show min (g (j + 1)) (mnD g j) = g (j + 1) ∨ g (j + 1) ≤ g (j + 2)
    omega
theorem mnD_cv {g : Nat → Int} (cv : ∀ j : Nat, 2 * g (j + 1) ≤ g j + g (j + 2)) (j : Nat) : 2 * mnD g (j + 1) ≤ mnD g j + mnD g (j + 2) := by
  have st := mnD_st cv j
  have c := cv j
  have l := mnD_le (g := g) j j (Nat.le_refl _)
  show 2 * min (g (j + 1)) (mnD g j) ≤ mnD g j + min (g (j + 2)) (min (g (j + 1)) (mnD g j))
  omega
theorem mnD_af {g : Nat → Int} (cv : ∀ j : Nat, 2 * g (j + 1) ≤ g j + g (j + 2)) {j : Nat} (h : 2 * g (j + 1) = g j + g (j + 2)) : 2 * mnD g (j + 1) = mnD g j + mnD g (j + 2) := by
  have st := mnD_st cv j
  have l := mnD_le (g := g) j j (Nat.le_refl _)
  show 2 * min (g (j + 1)) (mnD g j) = mnD g j + min (g (j + 2)) (min (g (j + 1)) (mnD g j))
  omega
theorem abZ_cv {p t : Int} : 2 * abZ (p - (t - 1)) ≤ abZ (p - t) + abZ (p - (t - 2)) := by unfold abZ; split <;> split <;> split <;> omega
theorem abZ_af {p t : Int} (h : p ≠ t - 1) : 2 * abZ (p - (t - 1)) = abZ (p - t) + abZ (p - (t - 2)) := by unfold abZ; split <;> split <;> split <;> omega
noncomputable def gD (sp : Nat → Int) (q : Nat) : Nat → Nat → Int
  | 0 => fun j => abZ (totF sp q - (totF sp (q + 1) - (j : Int)))
  | d + 1 => fun j => abZ (totF sp (q - (d + 1)) - (totF sp (q + 1) - (j : Int))) + mnD (gD sp q d) j
noncomputable def vD (sp : Nat → Int) (q : Nat) : Nat → Nat → Int
  | 0 => fun _ => 0
  | d + 1 => fun j => mnD (gD sp q d) j
theorem gD_v {sp : Nat → Int} {q : Nat} : ∀ d j : Nat, gD sp q d j = abZ (totF sp (q - d) - (totF sp (q + 1) - (j : Int))) + vD sp q d j
  | 0, j => (Int.add_zero _).symm
  | d + 1, j => rfl
theorem gD_cv {sp : Nat → Int} {q : Nat} : ∀ d : Nat, (∀ j : Nat, 2 * gD sp q d (j + 1) ≤ gD sp q d j + gD sp q d (j + 2)) ∧ ∀ j : Nat, (∀ c : Nat, c ≤ q + 1 → totF sp c ≠ totF sp (q + 1) - ((j + 1 : Nat) : Int)) → 2 * gD sp q d (j + 1) = gD sp q d j + gD sp q d (j + 2)
  | 0 => by
    refine ⟨fun j => ?_, fun j h => ?_⟩
    · have z := abZ_cv (p := totF sp q) (t := totF sp (q + 1) - (j : Int))
      rw [show totF sp (q + 1) - (j : Int) - 1 = totF sp (q + 1) - ((j + 1 : Nat) : Int) by omega, show totF sp (q + 1) - (j : Int) - 2 = totF sp (q + 1) - ((j + 2 : Nat) : Int) by omega] at z
      exact z
    · have z := abZ_af (p := totF sp q) (t := totF sp (q + 1) - (j : Int)) (by have := h q (by omega); omega)
      rw [show totF sp (q + 1) - (j : Int) - 1 = totF sp (q + 1) - ((j + 1 : Nat) : Int) by omega, show totF sp (q + 1) - (j : Int) - 2 = totF sp (q + 1) - ((j + 2 : Nat) : Int) by omega] at z
      exact z
  | d + 1 => by
    obtain ⟨i1, i2⟩ := gD_cv (sp := sp) (q := q) d
    refine ⟨fun j => ?_, fun j h => ?_⟩
    · have z := abZ_cv (p := totF sp (q - (d + 1))) (t := totF sp (q + 1) - (j : Int))
      rw [show totF sp (q + 1) - (j : Int) - 1 = totF sp (q + 1) - ((j + 1 : Nat) : Int) by omega, show totF sp (q + 1) - (j : Int) - 2 = totF sp (q + 1) - ((j + 2 : Nat) : Int) by omega] at z
      have m := mnD_cv i1 j
      show 2 * (abZ (totF sp (q - (d + 1)) - (totF sp (q + 1) - ((j + 1 : Nat) : Int))) + mnD (gD sp q d) (j + 1)) ≤ (abZ (totF sp (q - (d + 1)) - (totF sp (q + 1) - (j : Int))) + mnD (gD sp q d) j) + (abZ (totF sp (q - (d + 1)) - (totF sp (q + 1) - ((j + 2 : Nat) : Int))) + mnD (gD sp q d) (j + 2))
      omega
    · have z := abZ_af (p := totF sp (q - (d + 1))) (t := totF sp (q + 1) - (j : Int)) (by have := h (q - (d + 1)) (by omega); omega)
      rw [show totF sp (q + 1) - (j : Int) - 1 = totF sp (q + 1) - ((j + 1 : Nat) : Int) by omega, show totF sp (q + 1) - (j : Int) - 2 = totF sp (q + 1) - ((j + 2 : Nat) : Int) by omega] at z
      have m := mnD_af i1 (i2 j h)
      show 2 * (abZ (totF sp (q - (d + 1)) - (totF sp (q + 1) - ((j + 1 : Nat) : Int))) + mnD (gD sp q d) (j + 1)) = (abZ (totF sp (q - (d + 1)) - (totF sp (q + 1) - (j : Int))) + mnD (gD sp q d) j) + (abZ (totF sp (q - (d + 1)) - (totF sp (q + 1) - ((j + 2 : Nat) : Int))) + mnD (gD sp q d) (j + 2))
      omega
/-- a sum that some of the first MESSES have left -/
noncomputable def CD (sp : Nat → Int) (q : Nat) (a : Int) : Prop := ∃ c : Nat, c ≤ q + 1 ∧ totF sp c = a
theorem mn_cand {sp : Nat → Int} {q d : Nat} {a : Int} (ha : a ≤ totF sp (q + 1)) (hc : CD sp q a) {i : Nat} (h1 : i ≤ (totF sp (q + 1) - a).toNat) (h2 : gD sp q d i = mnD (gD sp q d) (totF sp (q + 1) - a).toNat) (h3 : ∀ k : Nat, k < i → mnD (gD sp q d) (totF sp (q + 1) - a).toNat < gD sp q d k) : CD sp q (totF sp (q + 1) - (i : Int)) := by
  refine Classical.byContradiction fun no => ?_
  have n0 : i ≠ 0 := fun z => no ⟨q + 1, Nat.le_refl _, by rw [z]; omega⟩
  have n1 : i ≠ (totF sp (q + 1) - a).toNat := fun z => by
    obtain ⟨c, c1, c2⟩ := hc
    exact no ⟨c, c1, by rw [c2]; omega⟩
  obtain ⟨j, rfl⟩ : ∃ j : Nat, i = j + 1 := ⟨i - 1, by omega⟩
  have af := (gD_cv (sp := sp) (q := q) d).2 j fun c c1 c2 => no ⟨c, c1, c2⟩
  have lo := h3 j (by omega)
  have hi := mnD_le (g := gD sp q d) (totF sp (q + 1) - a).toNat (j + 2) (by omega)
  omega
theorem totF_d {sp : Nat → Int} {k : Nat} : ∀ j : Nat, (∀ m : Nat, m < k + j → -891 ≤ sp m ∧ sp m ≤ 99) → totF sp (k + j) - totF sp k ≤ 99 * (j : Int) ∧ -891 * (j : Int) ≤ totF sp (k + j) - totF sp k
  | 0, _ => by rw [Nat.add_zero]; omega
  | j + 1, h => by
    have ih := totF_d (sp := sp) (k := k) j fun m hm => h m (by omega)
    have := h (k + j) (by omega)
    have e : totF sp (k + (j + 1)) = totF sp (k + j) + sp (k + j) := rfl
    omega
section SH
variable {sp : Nat → Int} {q : Nat}
theorem gD_0b (hq : q ≤ 7) (hb : ∀ m : Nat, m ≤ q → -891 ≤ sp m ∧ sp m ≤ 99) (hT : 0 ≤ totF sp (q + 1)) : ∀ d : Nat, d ≤ q → gD sp q d 0 ≤ 800 * ((d : Int) + 1)
  | 0, _ => by
    have a := totF_d (sp := sp) (k := q) 1 fun m hm => hb m (by omega)
    have b := totF_d (sp := sp) (k := 0) q fun m hm => hb m (by omega)
    have z : totF sp 0 = 0 := rfl
    rw [Nat.zero_add, z] at b
    have e := (abZ_b (y := totF sp q - (totF sp (q + 1) - ((0 : Nat) : Int))) (by omega)).2
    show abZ (totF sp q - (totF sp (q + 1) - ((0 : Nat) : Int))) ≤ 800 * (((0 : Nat) : Int) + 1)
    omega
  | d + 1, h => by
    have ih := gD_0b hq hb hT d (by omega)
    have a := totF_d (sp := sp) (k := q - (d + 1)) (d + 2) fun m hm => hb m (by omega)
    have b := totF_d (sp := sp) (k := 0) (q - (d + 1)) fun m hm => hb m (by omega)
    have z : totF sp 0 = 0 := rfl
    rw [Nat.zero_add, z] at b
    rw [show q - (d + 1) + (d + 2) = q + 1 by omega] at a
    have e := (abZ_b (y := totF sp (q - (d + 1)) - (totF sp (q + 1) - ((0 : Nat) : Int))) (by omega)).2
    show abZ (totF sp (q - (d + 1)) - (totF sp (q + 1) - ((0 : Nat) : Int))) + gD sp q d 0 ≤ 800 * (((d + 1 : Nat) : Int) + 1)
    omega
theorem mn_b (hq : q ≤ 7) (hb : ∀ m : Nat, m ≤ q → -891 ≤ sp m ∧ sp m ≤ 99) (hT : 0 ≤ totF sp (q + 1)) {d : Nat} (hd : d ≤ q) (j : Nat) : mnD (gD sp q d) j ≤ 6400 := by
  have a := gD_0b hq hb hT d hd
  have b := mnD_le (g := gD sp q d) j 0 (by omega)
  omega
theorem lp_mn (hq : q ≤ 7) (hb : ∀ m : Nat, m ≤ q → -891 ≤ sp m ∧ sp m ≤ 99) (hT : 0 ≤ totF sp (q + 1)) {d : Nat} (hd : d ≤ q) (hr : ∀ c : Nat, c ≤ q + 1 → totF sp c ≤ totF sp (q + 1) → psS sp q d c = gD sp q d (totF sp (q + 1) - totF sp c).toNat) {a : Int} (ha : a ≤ totF sp (q + 1)) (hc : CD sp q a) : lpF (totF sp) (q + 1) (psS sp q d) a (q + 2) = mnD (gD sp q d) (totF sp (q + 1) - a).toNat := by
  have b := mn_b hq hb hT hd (totF sp (q + 1) - a).toNat
  have ge := lpF_ge (P := totF sp) (M := q + 1) (row := psS sp q d) (a := a) (v := mnD (gD sp q d) (totF sp (q + 1) - a).toNat) (by omega) (q + 2) fun c c1 c2 c3 => by
    rw [hr c (by omega) c3]
    exact mnD_le _ _ (by omega)
  obtain ⟨i, h1, h2, h3⟩ := mnD_ex (g := gD sp q d) (totF sp (q + 1) - a).toNat
  obtain ⟨c, c1, c2⟩ := mn_cand ha hc h1 h2 h3
  have le := lpF_le (P := totF sp) (M := q + 1) (row := psS sp q d) (a := a) (q + 2) c (by omega) (by omega) (by omega)
  rw [hr c c1 (by omega), c2, show (totF sp (q + 1) - (totF sp (q + 1) - (i : Int))).toNat = i by omega, h2] at le
  omega
theorem psS_gD (hq : q ≤ 7) (hb : ∀ m : Nat, m ≤ q → -891 ≤ sp m ∧ sp m ≤ 99) (hT : 0 ≤ totF sp (q + 1)) : ∀ d : Nat, d ≤ q → ∀ c : Nat, c ≤ q + 1 → totF sp c ≤ totF sp (q + 1) → psS sp q d c = gD sp q d (totF sp (q + 1) - totF sp c).toNat
  | 0, _, c, _, h => by
    show abZ (totF sp q - totF sp c) = abZ (totF sp q - (totF sp (q + 1) - (((totF sp (q + 1) - totF sp c).toNat : Nat) : Int)))
    rw [show totF sp (q + 1) - (((totF sp (q + 1) - totF sp c).toNat : Nat) : Int) = totF sp c by omega]
  | d + 1, hd, c, hc, h => by
    show abZ (totF sp (q - (d + 1)) - totF sp c) + lpF (totF sp) (q + 1) (psS sp q d) (totF sp c) (q + 2) = abZ (totF sp (q - (d + 1)) - (totF sp (q + 1) - (((totF sp (q + 1) - totF sp c).toNat : Nat) : Int))) + mnD (gD sp q d) (totF sp (q + 1) - totF sp c).toNat
    rw [lp_mn hq hb hT (by omega) (psS_gD hq hb hT d (by omega)) h ⟨c, hc, rfl⟩, show totF sp (q + 1) - (((totF sp (q + 1) - totF sp c).toNat : Nat) : Int) = totF sp c by omega]
/-- what is kept: the most of what costs least -/
theorem chK_ok (hq : q ≤ 7) (hb : ∀ m : Nat, m ≤ q → -891 ≤ sp m ∧ sp m ≤ 99) (hT : 0 ≤ totF sp (q + 1)) {d : Nat} (hd : d ≤ q) {a : Int} (ha : a ≤ totF sp (q + 1)) (hc : CD sp q a) :
    (a ≤ chK sp q d a ∧ chK sp q d a ≤ totF sp (q + 1)) ∧ CD sp q (chK sp q d a) ∧ gD sp q d (totF sp (q + 1) - chK sp q d a).toNat = mnD (gD sp q d) (totF sp (q + 1) - a).toNat ∧ ∀ k : Nat, (k : Int) < totF sp (q + 1) - chK sp q d a → mnD (gD sp q d) (totF sp (q + 1) - a).toNat < gD sp q d k := by
  have hr := psS_gD hq hb hT d hd
  have lm := lp_mn hq hb hT hd hr ha hc
  obtain ⟨i, h1, h2, h3⟩ := mnD_ex (g := gD sp q d) (totF sp (q + 1) - a).toNat
  obtain ⟨c, c1, c2⟩ := mn_cand ha hc h1 h2 h3
  obtain ⟨g1, g2⟩ := chF_ge (P := totF sp) (M := q + 1) (row := psS sp q d) (v := lpF (totF sp) (q + 1) (psS sp q d) a (q + 2)) (a := a) (q + 2)
  have gi := chF_in (P := totF sp) (M := q + 1) (row := psS sp q d) (v := lpF (totF sp) (q + 1) (psS sp q d) a (q + 2)) (a := a) (q + 2)
  have up := g2 c (by omega) (by omega) (by rw [lm, hr c c1 (by omega), c2, show (totF sp (q + 1) - (totF sp (q + 1) - (i : Int))).toNat = i by omega, h2])
  have ke : chK sp q d a = totF sp (q + 1) - (i : Int) := by
    show chF (totF sp) (q + 1) (psS sp q d) (lpF (totF sp) (q + 1) (psS sp q d) a (q + 2)) a (q + 2) = _
    rcases gi with e | ⟨k, k1, k2, k3, k4⟩
    · rw [e] at up ⊢
      omega
    · rw [← k2] at up ⊢
      rw [lm, hr k (by omega) k3] at k4
      have z : ¬ (totF sp (q + 1) - totF sp k).toNat < i := fun z => by
        have := h3 _ z
        omega
      omega
  rw [ke]
  refine ⟨⟨by omega, by omega⟩, ⟨c, c1, c2⟩, ?_, fun k hk => h3 k (by omega)⟩
  rw [show (totF sp (q + 1) - (totF sp (q + 1) - (i : Int))).toNat = i by omega]
  exact h2
theorem mnR_ge {g : Int → Int} {v : Int} (h0 : v ≤ 1000000) : ∀ n : Nat, (∀ k : Nat, k < n → v ≤ g (-800 + k)) → v ≤ mnR g n
  | 0, _ => h0
  | n + 1, h => by
    have ih := mnR_ge h0 n fun k hk => h k (by omega)
    have := h n (by omega)
    show v ≤ min (mnR g n) (g (-800 + n))
    omega
/-- the reference's costs are these -/
theorem yF_v (hq : q ≤ 7) (hb : ∀ m : Nat, m ≤ q → -891 ≤ sp m ∧ sp m ≤ 99) (hT : 0 ≤ totF sp (q + 1)) : ∀ d : Nat, d ≤ q → ∀ a : Int, 0 ≤ a → (a ≤ totF sp (q + 1) → yF sp q d (totF sp (q - d) - a) = vD sp q d (totF sp (q + 1) - a).toNat) ∧ (totF sp (q + 1) < a → yF sp q d (totF sp (q - d) - a) = 1000000)
  | 0, _, a, _ => by
    have e : totF sp (q + 1) = totF sp q + sp q := rfl
    constructor
    · intro h
      show (if 0 ≤ totF sp (q - 0) - a + sp q then (0 : Int) else 1000000) = 0
      rw [if_pos (by rw [Nat.sub_zero]; omega)]
    · intro h
      show (if 0 ≤ totF sp (q - 0) - a + sp q then (0 : Int) else 1000000) = 1000000
      rw [if_neg (by rw [Nat.sub_zero]; omega)]
  | d + 1, hd, a, ha => by
    have ih := yF_v hq hb hT d (by omega)
    have e : totF sp (q - d) = totF sp (q - (d + 1)) + sp (q - (d + 1)) := by
      rw [show q - d = (q - (d + 1)) + 1 by omega]
      rfl
    have t1 := totF_d (sp := sp) (k := q - d) (d + 1) fun m hm => hb m (by omega)
    rw [show q - d + (d + 1) = q + 1 by omega] at t1
    have t2 := totF_d (sp := sp) (k := 0) (q - d) fun m hm => hb m (by omega)
    have z0 : totF sp 0 = 0 := rfl
    rw [Nat.zero_add, z0] at t2
    have ex : totF sp (q - (d + 1)) - a + sp (q - (d + 1)) = totF sp (q - d) - a := by omega
    have gy : ∀ K : Int, 0 ≤ K → K ≤ totF sp (q + 1) → abZ (totF sp (q - d) - K) + yF sp q d (totF sp (q - d) - K) = gD sp q d (totF sp (q + 1) - K).toNat := fun K k0 k1 => by
      rw [(ih K k0).1 k1, gD_v, show totF sp (q + 1) - (((totF sp (q + 1) - K).toNat : Nat) : Int) = K by omega]
    have gf : ∀ K : Int, 0 ≤ K → totF sp (q + 1) < K → 1000000 ≤ abZ (totF sp (q - d) - K) + yF sp q d (totF sp (q - d) - K) := fun K k0 k1 => by
      have := (ih K k0).2 k1
      have := abZ_nn (totF sp (q - d) - K)
      omega
    have ye : yF sp q (d + 1) (totF sp (q - (d + 1)) - a) = mnR (fun y => abZ y + yF sp q d y) (min 800 (totF sp (q - d) - a) + 801).toNat := by
      show mnR (fun y => abZ y + yF sp q d y) (min 800 (totF sp (q - (d + 1)) - a + sp (q - (d + 1))) + 801).toNat = _
      rw [ex]
    have lo : ∀ v : Int, v ≤ 1000000 → (a ≤ totF sp (q + 1) → v ≤ mnD (gD sp q d) (totF sp (q + 1) - a).toNat) → v ≤ mnR (fun y => abZ y + yF sp q d y) (min 800 (totF sp (q - d) - a) + 801).toNat := fun v v0 v1 => mnR_ge v0 _ fun k hk => by
      show v ≤ abZ (-800 + (k : Int)) + yF sp q d (-800 + (k : Int))
      have ke : -800 + (k : Int) = totF sp (q - d) - (totF sp (q - d) - (-800 + (k : Int))) := by omega
      rw [ke]
      by_cases c : totF sp (q - d) - (-800 + (k : Int)) ≤ totF sp (q + 1)
      · rw [gy _ (by omega) c]
        have y := mnD_le (g := gD sp q d) (totF sp (q + 1) - a).toNat (totF sp (q + 1) - (totF sp (q - d) - (-800 + (k : Int)))).toNat (by omega)
        have := v1 (by omega)
        omega
      · have := gf (totF sp (q - d) - (-800 + (k : Int))) (by omega) (by omega)
        omega
    constructor
    · intro h
      rw [ye]
      show _ = mnD (gD sp q d) (totF sp (q + 1) - a).toNat
      have mb := mn_b hq hb hT (d := d) (by omega) (totF sp (q + 1) - a).toNat
      have ge := lo (mnD (gD sp q d) (totF sp (q + 1) - a).toNat) (by omega) fun _ => Int.le_refl _
      obtain ⟨i, h1, h2, h3⟩ := mnD_ex (g := gD sp q d) (totF sp (q + 1) - a).toNat
      have le := mnR_le (g := fun y => abZ y + yF sp q d y) (min 800 (totF sp (q - d) - a) + 801).toNat (totF sp (q - d) - (totF sp (q + 1) - (i : Int)) + 800).toNat (by omega)
      have le : mnR (fun y => abZ y + yF sp q d y) (min 800 (totF sp (q - d) - a) + 801).toNat ≤ abZ (-800 + (((totF sp (q - d) - (totF sp (q + 1) - (i : Int)) + 800).toNat : Nat) : Int)) + yF sp q d (-800 + (((totF sp (q - d) - (totF sp (q + 1) - (i : Int)) + 800).toNat : Nat) : Int)) := le
      rw [show -800 + (((totF sp (q - d) - (totF sp (q + 1) - (i : Int)) + 800).toNat : Nat) : Int) = totF sp (q - d) - (totF sp (q + 1) - (i : Int)) by omega, gy _ (by omega) (by omega), show (totF sp (q + 1) - (totF sp (q + 1) - (i : Int))).toNat = i by omega, h2] at le
      omega
    · intro h
      rw [ye]
      have ge := lo 1000000 (Int.le_refl _) fun z => by omega
      have up := (mnR_b (g := fun y => abZ y + yF sp q d y) (fun k => fl_nn sp q d _) (min 800 (totF sp (q - d) - a) + 801).toNat).2
      omega
theorem fsF_at {g : Int → Int} {v y : Int} (hy : g y = v) : ∀ (n : Nat) (y0 : Int), y0 ≤ y → y < y0 + n → (∀ z : Int, y0 ≤ z → z < y → g z ≠ v) → fsF g v n y0 = y
  | 0, y0, h1, h2, _ => by omega
  | n + 1, y0, h1, h2, h3 => by
    show (if g y0 = v then y0 else fsF g v n (y0 + 1)) = y
    by_cases c : y0 = y
    · rw [c, if_pos hy]
    · rw [if_neg (h3 y0 (Int.le_refl _) (by omega))]
      exact fsF_at hy n (y0 + 1) (by omega) (by omega) fun z z1 z2 => h3 z (by omega) z2
theorem sh_d (hq : q ≤ 7) (hb : ∀ m : Nat, m ≤ q → -891 ≤ sp m ∧ sp m ≤ 99) (hT : 0 ≤ totF sp (q + 1)) : ∀ d : Nat, d ≤ q → ∀ a : Int, 0 ≤ a → a ≤ totF sp (q + 1) → CD sp q a → yF sp q d (totF sp (q - d) - a) = chS sp q d a ∧ shRow sp q d (totF sp (q - d) - a) = chR sp q d a
  | 0, _, a, h0, h1, _ => ⟨((yF_v hq hb hT 0 (Nat.zero_le _) a h0).1 h1).trans rfl, rfl⟩
  | d + 1, hd, a, h0, h1, hc => by
    obtain ⟨⟨k1, k2⟩, k3, k4, k5⟩ := chK_ok hq hb hT (d := d) (by omega) h1 hc
    obtain ⟨i1, i2⟩ := sh_d hq hb hT d (by omega) (chK sp q d a) (by omega) k2 k3
    have yv := (yF_v hq hb hT (d + 1) hd a h0).1 h1
    have yv : yF sp q (d + 1) (totF sp (q - (d + 1)) - a) = mnD (gD sp q d) (totF sp (q + 1) - a).toNat := yv
    have ih := yF_v hq hb hT d (by omega)
    have t1 := totF_d (sp := sp) (k := q - d) (d + 1) fun m hm => hb m (by omega)
    rw [show q - d + (d + 1) = q + 1 by omega] at t1
    have t2 := totF_d (sp := sp) (k := 0) (q - d) fun m hm => hb m (by omega)
    have z0 : totF sp 0 = 0 := rfl
    rw [Nat.zero_add, z0] at t2
    have gy : ∀ K : Int, 0 ≤ K → K ≤ totF sp (q + 1) → abZ (totF sp (q - d) - K) + yF sp q d (totF sp (q - d) - K) = gD sp q d (totF sp (q + 1) - K).toNat := fun K k0 k1 => by
      rw [(ih K k0).1 k1, gD_v, show totF sp (q + 1) - (((totF sp (q + 1) - K).toNat : Nat) : Int) = K by omega]
    have vK := gy (chK sp q d a) (by omega) k2
    rw [k4, ← yv] at vK
    have fs : fsF (fun y => abZ y + yF sp q d y) (yF sp q (d + 1) (totF sp (q - (d + 1)) - a)) 1601 (-800) = totF sp (q - d) - chK sp q d a := by
      refine fsF_at (g := fun y => abZ y + yF sp q d y) (y := totF sp (q - d) - chK sp q d a) vK 1601 (-800) (by omega) (by omega) fun z z1 z2 e => ?_
      have e : abZ z + yF sp q d z = yF sp q (d + 1) (totF sp (q - (d + 1)) - a) := e
      have ze : z = totF sp (q - d) - (totF sp (q - d) - z) := by omega
      rw [ze, yv] at e
      by_cases c : totF sp (q - d) - z ≤ totF sp (q + 1)
      · rw [gy _ (by omega) c] at e
        have := k5 (totF sp (q + 1) - (totF sp (q - d) - z)).toNat (by omega)
        omega
      · have y1 := (ih (totF sp (q - d) - z) (by omega)).2 (by omega)
        have y2 := abZ_nn (totF sp (q - d) - (totF sp (q - d) - z))
        have y3 := mn_b hq hb hT (d := d) (by omega) (totF sp (q + 1) - a).toNat
        omega
    constructor
    · show yF sp q (d + 1) (totF sp (q - (d + 1)) - a) = abZ (totF sp (q - d) - chK sp q d a) + chS sp q d (chK sp q d a)
      rw [← i1, ← vK]
    · show fsF (fun y => abZ y + yF sp q d y) (yF sp q (d + 1) (totF sp (q - (d + 1)) - a)) 1601 (-800) :: shRow sp q d (fsF (fun y => abZ y + yF sp q d y) (yF sp q (d + 1) (totF sp (q - (d + 1)) - a)) 1601 (-800)) = (totF sp (q - d) - chK sp q d a) :: chR sp q d (chK sp q d a)
      rw [fs, i2]
theorem sh_eq (hq : q ≤ 7) (hb : ∀ m : Nat, m ≤ q → -891 ≤ sp m ∧ sp m ≤ 99) (hT : 0 ≤ totF sp (q + 1)) : yF sp q q 0 = chS sp q q 0 ∧ shRow sp q q 0 = chR sp q q 0 := by
  have z := sh_d hq hb hT q (Nat.le_refl _) 0 (Int.le_refl _) hT ⟨0, by omega, rfl⟩
  rw [Nat.sub_self, show totF sp 0 - 0 = 0 from rfl] at z
  exact z
end SH
set_option maxRecDepth 4000 in
theorem ctX10_leastPassing {SP : CT} (hSP : MONO SP) {sh : List (Nat × Nat)} {h : aH} (hG : GD gE gRL sh h) {i a : Int} (hP : PT h) (hi : 0 ≤ i ∧ i ≤ 7) (ra : r32 a) : CLd SP 1 mX10_leastPassing [.ref 0, .int (I i), .int (I a)] h 0 0 (fun rv h' => h' = h ∧ rv = some (.int (I (lpF (fun c => gi h 161 c) (gi h 0 9).toNat (fun c => gi h (163 + i.toNat) c) a ((gi h 0 9).toNat + 1))))) := by
  refine x_met _ rfl (Nat.le_of_ble_eq_true rfl) (fun K hK => ?_)
  have hmono := MONO_CLd hSP 0
  have g9 := gri 0 8 hG (a := 0) (r := 0) (k := 9) rfl rfl
  have loop : ∀ (mz : Nat) (e c : Int) (ls : List (Nat × Value)), (((gi h 0 9) + 1 - c).toNat = mz) → (0 ≤ c ∧ c ≤ (gi h 0 9) + 1) → (r32 e) → (e = lpF (fun c => gi h 161 c) (gi h 0 9).toNat (fun c => gi h (163 + i.toNat) c) a c.toNat) → lk ls 0 = some (.ref 0) → lk ls 1 = some (.int (I i)) → lk ls 2 = some (.int (I a)) → lk ls 3 = some (.int (I e)) → lk ls 4 = some (.int (I c)) → K 7 ls [] h 0 0 := by
    intro mz
    induction mz using Nat.strongRecOn with
    | ind mz ih =>
    intro e c ls hm c0 re ee l0 l1 l2 l3 l4
    have gr := gi_r h (163 + i.toNat) c.toNat
    refine x_iload 9 hK rfl rfl l4 ?_
    refine x_aload_n 10 hK rfl rfl l0 ?_
    have g661 := gri (0) (8) hG (a := 0) (r := 0) (k := 9) rfl rfl
    refine x_getE 13 hK rfl (Or.inl rfl) rfl (sp_0 (h := h) hG) (e := (gi h 0 9)) (rfl) ?_
    refine x_if_icmp_gt 66 16 hK rfl rfl rfl (by omega) (by omega) (fun c4 => ?_) (fun c4 => ?_)
    · refine x_iload_n 67 hK rfl rfl l3 ?_
      exact x_iret hK rfl ⟨rfl, by rw [ee, show c.toNat = (gi h 0 9).toNat + 1 by omega]⟩
    · refine x_aload_n 17 hK rfl rfl l0 ?_
      refine x_getR 20 hK rfl rfl (sp_0 (h := h) hG) (rf_0_15 (h := h) hG) ?_
      refine x_iload 22 hK rfl rfl l4 ?_
      have g662 := gi_r h 161 c.toNat
      refine x_ialoadE 23 hK rfl rfl (sp_161 (h := h) hG) (by omega) (by omega) (by omega) (e' := (gi h 161 c.toNat)) (rfl) ?_
      refine x_iload_n 24 hK rfl rfl l2 ?_
      refine x_if_icmp_lt 60 27 hK rfl rfl rfl (by omega) (by omega) (fun c12 => ?_) (fun c12 => ?_)
      · refine x_iinc 63 hK rfl rfl l4 _ rfl ?_
        refine x_goto 7 hK rfl rfl ?_
        exact ih _ (by omega) e (c + 1) _ rfl (by omega) (by omega) (by rw [lpF_s c0.1, if_neg (show ¬ (a ≤ gi h 161 c.toNat ∧ gi h 161 c.toNat ≤ gi h 161 (gi h 0 9).toNat) by omega), ← ee]) (lk1_n l0 (by decide) (Or.inl rfl)) (lk1_n l1 (by decide) (Or.inl rfl)) (lk1_n l2 (by decide) (Or.inl rfl)) (lk1_n l3 (by decide) (Or.inl rfl)) lk1_s
      · refine x_aload_n 28 hK rfl rfl l0 ?_
        refine x_getR 31 hK rfl rfl (sp_0 (h := h) hG) (rf_0_15 (h := h) hG) ?_
        refine x_iload 33 hK rfl rfl l4 ?_
        refine x_ialoadE 34 hK rfl rfl (sp_161 (h := h) hG) (by omega) (by omega) (by omega) (e' := (gi h 161 c.toNat)) (rfl) ?_
        refine x_aload_n 35 hK rfl rfl l0 ?_
        refine x_getR 38 hK rfl rfl (sp_0 (h := h) hG) (rf_0_15 (h := h) hG) ?_
        refine x_aload_n 39 hK rfl rfl l0 ?_
        refine x_getE 42 hK rfl (Or.inl rfl) rfl (sp_0 (h := h) hG) (e := (gi h 0 9)) (rfl) ?_
        have g663 := gi_r h 161 (gi h 0 9).toNat
        refine x_ialoadE 43 hK rfl rfl (sp_161 (h := h) hG) (by omega) (by omega) (by omega) (e' := (gi h 161 (gi h 0 9).toNat)) (rfl) ?_
        refine x_if_icmp_gt 60 46 hK rfl rfl rfl (by omega) (by omega) (fun c25 => ?_) (fun c25 => ?_)
        · refine x_iinc 63 hK rfl rfl l4 _ rfl ?_
          refine x_goto 7 hK rfl rfl ?_
          exact ih _ (by omega) e (c + 1) _ rfl (by omega) (by omega) (by rw [lpF_s c0.1, if_neg (show ¬ (a ≤ gi h 161 c.toNat ∧ gi h 161 c.toNat ≤ gi h 161 (gi h 0 9).toNat) by omega), ← ee]) (lk1_n l0 (by decide) (Or.inl rfl)) (lk1_n l1 (by decide) (Or.inl rfl)) (lk1_n l2 (by decide) (Or.inl rfl)) (lk1_n l3 (by decide) (Or.inl rfl)) lk1_s
        · refine x_iload_n 47 hK rfl rfl l3 ?_
          refine x_aload_n 48 hK rfl rfl l0 ?_
          refine x_getR 51 hK rfl rfl (sp_0 (h := h) hG) (rf_0_16 (h := h) hG) ?_
          refine x_iload_n 52 hK rfl rfl l1 ?_
          refine x_aaload 53 hK rfl rfl (sp_162 (h := h) hG) (by decide) (by omega) (by omega) (by omega) (hP.2.2.2.1 _ (by omega)) ?_
          refine x_iload 55 hK rfl rfl l4 ?_
          refine x_ialoadE 56 hK rfl rfl (shx (h := h) hG (r := 53) (ps_r1 _ (by omega)) rfl) (by omega) (by omega) (by omega) (e' := (gi h (163 + i.toNat) c.toNat)) (rfl) ?_
          refine x_min 59 hK rfl rfl (Nat.le_of_ble_eq_true rfl) (by omega) (by omega) ?_
          refine x_istore_n 60 hK rfl rfl _ rfl ?_
          refine x_iinc 63 hK rfl rfl (lk1_n l4 (by decide) (Or.inl rfl)) _ rfl ?_
          refine x_goto 7 hK rfl rfl ?_
          exact ih _ (by omega) (min e (gi h (163 + i.toNat) c.toNat)) (c + 1) _ rfl (by omega) (by omega) (by rw [lpF_s c0.1, if_pos (show (a ≤ gi h 161 c.toNat ∧ gi h 161 c.toNat ≤ gi h 161 (gi h 0 9).toNat) by omega), ← ee]) (lk1_n (lk1_n l0 (by decide) (Or.inl rfl)) (by decide) (Or.inl rfl)) (lk1_n (lk1_n l1 (by decide) (Or.inl rfl)) (by decide) (Or.inl rfl)) (lk1_n (lk1_n l2 (by decide) (Or.inl rfl)) (by decide) (Or.inl rfl)) (lk1_n lk1_s (by decide) (Or.inl rfl)) lk1_s
  refine x_ldc_w 3 hK rfl rfl ?_
  refine x_istore_n 4 hK rfl rfl [(3, .int (I 1000000)), (0, .ref 0), (1, .int (I i)), (2, .int (I a))] rfl ?_
  refine x_iconst 5 hK rfl rfl ?_
  refine x_istore 7 hK rfl rfl [(4, .int (I 0)), (3, .int (I 1000000)), (0, .ref 0), (1, .int (I i)), (2, .int (I a))] rfl ?_
  exact loop _ 1000000 0 _ rfl (by omega) (by omega) (rfl) rfl rfl rfl rfl rfl
set_option maxRecDepth 4000 in
theorem ctX10_weighPassing {SP : CT} (hSP : MONO SP) {sh : List (Nat × Nat)} {h : aH} (hG : GD gE gRL sh h) {sp : Nat → Int} (hP : PT h) (h1 : 1 ≤ (gi h 0 9)) (lf : ∀ c : Nat, (c : Int) ≤ (gi h 0 9) → gi h 161 c = totF sp c) (lb : ∀ c : Nat, (c : Int) ≤ (gi h 0 9) → -8000 ≤ totF sp c ∧ totF sp c ≤ 8000) : CLd SP 2 mX10_weighPassing [.ref 0] h 0 0 (fun rv h' => rv = none ∧ GD gE gRL sh h' ∧ FRM gRL [(0, 53, 0, 8)] h h' ∧ ∀ i' c' : Nat, (i' : Int) ≤ (gi h 0 9) - 2 → (c' : Int) ≤ (gi h 0 9) → ((-1) < (i' : Int) ∨ ((i' : Int) = (-1) ∧ (c' : Int) < 0)) → gi h' (163 + i') c' = psS sp ((gi h 0 9) - 1).toNat (((gi h 0 9) - 1).toNat - 1 - i') c') := by
  refine x_met _ rfl (Nat.le_of_ble_eq_true rfl) (fun K hK => ?_)
  have hmono := MONO_CLd hSP 1
  have g9 := gri 0 8 hG (a := 0) (r := 0) (k := 9) rfl rfl
  have loopI : ∀ (mz : Nat) (i : Int) (h3 : aH) (ls : List (Nat × Value)), ((i + 1).toNat = mz) → (-1 ≤ i ∧ i ≤ (gi h 0 9) - 2) → (∀ i' c' : Nat, (i' : Int) ≤ (gi h 0 9) - 2 → (c' : Int) ≤ (gi h 0 9) → (i < (i' : Int) ∨ ((i' : Int) = i ∧ (c' : Int) < 0)) → gi h3 (163 + i') c' = psS sp ((gi h 0 9) - 1).toNat (((gi h 0 9) - 1).toNat - 1 - i') c') → lk ls 0 = some (.ref 0) → lk ls 1 = some (.int (I i)) → GD gE gRL sh h3 → FRM gRL [(0, 53, 0, 8)] h h3 → K 7 ls [] h3 0 0 := by
    intro mz
    induction mz using Nat.strongRecOn with
    | ind mz ih =>
    intro i h3 ls hm i0 t3 l0 l1 hG3 hF3
    have ihI := ih
    have loopC : ∀ (mz : Nat) (c : Int) (h4 : aH) (ls : List (Nat × Value)), (((gi h 0 9) + 1 - c).toNat = mz) → (0 ≤ i) → (0 ≤ c ∧ c ≤ (gi h 0 9) + 1) → (∀ i' c' : Nat, (i' : Int) ≤ (gi h 0 9) - 2 → (c' : Int) ≤ (gi h 0 9) → (i < (i' : Int) ∨ ((i' : Int) = i ∧ (c' : Int) < c)) → gi h4 (163 + i') c' = psS sp ((gi h 0 9) - 1).toNat (((gi h 0 9) - 1).toNat - 1 - i') c') → lk ls 0 = some (.ref 0) → lk ls 1 = some (.int (I i)) → lk ls 2 = some (.int (I c)) → GD gE gRL sh h4 → FRM gRL [(0, 53, 0, 8)] h h4 → K 13 ls [] h4 0 0 := by
      intro mz
      induction mz using Nat.strongRecOn with
      | ind mz ih =>
      intro c h4 ls hm i1 c0 t4 l0 l1 l2 hG4 hF4
      have m4 : gi h4 0 9 = (gi h 0 9) := FRM_gi hF4 (r := 0) rfl (by decide)
      have l4 : c ≤ (gi h 0 9) → gi h4 161 c.toNat = totF sp c.toNat := fun z => (FRM_gi hF4 (r := 51) rfl rfl).trans (lf c.toNat (by omega))
      have l5 : gi h4 161 (i + 1).toNat = totF sp (i + 1).toNat := (FRM_gi hF4 (r := 51) rfl rfl).trans (lf (i + 1).toNat (by omega))
      have b4 := fun z : c ≤ (gi h 0 9) => lb c.toNat (by omega)
      have b5 := lb (i + 1).toNat (by omega)
      refine x_iload_n 14 hK rfl rfl l2 ?_
      refine x_aload_n 15 hK rfl rfl l0 ?_
      have g664 := gri (0) (8) hG (a := 0) (r := 0) (k := 9) rfl rfl
      refine x_getE 18 hK rfl (Or.inl rfl) rfl (sp_0 (h := h4) hG4) (e := (gi h 0 9)) (m4) ?_
      refine x_if_icmp_gt 87 21 hK rfl rfl rfl (by omega) (by omega) (fun c4 => ?_) (fun c4 => ?_)
      · refine x_iinc 90 hK rfl rfl l1 _ rfl ?_
        refine x_goto 7 hK rfl rfl ?_
        exact ihI _ (by omega) (i + (-1)) _ _ rfl (by omega) (fun i' c' y1 y2 y3 => t4 i' c' y1 y2 (by omega)) (lk1_n l0 (by decide) (Or.inl rfl)) lk1_s (hG4) (hF4)
      · refine x_aload_n 22 hK rfl rfl l0 ?_
        refine x_getR 25 hK rfl rfl (sp_0 (h := h4) hG4) (rf_0_16 (h := h4) hG4) ?_
        refine x_iload_n 26 hK rfl rfl l1 ?_
        refine x_aaload 27 hK rfl rfl (sp_162 (h := h4) hG4) (by decide) (by omega) (by omega) (by omega) ((PT_F hF4 (by decide) hP).2.2.2.1 _ (by omega)) ?_
        refine x_iload_n 28 hK rfl rfl l2 ?_
        have b6 := b4 (by omega)
        refine x_aload_n 29 hK rfl rfl l0 ?_
        refine x_getR 32 hK rfl rfl (sp_0 (h := h4) hG4) (rf_0_15 (h := h4) hG4) ?_
        refine x_iload_n 33 hK rfl rfl l1 ?_
        refine x_iconst 34 hK rfl rfl ?_
        refine x_iadd 35 hK rfl rfl ?_
        refine x_ialoadE 36 hK rfl rfl (sp_161 (h := h4) hG4) (by omega) (by omega) (by omega) (e' := (totF sp (i + 1).toNat)) (l5) ?_
        refine x_aload_n 37 hK rfl rfl l0 ?_
        refine x_getR 40 hK rfl rfl (sp_0 (h := h4) hG4) (rf_0_15 (h := h4) hG4) ?_
        refine x_iload_n 41 hK rfl rfl l2 ?_
        refine x_ialoadE 42 hK rfl rfl (sp_161 (h := h4) hG4) (by omega) (by omega) (by omega) (e' := (totF sp c.toNat)) ((l4 (by omega))) ?_
        refine x_isub 43 hK rfl rfl ?_
        refine x_abs 46 hK rfl rfl (Nat.le_of_ble_eq_true rfl) (by omega) ?_
        change K 46 _ (.int (I (abZ (totF sp (i + 1).toNat - totF sp c.toNat))) :: _) _ _ _
        have ab := abZ_nn (totF sp (i + 1).toNat - totF sp c.toNat)
        have ab2 : abZ (totF sp (i + 1).toNat - totF sp c.toNat) ≤ 16000 := by unfold abZ; split <;> omega
        refine x_iastore 47 hK rfl rfl (shx (h := h4) hG4 (r := 53) (ps_r1 _ (by omega)) rfl) (by omega) (by omega) (by omega) ?_
        refine x_iload_n 48 hK rfl rfl l1 ?_
        refine x_aload_n 49 hK rfl rfl l0 ?_
        refine x_getE 52 hK rfl (Or.inl rfl) rfl (sp_0 (h := h4) hG4) (e := (gi h 0 9)) ((gi_a (by omega) _).trans (m4)) ?_
        refine x_iconst 53 hK rfl rfl ?_
        refine x_isub 54 hK rfl rfl ?_
        refine x_if_icmp_ge 81 57 hK rfl rfl rfl (by omega) (by omega) (fun c33 => ?_) (fun c33 => ?_)
        · refine x_iinc 84 hK rfl rfl l2 _ rfl ?_
          refine x_goto 13 hK rfl rfl ?_
          have pv : (abZ (totF sp (i + 1).toNat - totF sp c.toNat)) = psS sp ((gi h 0 9) - 1).toNat (((gi h 0 9) - 1).toNat - 1 - i.toNat) c.toNat := by
            rw [show ((gi h 0 9) - 1).toNat - 1 - i.toNat = 0 by omega]
            show _ = abZ (totF sp ((gi h 0 9) - 1).toNat - totF sp c.toNat)
            rw [show ((gi h 0 9) - 1).toNat = (i + 1).toNat by omega]
          have tn : ∀ i' c' : Nat, (i' : Int) ≤ (gi h 0 9) - 2 → (c' : Int) ≤ (gi h 0 9) → (i < (i' : Int) ∨ ((i' : Int) = i ∧ (c' : Int) < (c + 1))) → gi (wI h4 (163 + i.toNat) c.toNat (abZ (totF sp (i + 1).toNat - totF sp c.toNat))) (163 + i') c' = psS sp ((gi h 0 9) - 1).toNat (((gi h 0 9) - 1).toNat - 1 - i') c' := by
            intro i' c' y1 y2 y3
            by_cases k : i' = i.toNat ∧ c' = c.toNat
            · rw [k.1, k.2]
              exact (gi_same (by omega)).trans pv
            · have z := t4 i' c' y1 y2 (by omega)
              rw [← z]
              by_cases k2 : i' = i.toNat
              · exact gi_k (by omega) _
              · exact gi_a (by omega) _
          exact ih _ (by omega) (c + 1) _ _ rfl (i1) (by omega) (tn) (lk1_n l0 (by decide) (Or.inl rfl)) (lk1_n l1 (by decide) (Or.inl rfl)) lk1_s (GD_wn (hG4) (r := 53) (ps_r1 _ (by omega)) rfl) (FRM_wn 0 8 (hF4) (r := 53) (ps_r1 _ (by omega)) rfl rfl (by omega) (by omega))
        · refine x_aload_n 58 hK rfl rfl l0 ?_
          refine x_getR 61 hK rfl rfl (sp_0 (h := h4) hG4) (rf_0_16 (h := h4) hG4) ?_
          refine x_iload_n 62 hK rfl rfl l1 ?_
          refine x_aaload 63 hK rfl rfl (sp_162 (h := h4) hG4) (by decide) (by omega) (by omega) (by omega) ((PT_F hF4 (by decide) hP).2.2.2.1 _ (by omega)) ?_
          refine x_iload_n 64 hK rfl rfl l2 ?_
          refine x_dup2 65 hK rfl rfl rfl rfl ?_
          refine x_ialoadE 66 hK rfl rfl (shx (h := h4) hG4 (r := 53) (ps_r1 _ (by omega)) rfl) (by omega) (by omega) (by omega) (e' := (abZ (totF sp (i + 1).toNat - totF sp c.toNat))) (gi_same (by omega)) ?_
          refine x_aload_n 67 hK rfl rfl l0 ?_
          refine x_iload_n 68 hK rfl rfl l1 ?_
          refine x_iconst 69 hK rfl rfl ?_
          refine x_iadd 70 hK rfl rfl ?_
          refine x_aload_n 71 hK rfl rfl l0 ?_
          refine x_getR 74 hK rfl rfl (sp_0 (h := h4) hG4) (rf_0_15 (h := h4) hG4) ?_
          refine x_iload_n 75 hK rfl rfl l2 ?_
          refine x_ialoadE 76 hK rfl rfl (sp_161 (h := h4) hG4) (by omega) (by omega) (by omega) (e' := (totF sp c.toNat)) ((gi_a (by omega) _).trans ((l4 (by omega)))) ?_
          have hGp665 : GD gE gRL sh (wI h4 (163 + i.toNat) c.toNat (abZ (totF sp (i + 1).toNat - totF sp c.toNat))) := GD_wn (hG4) (r := 53) (ps_r1 _ (by omega)) rfl
          refine x_callV 79 hK hmono rfl rfl [.ref 0, .int (I (i + 1)), .int (I (totF sp c.toNat))] [.int (I (abZ (totF sp (i + 1).toNat - totF sp c.toNat))), .int (I c), .ref (163 + i.toNat)] rfl rfl (Nat.le_of_ble_eq_true rfl) (Nat.le_of_ble_eq_true rfl) rfl (sp_0 (h := h4) hG4) (CLd_le (Nat.le_of_ble_eq_true rfl) (ctX10_leastPassing hSP hGp665 (i := (i + 1)) (a := (totF sp c.toNat)) (show PT (wI h4 (163 + i.toNat) c.toNat (abZ (totF sp (i + 1).toNat - totF sp c.toNat))) from (show PT h4 from (PT_F hF4 (by decide) hP))) (by omega) (by omega))) ?_
          rintro v9 h9 ⟨e9, rfl⟩
          rw [e9]
          clear e9
          have m9666 : gi (wI h4 (163 + i.toNat) c.toNat (abZ (totF sp (i + 1).toNat - totF sp c.toNat))) 0 9 = (gi h 0 9) := (gi_a (by omega) _).trans (m4)
          have l9666 : ∀ w : Nat, (w : Int) ≤ (gi h 0 9) → gi (wI h4 (163 + i.toNat) c.toNat (abZ (totF sp (i + 1).toNat - totF sp c.toNat))) 161 w = totF sp w := fun w hc => ((gi_a (by omega) _).trans (FRM_gi hF4 (r := 51) rfl rfl)).trans (lf w hc)
          have lp666 : lpF (fun w => gi (wI h4 (163 + i.toNat) c.toNat (abZ (totF sp (i + 1).toNat - totF sp c.toNat))) 161 w) (gi (wI h4 (163 + i.toNat) c.toNat (abZ (totF sp (i + 1).toNat - totF sp c.toNat))) 0 9).toNat (fun w => gi (wI h4 (163 + i.toNat) c.toNat (abZ (totF sp (i + 1).toNat - totF sp c.toNat))) (163 + (i + 1).toNat) w) (totF sp c.toNat) ((gi (wI h4 (163 + i.toNat) c.toNat (abZ (totF sp (i + 1).toNat - totF sp c.toNat))) 0 9).toNat + 1) = (lpF (totF sp) (((gi h 0 9) - 1).toNat + 1) (psS sp ((gi h 0 9) - 1).toNat (((gi h 0 9) - 1).toNat - 1 - (i + 1).toNat)) (totF sp c.toNat) (((gi h 0 9) - 1).toNat + 2)) := by
            rw [m9666, show (gi h 0 9).toNat = ((gi h 0 9) - 1).toNat + 1 by omega]
            exact lpF_ext (l9666 (((gi h 0 9) - 1).toNat + 1) (by omega)) (((gi h 0 9) - 1).toNat + 1 + 1) fun w hc => ⟨l9666 w (by omega), (by
                have z := t4 (i + 1).toNat w (by omega) (by omega) (Or.inl (by omega))
                have y : gi (wI h4 (163 + i.toNat) c.toNat (abZ (totF sp (i + 1).toNat - totF sp c.toNat))) (163 + (i + 1).toNat) w = gi h4 (163 + (i + 1).toNat) w := gi_a (by omega) _
                exact y.trans z)⟩
          rw [lp666]
          have lu666 := lpF_up (P := totF sp) (M := ((gi h 0 9) - 1).toNat + 1) (row := psS sp ((gi h 0 9) - 1).toNat (((gi h 0 9) - 1).toNat - 1 - (i + 1).toNat)) (a := (totF sp c.toNat)) (((gi h 0 9) - 1).toNat + 2)
          have ln666 := lpF_ge (P := totF sp) (M := ((gi h 0 9) - 1).toNat + 1) (row := psS sp ((gi h 0 9) - 1).toNat (((gi h 0 9) - 1).toNat - 1 - (i + 1).toNat)) (a := (totF sp c.toNat)) (v := 0) (by omega) (((gi h 0 9) - 1).toNat + 2) fun k _ _ _ => psS_nn (((gi h 0 9) - 1).toNat - 1 - (i + 1).toNat) k
          refine x_iadd 80 hK rfl rfl ?_
          refine x_iastore 81 hK rfl rfl (shx (h := h4) hG4 (r := 53) (ps_r1 _ (by omega)) rfl) (by omega) (by omega) (by omega) ?_
          refine x_iinc 84 hK rfl rfl l2 _ rfl ?_
          refine x_goto 13 hK rfl rfl ?_
          have pv : ((abZ (totF sp (i + 1).toNat - totF sp c.toNat)) + (lpF (totF sp) (((gi h 0 9) - 1).toNat + 1) (psS sp ((gi h 0 9) - 1).toNat (((gi h 0 9) - 1).toNat - 1 - (i + 1).toNat)) (totF sp c.toNat) (((gi h 0 9) - 1).toNat + 2))) = psS sp ((gi h 0 9) - 1).toNat (((gi h 0 9) - 1).toNat - 1 - i.toNat) c.toNat := by
            rw [show ((gi h 0 9) - 1).toNat - 1 - i.toNat = (((gi h 0 9) - 1).toNat - 1 - (i + 1).toNat) + 1 by omega]
            show _ = abZ (totF sp (((gi h 0 9) - 1).toNat - ((((gi h 0 9) - 1).toNat - 1 - (i + 1).toNat) + 1)) - totF sp c.toNat) + lpF (totF sp) (((gi h 0 9) - 1).toNat + 1) (psS sp ((gi h 0 9) - 1).toNat (((gi h 0 9) - 1).toNat - 1 - (i + 1).toNat)) (totF sp c.toNat) (((gi h 0 9) - 1).toNat + 2)
            rw [show ((gi h 0 9) - 1).toNat - ((((gi h 0 9) - 1).toNat - 1 - (i + 1).toNat) + 1) = (i + 1).toNat by omega]
          have tn : ∀ i' c' : Nat, (i' : Int) ≤ (gi h 0 9) - 2 → (c' : Int) ≤ (gi h 0 9) → (i < (i' : Int) ∨ ((i' : Int) = i ∧ (c' : Int) < (c + 1))) → gi (wI (wI h4 (163 + i.toNat) c.toNat (abZ (totF sp (i + 1).toNat - totF sp c.toNat))) (163 + i.toNat) c.toNat ((abZ (totF sp (i + 1).toNat - totF sp c.toNat)) + (lpF (totF sp) (((gi h 0 9) - 1).toNat + 1) (psS sp ((gi h 0 9) - 1).toNat (((gi h 0 9) - 1).toNat - 1 - (i + 1).toNat)) (totF sp c.toNat) (((gi h 0 9) - 1).toNat + 2)))) (163 + i') c' = psS sp ((gi h 0 9) - 1).toNat (((gi h 0 9) - 1).toNat - 1 - i') c' := by
            intro i' c' y1 y2 y3
            by_cases k : i' = i.toNat ∧ c' = c.toNat
            · rw [k.1, k.2]
              exact (gi_same (by omega)).trans pv
            · have z := t4 i' c' y1 y2 (by omega)
              rw [← z]
              by_cases k2 : i' = i.toNat
              · exact (gi_k (by omega) _).trans (gi_k (by omega) _)
              · exact (gi_a (by omega) _).trans (gi_a (by omega) _)
          exact ih _ (by omega) (c + 1) _ _ rfl (i1) (by omega) (tn) (lk1_n l0 (by decide) (Or.inl rfl)) (lk1_n l1 (by decide) (Or.inl rfl)) lk1_s (GD_wn (GD_wn (hG4) (r := 53) (ps_r1 _ (by omega)) rfl) (r := 53) (ps_r1 _ (by omega)) rfl) (FRM_wn 0 8 (FRM_wn 0 8 (hF4) (r := 53) (ps_r1 _ (by omega)) rfl rfl (by omega) (by omega)) (r := 53) (ps_r1 _ (by omega)) rfl rfl (by omega) (by omega))
    refine x_iload_n 8 hK rfl rfl l1 ?_
    refine x_if_lt 93 11 hK rfl rfl rfl (by omega) (fun c2 => ?_) (fun c2 => ?_)
    · exact x_vret hK rfl ⟨rfl, hG3, hF3, fun i' c' y1 y2 y3 => t3 i' c' y1 y2 (by omega)⟩
    · refine x_iconst 12 hK rfl rfl ?_
      refine x_istore_n 13 hK rfl rfl _ rfl ?_
      exact loopC _ 0 _ _ rfl (by omega) (by omega) (fun i' c' y1 y2 y3 => t3 i' c' y1 y2 y3) (lk1_n l0 (by decide) (Or.inl rfl)) (lk1_n l1 (by decide) (Or.inl rfl)) lk1_s (hG3) (hF3)
  refine x_aload_n 1 hK rfl rfl rfl ?_
  have g667 := gri (0) (8) hG (a := 0) (r := 0) (k := 9) rfl rfl
  refine x_getE 4 hK rfl (Or.inl rfl) rfl (sp_0 (h := h) hG) (e := (gi h 0 9)) (rfl) ?_
  refine x_iconst 5 hK rfl rfl ?_
  refine x_isub 6 hK rfl rfl ?_
  refine x_istore_n 7 hK rfl rfl [(1, .int (I ((gi h 0 9) - 2))), (0, .ref 0)] rfl ?_
  exact loopI _ ((gi h 0 9) - 2) _ _ rfl (by omega) (fun i' c' y1 y2 y3 => absurd y3 (by omega)) rfl rfl (hG) ((FRM.rf : FRM gRL [(0, 53, 0, 8)] h h))
set_option maxRecDepth 4000 in
theorem ctX10_choosePassing {SP : CT} (hSP : MONO SP) {sh : List (Nat × Nat)} {h : aH} (hG : GD gE gRL sh h) {sp : Nat → Int} (hP : PT h) (h1 : 1 ≤ (gi h 0 9)) (lf : ∀ c : Nat, (c : Int) ≤ (gi h 0 9) → gi h 161 c = totF sp c) (lb : ∀ c : Nat, (c : Int) ≤ (gi h 0 9) → -8000 ≤ totF sp c ∧ totF sp c ≤ 8000) (hb : ∀ m : Nat, m ≤ ((gi h 0 9) - 1).toNat → -891 ≤ sp m ∧ sp m ≤ 99) (hT : 0 ≤ totF sp (((gi h 0 9) - 1).toNat + 1)) (tb : ∀ i' c' : Nat, (i' : Int) ≤ (gi h 0 9) - 2 → (c' : Int) ≤ (gi h 0 9) → ((-1) < (i' : Int) ∨ ((i' : Int) = (-1) ∧ (c' : Int) < 0)) → gi h (163 + i') c' = psS sp ((gi h 0 9) - 1).toNat (((gi h 0 9) - 1).toNat - 1 - i') c') : CLd SP 2 mX10_choosePassing [.ref 0] h 0 0 (fun rv h' => rv = some (.int (I (chS sp ((gi h 0 9) - 1).toNat ((gi h 0 9) - 1).toNat 0))) ∧ GD gE gRL sh h' ∧ FRM gRL [(0, 3, 1, 1), (1, 4, 0, 29)] h h' ∧ crow h' = chR sp ((gi h 0 9) - 1).toNat ((gi h 0 9) - 1).toNat 0) := by
  refine x_met _ rfl (Nat.le_of_ble_eq_true rfl) (fun K hK => ?_)
  have hmono := MONO_CLd hSP 1
  have g9 := gri 0 8 hG (a := 0) (r := 0) (k := 9) rfl rfl
  have hq : ((gi h 0 9) - 1).toNat ≤ 7 := by omega
  have loopI : ∀ (mz : Nat) (a e i : Int) (h3 : aH) (ls : List (Nat × Value)), (((gi h 0 9) - i).toNat = mz) → (0 ≤ i ∧ i ≤ (gi h 0 9) - 1) → (0 ≤ a ∧ a ≤ totF sp (((gi h 0 9) - 1).toNat + 1)) → (CD sp ((gi h 0 9) - 1).toNat a) → (0 ≤ e ∧ e ≤ 16000 * i) → (e + chS sp ((gi h 0 9) - 1).toNat (((gi h 0 9) - 1).toNat - i.toNat) a = chS sp ((gi h 0 9) - 1).toNat ((gi h 0 9) - 1).toNat 0) → (gi h3 3 1 = i) → (crow h3 ++ chR sp ((gi h 0 9) - 1).toNat (((gi h 0 9) - 1).toNat - i.toNat) a = chR sp ((gi h 0 9) - 1).toNat ((gi h 0 9) - 1).toNat 0) → lk ls 0 = some (.ref 0) → lk ls 1 = some (.int (I a)) → lk ls 2 = some (.int (I e)) → lk ls 3 = some (.int (I i)) → GD gE gRL sh h3 → FRM gRL [(0, 3, 1, 1), (1, 4, 0, 29)] h h3 → K 13 ls [] h3 0 0 := by
    intro mz
    induction mz using Nat.strongRecOn with
    | ind mz ih =>
    intro a e i h3 ls hm i0 a0 ac e0 ee r3 rr l0 l1 l2 l3 hG3 hF3
    have ihI := ih
    have m3 : gi h3 0 9 = (gi h 0 9) := FRM_gi hF3 (r := 0) rfl (by decide)
    have qf3 : ∀ c : Nat, (c : Int) ≤ (gi h 0 9) → gi h3 161 c = totF sp c := fun c hc => (FRM_gi hF3 (r := 51) rfl rfl).trans (lf c hc)
    have tq3 : ∀ c : Nat, i ≤ (gi h 0 9) - 2 → (c : Int) ≤ (gi h 0 9) → gi h3 (163 + i.toNat) c = psS sp ((gi h 0 9) - 1).toNat (((gi h 0 9) - 1).toNat - 1 - i.toNat) c := fun c z1 z2 => (FRM_gi hF3 (ps_r1 _ (by omega)) rfl).trans (tb i.toNat c (by omega) z2 (Or.inl (by omega)))
    have qf5 := qf3 (i + 1).toNat (by omega)
    have b5 := lb (i + 1).toNat (by omega)
    have bT := lb (((gi h 0 9) - 1).toNat + 1) (by omega)
    have lM : gi h3 161 (gi h 0 9).toNat = totF sp (((gi h 0 9) - 1).toNat + 1) := by
      rw [show (gi h 0 9).toNat = ((gi h 0 9) - 1).toNat + 1 by omega]
      exact qf3 (((gi h 0 9) - 1).toNat + 1) (by omega)
    have loopC : ∀ (mz : Nat) (m c : Int) (ls : List (Nat × Value)), (((gi h 0 9) + 1 - c).toNat = mz) → (i ≤ (gi h 0 9) - 2) → (0 ≤ c ∧ c ≤ (gi h 0 9) + 1) → (-8000 ≤ m ∧ m ≤ 8000) → (m = (chF (totF sp) (((gi h 0 9) - 1).toNat + 1) (psS sp ((gi h 0 9) - 1).toNat (((gi h 0 9) - 1).toNat - 1 - i.toNat)) (lpF (totF sp) (((gi h 0 9) - 1).toNat + 1) (psS sp ((gi h 0 9) - 1).toNat (((gi h 0 9) - 1).toNat - 1 - i.toNat)) a (((gi h 0 9) - 1).toNat + 2)) a c.toNat)) → lk ls 0 = some (.ref 0) → lk ls 1 = some (.int (I a)) → lk ls 2 = some (.int (I e)) → lk ls 3 = some (.int (I i)) → lk ls 4 = some (.int (I (lpF (totF sp) (((gi h 0 9) - 1).toNat + 1) (psS sp ((gi h 0 9) - 1).toNat (((gi h 0 9) - 1).toNat - 1 - i.toNat)) a (((gi h 0 9) - 1).toNat + 2)))) → lk ls 5 = some (.int (I m)) → lk ls 6 = some (.int (I c)) → K 37 ls [] h3 0 0 := by
      intro mz
      induction mz using Nat.strongRecOn with
      | ind mz ih =>
      intro m c ls hm i1 c0 m0 mm l0 l1 l2 l3 l4 l5 l6
      have qf4 := fun z : c ≤ (gi h 0 9) => qf3 c.toNat (by omega)
      have b4 := fun z : c ≤ (gi h 0 9) => lb c.toNat (by omega)
      have t4 := fun z : c ≤ (gi h 0 9) => tq3 c.toNat i1 (by omega)
      have lup := lpF_up (P := totF sp) (M := ((gi h 0 9) - 1).toNat + 1) (row := psS sp ((gi h 0 9) - 1).toNat (((gi h 0 9) - 1).toNat - 1 - i.toNat)) (a := a) (((gi h 0 9) - 1).toNat + 2)
      have lnn := lpF_ge (P := totF sp) (M := ((gi h 0 9) - 1).toNat + 1) (row := psS sp ((gi h 0 9) - 1).toNat (((gi h 0 9) - 1).toNat - 1 - i.toNat)) (a := a) (v := 0) (by omega) (((gi h 0 9) - 1).toNat + 2) fun k _ _ _ => psS_nn (((gi h 0 9) - 1).toNat - 1 - i.toNat) k
      have gr := gi_r h3 (163 + i.toNat) c.toNat
      have kok := chK_ok hq hb hT (d := (((gi h 0 9) - 1).toNat - 1 - i.toNat)) (by omega) a0.2 ac
      refine x_iload 39 hK rfl rfl l6 ?_
      refine x_aload_n 40 hK rfl rfl l0 ?_
      have g668 := gri (0) (8) hG (a := 0) (r := 0) (k := 9) rfl rfl
      refine x_getE 43 hK rfl (Or.inl rfl) rfl (sp_0 (h := h3) hG3) (e := (gi h 0 9)) (m3) ?_
      refine x_if_icmp_gt 106 46 hK rfl rfl rfl (by omega) (by omega) (fun c4 => ?_) (fun c4 => ?_)
      · have mk : m = (chK sp ((gi h 0 9) - 1).toNat (((gi h 0 9) - 1).toNat - 1 - i.toNat) a) := by
          rw [mm, show c.toNat = ((gi h 0 9) - 1).toNat + 2 by omega]
          rfl
        have kr := kok.1
        rw [← mk] at kr
        have cmk := kok.2.1
        rw [← mk] at cmk
        refine x_iload 108 hK rfl rfl l5 ?_
        refine x_istore_n 109 hK rfl rfl _ rfl ?_
        refine x_aload_n 110 hK rfl rfl (lk1_n l0 (by decide) (Or.inl rfl)) ?_
        refine x_getR 113 hK rfl rfl (sp_0 (h := h3) hG3) (rf_0_1 (h := h3) hG3) ?_
        refine x_aload_n 114 hK rfl rfl (lk1_n l0 (by decide) (Or.inl rfl)) ?_
        refine x_getR 117 hK rfl rfl (sp_0 (h := h3) hG3) (rf_0_15 (h := h3) hG3) ?_
        refine x_iload_n 118 hK rfl rfl (lk1_n l3 (by decide) (Or.inl rfl)) ?_
        refine x_iconst 119 hK rfl rfl ?_
        refine x_iadd 120 hK rfl rfl ?_
        refine x_ialoadE 121 hK rfl rfl (sp_161 (h := h3) hG3) (by omega) (by omega) (by omega) (e' := (totF sp (i + 1).toNat)) (qf5) ?_
        refine x_iload_n 122 hK rfl rfl lk1_s ?_
        refine x_isub 123 hK rfl rfl ?_
        refine x_i2l 124 hK rfl rfl (by omega) ?_
        have z670 : gi h3 3 1 = i := r3
        have z670r : crow h3 = (crow h3) := rfl
        refine x_callV 127 hK hmono rfl rfl [.ref 3, .long (J ((totF sp (i + 1).toNat) - m))] [] rfl rfl (Nat.le_of_ble_eq_true rfl) (Nat.le_of_ble_eq_true rfl) rfl (sp_3 (h := h3) hG3) (CLd_le (Nat.le_of_ble_eq_true rfl) (ctX3_add hSP hG3 (by omega) (by omega))) ?_
        rintro v669 h669 ⟨rfl, hG669, hF669, t669, s669⟩
        rw [z670] at t669
        rw [z670r] at s669
        refine x_iload_n 128 hK rfl rfl (lk1_n l2 (by decide) (Or.inl rfl)) ?_
        refine x_aload_n 129 hK rfl rfl (lk1_n l0 (by decide) (Or.inl rfl)) ?_
        refine x_getR 132 hK rfl rfl (sp_0 (h := h669) hG669) (rf_0_15 (h := h669) hG669) ?_
        refine x_iload_n 133 hK rfl rfl (lk1_n l3 (by decide) (Or.inl rfl)) ?_
        refine x_iconst 134 hK rfl rfl ?_
        refine x_iadd 135 hK rfl rfl ?_
        refine x_ialoadE 136 hK rfl rfl (sp_161 (h := h669) hG669) (by omega) (by omega) (by omega) (e' := (totF sp (i + 1).toNat)) ((FRM_gi hF669 (r := 51) rfl rfl).trans (qf5)) ?_
        refine x_iload_n 137 hK rfl rfl lk1_s ?_
        refine x_isub 138 hK rfl rfl ?_
        refine x_abs 141 hK rfl rfl (Nat.le_of_ble_eq_true rfl) (by omega) ?_
        refine x_iadd 142 hK rfl rfl ?_
        refine x_istore_n 143 hK rfl rfl _ rfl ?_
        refine x_iinc 146 hK rfl rfl (lk1_n (lk1_n l3 (by decide) (Or.inl rfl)) (by decide) (Or.inl rfl)) _ rfl ?_
        refine x_goto 13 hK rfl rfl ?_
        have dq : ((gi h 0 9) - 1).toNat - i.toNat = (((gi h 0 9) - 1).toNat - 1 - i.toNat) + 1 := by omega
        have dq2 : ((gi h 0 9) - 1).toNat - (i + 1).toNat = (((gi h 0 9) - 1).toNat - 1 - i.toNat) := by omega
        have di : ((gi h 0 9) - 1).toNat - (((gi h 0 9) - 1).toNat - 1 - i.toNat) = (i + 1).toNat := by omega
        have cs : chS sp ((gi h 0 9) - 1).toNat (((gi h 0 9) - 1).toNat - i.toNat) a = abZ (totF sp (i + 1).toNat - m) + chS sp ((gi h 0 9) - 1).toNat (((gi h 0 9) - 1).toNat - 1 - i.toNat) m := by
          rw [dq, mk]
          show abZ (totF sp (((gi h 0 9) - 1).toNat - (((gi h 0 9) - 1).toNat - 1 - i.toNat)) - (chK sp ((gi h 0 9) - 1).toNat (((gi h 0 9) - 1).toNat - 1 - i.toNat) a)) + chS sp ((gi h 0 9) - 1).toNat (((gi h 0 9) - 1).toNat - 1 - i.toNat) (chK sp ((gi h 0 9) - 1).toNat (((gi h 0 9) - 1).toNat - 1 - i.toNat) a) = _
          rw [di]
        have cr : chR sp ((gi h 0 9) - 1).toNat (((gi h 0 9) - 1).toNat - i.toNat) a = (totF sp (i + 1).toNat - m) :: chR sp ((gi h 0 9) - 1).toNat (((gi h 0 9) - 1).toNat - 1 - i.toNat) m := by
          rw [dq, mk]
          show (totF sp (((gi h 0 9) - 1).toNat - (((gi h 0 9) - 1).toNat - 1 - i.toNat)) - (chK sp ((gi h 0 9) - 1).toNat (((gi h 0 9) - 1).toNat - 1 - i.toNat) a)) :: chR sp ((gi h 0 9) - 1).toNat (((gi h 0 9) - 1).toNat - 1 - i.toNat) (chK sp ((gi h 0 9) - 1).toNat (((gi h 0 9) - 1).toNat - 1 - i.toNat) a) = _
          rw [di]
        have ab := abZ_nn (totF sp (i + 1).toNat - m)
        have ab2 : abZ (totF sp (i + 1).toNat - m) ≤ 16000 := by unfold abZ; split <;> omega
        exact ihI _ (by omega) m (e + (if 0 ≤ ((totF sp (i + 1).toNat) - m) then ((totF sp (i + 1).toNat) - m) else -((totF sp (i + 1).toNat) - m))) (i + 1) _ _ rfl (by omega) (by omega) (cmk) (by show 0 ≤ e + abZ (totF sp (i + 1).toNat - m) ∧ e + abZ (totF sp (i + 1).toNat - m) ≤ 16000 * (i + 1); omega) (by rw [dq2]; show e + abZ (totF sp (i + 1).toNat - m) + chS sp ((gi h 0 9) - 1).toNat (((gi h 0 9) - 1).toNat - 1 - i.toNat) m = _; rw [← ee, cs]; omega) (t669) (by rw [dq2, s669, ← rr, cr, List.append_assoc]; rfl) (lk1_n (lk1_n (lk1_n l0 (by decide) (Or.inl rfl)) (by decide) (Or.inl rfl)) (by decide) (Or.inl rfl)) (lk1_n (lk1_n lk1_s (by decide) (Or.inl rfl)) (by decide) (Or.inl rfl)) (lk1_n lk1_s (by decide) (Or.inl rfl)) lk1_s (hG669) ((hF3).trans ((hF669).mono rfl))
      · refine x_aload_n 47 hK rfl rfl l0 ?_
        refine x_getR 50 hK rfl rfl (sp_0 (h := h3) hG3) (rf_0_15 (h := h3) hG3) ?_
        refine x_iload 52 hK rfl rfl l6 ?_
        have b6 := b4 (by omega)
        have pr : r32 (psS sp ((gi h 0 9) - 1).toNat (((gi h 0 9) - 1).toNat - 1 - i.toNat) c.toNat) := by rw [← t4 (by omega)]; exact gr
        refine x_ialoadE 53 hK rfl rfl (sp_161 (h := h3) hG3) (by omega) (by omega) (by omega) (e' := (totF sp c.toNat)) ((qf4 (by omega))) ?_
        refine x_iload 55 hK rfl rfl l5 ?_
        refine x_if_icmp_le 100 58 hK rfl rfl rfl (by omega) (by omega) (fun c41 => ?_) (fun c41 => ?_)
        · refine x_iinc 103 hK rfl rfl l6 _ rfl ?_
          refine x_goto 37 hK rfl rfl ?_
          exact ih _ (by omega) m (c + 1) _ rfl (i1) (by omega) (by omega) (by rw [chF_s c0.1, if_neg (by rw [← mm]; omega)]; exact mm) (lk1_n l0 (by decide) (Or.inl rfl)) (lk1_n l1 (by decide) (Or.inl rfl)) (lk1_n l2 (by decide) (Or.inl rfl)) (lk1_n l3 (by decide) (Or.inl rfl)) (lk1_n l4 (by decide) (Or.inl rfl)) (lk1_n l5 (by decide) (Or.inl rfl)) lk1_s
        · refine x_aload_n 59 hK rfl rfl l0 ?_
          refine x_getR 62 hK rfl rfl (sp_0 (h := h3) hG3) (rf_0_15 (h := h3) hG3) ?_
          refine x_iload 64 hK rfl rfl l6 ?_
          refine x_ialoadE 65 hK rfl rfl (sp_161 (h := h3) hG3) (by omega) (by omega) (by omega) (e' := (totF sp c.toNat)) ((qf4 (by omega))) ?_
          refine x_aload_n 66 hK rfl rfl l0 ?_
          refine x_getR 69 hK rfl rfl (sp_0 (h := h3) hG3) (rf_0_15 (h := h3) hG3) ?_
          refine x_aload_n 70 hK rfl rfl l0 ?_
          refine x_getE 73 hK rfl (Or.inl rfl) rfl (sp_0 (h := h3) hG3) (e := (gi h 0 9)) (m3) ?_
          refine x_ialoadE 74 hK rfl rfl (sp_161 (h := h3) hG3) (by omega) (by omega) (by omega) (e' := (totF sp (((gi h 0 9) - 1).toNat + 1))) (lM) ?_
          refine x_if_icmp_gt 100 77 hK rfl rfl rfl (by omega) (by omega) (fun c54 => ?_) (fun c54 => ?_)
          · refine x_iinc 103 hK rfl rfl l6 _ rfl ?_
            refine x_goto 37 hK rfl rfl ?_
            exact ih _ (by omega) m (c + 1) _ rfl (i1) (by omega) (by omega) (by rw [chF_s c0.1, if_neg (by rw [← mm]; omega)]; exact mm) (lk1_n l0 (by decide) (Or.inl rfl)) (lk1_n l1 (by decide) (Or.inl rfl)) (lk1_n l2 (by decide) (Or.inl rfl)) (lk1_n l3 (by decide) (Or.inl rfl)) (lk1_n l4 (by decide) (Or.inl rfl)) (lk1_n l5 (by decide) (Or.inl rfl)) lk1_s
          · refine x_aload_n 78 hK rfl rfl l0 ?_
            refine x_getR 81 hK rfl rfl (sp_0 (h := h3) hG3) (rf_0_16 (h := h3) hG3) ?_
            refine x_iload_n 82 hK rfl rfl l3 ?_
            refine x_aaload 83 hK rfl rfl (sp_162 (h := h3) hG3) (by decide) (by omega) (by omega) (by omega) ((PT_F hF3 (by decide) hP).2.2.2.1 _ (by omega)) ?_
            refine x_iload 85 hK rfl rfl l6 ?_
            refine x_ialoadE 86 hK rfl rfl (shx (h := h3) hG3 (r := 53) (ps_r1 _ (by omega)) rfl) (by omega) (by omega) (by omega) (e' := (psS sp ((gi h 0 9) - 1).toNat (((gi h 0 9) - 1).toNat - 1 - i.toNat) c.toNat)) ((t4 (by omega))) ?_
            refine x_iload 88 hK rfl rfl l4 ?_
            refine x_if_icmp_ne 100 91 hK rfl rfl rfl (by omega) (by omega) (fun c65 => ?_) (fun c65 => ?_)
            · refine x_iinc 103 hK rfl rfl l6 _ rfl ?_
              refine x_goto 37 hK rfl rfl ?_
              exact ih _ (by omega) m (c + 1) _ rfl (i1) (by omega) (by omega) (by rw [chF_s c0.1, if_neg (by rw [← mm]; omega)]; exact mm) (lk1_n l0 (by decide) (Or.inl rfl)) (lk1_n l1 (by decide) (Or.inl rfl)) (lk1_n l2 (by decide) (Or.inl rfl)) (lk1_n l3 (by decide) (Or.inl rfl)) (lk1_n l4 (by decide) (Or.inl rfl)) (lk1_n l5 (by decide) (Or.inl rfl)) lk1_s
            · refine x_aload_n 92 hK rfl rfl l0 ?_
              refine x_getR 95 hK rfl rfl (sp_0 (h := h3) hG3) (rf_0_15 (h := h3) hG3) ?_
              refine x_iload 97 hK rfl rfl l6 ?_
              refine x_ialoadE 98 hK rfl rfl (sp_161 (h := h3) hG3) (by omega) (by omega) (by omega) (e' := (totF sp c.toNat)) ((qf4 (by omega))) ?_
              refine x_istore 100 hK rfl rfl _ rfl ?_
              refine x_iinc 103 hK rfl rfl (lk1_n l6 (by decide) (Or.inl rfl)) _ rfl ?_
              refine x_goto 37 hK rfl rfl ?_
              exact ih _ (by omega) (totF sp c.toNat) (c + 1) _ rfl (i1) (by omega) (by omega) (by rw [chF_s c0.1, if_pos (by rw [← mm]; omega)]) (lk1_n (lk1_n l0 (by decide) (Or.inl rfl)) (by decide) (Or.inl rfl)) (lk1_n (lk1_n l1 (by decide) (Or.inl rfl)) (by decide) (Or.inl rfl)) (lk1_n (lk1_n l2 (by decide) (Or.inl rfl)) (by decide) (Or.inl rfl)) (lk1_n (lk1_n l3 (by decide) (Or.inl rfl)) (by decide) (Or.inl rfl)) (lk1_n (lk1_n l4 (by decide) (Or.inl rfl)) (by decide) (Or.inl rfl)) (lk1_n lk1_s (by decide) (Or.inl rfl)) lk1_s
    refine x_iload_n 14 hK rfl rfl l3 ?_
    refine x_aload_n 15 hK rfl rfl l0 ?_
    have g671 := gri (0) (8) hG (a := 0) (r := 0) (k := 9) rfl rfl
    refine x_getE 18 hK rfl (Or.inl rfl) rfl (sp_0 (h := h3) hG3) (e := (gi h 0 9)) (m3) ?_
    refine x_iconst 19 hK rfl rfl ?_
    refine x_isub 20 hK rfl rfl ?_
    refine x_if_icmp_ge 149 23 hK rfl rfl rfl (by omega) (by omega) (fun c6 => ?_) (fun c6 => ?_)
    · refine x_iload_n 150 hK rfl rfl l2 ?_
      have iq : ((gi h 0 9) - 1).toNat - i.toNat = 0 := by omega
      rw [iq] at ee rr
      have e1 : e = chS sp ((gi h 0 9) - 1).toNat ((gi h 0 9) - 1).toNat 0 := by have z : e + 0 = chS sp ((gi h 0 9) - 1).toNat ((gi h 0 9) - 1).toNat 0 := ee; omega
      have e2 : crow h3 = chR sp ((gi h 0 9) - 1).toNat ((gi h 0 9) - 1).toNat 0 := by have z : crow h3 ++ [] = chR sp ((gi h 0 9) - 1).toNat ((gi h 0 9) - 1).toNat 0 := rr; rw [← z, List.append_nil]
      exact x_iret hK rfl ⟨by rw [e1], hG3, hF3, e2⟩
    · refine x_aload_n 24 hK rfl rfl l0 ?_
      refine x_iload_n 25 hK rfl rfl l3 ?_
      refine x_iload_n 26 hK rfl rfl l1 ?_
      refine x_callV 29 hK hmono rfl rfl [.ref 0, .int (I i), .int (I a)] [] rfl rfl (Nat.le_of_ble_eq_true rfl) (Nat.le_of_ble_eq_true rfl) rfl (sp_0 (h := h3) hG3) (CLd_le (Nat.le_of_ble_eq_true rfl) (ctX10_leastPassing hSP hG3 (i := i) (a := a) (PT_F hF3 (by decide) hP) (by omega) (by omega))) ?_
      rintro v9 h9 ⟨e9, rfl⟩
      rw [e9]
      clear e9
      have lp : lpF (fun c => gi h3 161 c) (gi h3 0 9).toNat (fun c => gi h3 (163 + i.toNat) c) a ((gi h3 0 9).toNat + 1) = (lpF (totF sp) (((gi h 0 9) - 1).toNat + 1) (psS sp ((gi h 0 9) - 1).toNat (((gi h 0 9) - 1).toNat - 1 - i.toNat)) a (((gi h 0 9) - 1).toNat + 2)) := by
        rw [m3, show (gi h 0 9).toNat = ((gi h 0 9) - 1).toNat + 1 by omega]
        exact lpF_ext (qf3 (((gi h 0 9) - 1).toNat + 1) (by omega)) (((gi h 0 9) - 1).toNat + 1 + 1) fun c hc => ⟨qf3 c (by omega), tq3 c (by omega) (by omega)⟩
      rw [lp]
      refine x_istore 31 hK rfl rfl _ rfl ?_
      refine x_iload_n 32 hK rfl rfl (lk1_n l1 (by decide) (Or.inl rfl)) ?_
      refine x_istore 34 hK rfl rfl _ rfl ?_
      refine x_iconst 35 hK rfl rfl ?_
      refine x_istore 37 hK rfl rfl _ rfl ?_
      exact loopC _ a 0 _ rfl (by omega) (by omega) (by omega) (rfl) (lk1_n (lk1_n (lk1_n l0 (by decide) (Or.inl rfl)) (by decide) (Or.inl rfl)) (by decide) (Or.inl rfl)) (lk1_n (lk1_n (lk1_n l1 (by decide) (Or.inl rfl)) (by decide) (Or.inl rfl)) (by decide) (Or.inl rfl)) (lk1_n (lk1_n (lk1_n l2 (by decide) (Or.inl rfl)) (by decide) (Or.inl rfl)) (by decide) (Or.inl rfl)) (lk1_n (lk1_n (lk1_n l3 (by decide) (Or.inl rfl)) (by decide) (Or.inl rfl)) (by decide) (Or.inl rfl)) (lk1_n (lk1_n lk1_s (by decide) (Or.inl rfl)) (by decide) (Or.inl rfl)) (lk1_n lk1_s (by decide) (Or.inl rfl)) lk1_s
  refine x_aload_n 1 hK rfl rfl rfl ?_
  refine x_getR 4 hK rfl rfl (sp_0 (h := h) hG) (rf_0_1 (h := h) hG) ?_
  refine x_callV 7 hK hmono rfl rfl [.ref 3] [] rfl rfl (Nat.le_of_ble_eq_true rfl) (Nat.le_of_ble_eq_true rfl) rfl (sp_3 (h := h) hG) (CLd_le (Nat.le_of_ble_eq_true rfl) (ctX3_clear hSP hG)) ?_
  rintro v672 h672 ⟨rfl, hG672, hF672, t672, s672⟩
  refine x_iconst 8 hK rfl rfl ?_
  refine x_istore_n 9 hK rfl rfl [(1, .int (I 0)), (0, .ref 0)] rfl ?_
  refine x_iconst 10 hK rfl rfl ?_
  refine x_istore_n 11 hK rfl rfl [(2, .int (I 0)), (1, .int (I 0)), (0, .ref 0)] rfl ?_
  refine x_iconst 12 hK rfl rfl ?_
  refine x_istore_n 13 hK rfl rfl [(3, .int (I 0)), (2, .int (I 0)), (1, .int (I 0)), (0, .ref 0)] rfl ?_
  exact loopI _ 0 0 0 _ _ rfl (by omega) (by omega) (⟨0, by omega, rfl⟩) (by omega) (by rw [show ((gi h 0 9) - 1).toNat - (0 : Int).toNat = ((gi h 0 9) - 1).toNat by omega]; omega) (t672) (by rw [show ((gi h 0 9) - 1).toNat - (0 : Int).toNat = ((gi h 0 9) - 1).toNat by omega, s672]; rfl) rfl rfl rfl rfl (hG672) ((hF672).mono rfl)
set_option maxRecDepth 4000 in
theorem ctX10_sharesF {SP : CT} (hSP : MONO SP) {sh : List (Nat × Nat)} {h : aH} (hG : GD gE gRL sh h) {sp : Nat → Int} {n : Int} (hP : PT h) (rn : r32 n) (hs : ∀ j : Nat, (j : Int) < (gi h 0 9) → gi h 26 j - gi h 22 j * n = sp j ∧ 0 ≤ gi h 26 j ∧ gi h 26 j ≤ 99) : CLd SP 3 mX10_shares [.ref 0, .int (I n)] h 0 0 (fun rv h' => ((¬ ((0 ≤ n ∧ n ≤ 99) ∧ (gi h 0 9) ≠ 0) ∧ rv = some (.int (I (-1))) ∧ crow h' = crow h) ∨ (((0 ≤ n ∧ n ≤ 99) ∧ (gi h 0 9) ≠ 0) ∧ totF sp (gi h 0 9).toNat < 0 ∧ rv = some (.int (I (-2))) ∧ crow h' = crow h) ∨ (((0 ≤ n ∧ n ≤ 99) ∧ (gi h 0 9) ≠ 0) ∧ 0 ≤ totF sp (gi h 0 9).toNat ∧ rv = some (.int (I (chS sp ((gi h 0 9) - 1).toNat ((gi h 0 9) - 1).toNat 0))) ∧ crow h' = chR sp ((gi h 0 9) - 1).toNat ((gi h 0 9) - 1).toNat 0)) ∧ GD gE gRL sh h' ∧ FRM gRL [(0, 3, 1, 1), (0, 51, 0, 8), (0, 53, 0, 8), (1, 4, 0, 29)] h h') := by
  refine x_met _ rfl (Nat.le_of_ble_eq_true rfl) (fun K hK => ?_)
  have hmono := MONO_CLd hSP 2
  have g9 := gri 0 8 hG (a := 0) (r := 0) (k := 9) rfl rfl
  have he : ∀ j : Nat, (j : Int) < (gi h 0 9) → 0 ≤ gi h 22 j ∧ gi h 22 j ≤ 9 := fun j hj => grn 0 9 hG (a := 22) (r := 16) rfl rfl (by omega)
  have hb : 0 ≤ n ∧ n ≤ 99 → ∀ m : Nat, (m : Int) < (gi h 0 9) → -891 ≤ sp m ∧ sp m ≤ 99 := fun hn m hm => by
    have a := hs m hm
    have b := en_b (he m hm) hn
    omega
  have lb : 0 ≤ n ∧ n ≤ 99 → ∀ c : Nat, (c : Int) ≤ (gi h 0 9) → -8000 ≤ totF sp c ∧ totF sp c ≤ 8000 := fun hn c hc => by
    have z := totF_b (sp := sp) c fun m hm => hb hn m (by omega)
    omega
  have loop : ∀ (mz : Nat) (i : Int) (h4 : aH) (ls : List (Nat × Value)), (((gi h 0 9) - i).toNat = mz) → ((0 ≤ n ∧ n ≤ 99) ∧ (gi h 0 9) ≠ 0) → (0 ≤ i ∧ i ≤ (gi h 0 9)) → (∀ c : Nat, (c : Int) ≤ i → gi h4 161 c = totF sp c) → lk ls 0 = some (.ref 0) → lk ls 1 = some (.int (I n)) → lk ls 2 = some (.int (I i)) → GD gE gRL sh h4 → FRM gRL [(0, 51, 0, 8)] h h4 → K 28 ls [] h4 0 0 := by
    intro mz
    induction mz using Nat.strongRecOn with
    | ind mz ih =>
    intro i h4 ls hm n0 i0 lf l0 l1 l2 hG4 hF4
    have m4 : gi h4 0 9 = (gi h 0 9) := FRM_gi hF4 (r := 0) rfl (by decide)
    have l4 := lf i.toNat (by omega)
    have bi := lb n0.1 i.toNat (by omega)
    have hsi := fun z : i < (gi h 0 9) => hs i.toNat (by omega)
    have hei := fun z : i < (gi h 0 9) => en_b (he i.toNat (by omega)) n0.1
    have lM := fun z : i = (gi h 0 9) => lf (gi h 0 9).toNat (by omega)
    have bM := lb n0.1 (gi h 0 9).toNat (by omega)
    refine x_iload_n 29 hK rfl rfl l2 ?_
    refine x_aload_n 30 hK rfl rfl l0 ?_
    have g673 := gri (0) (8) hG (a := 0) (r := 0) (k := 9) rfl rfl
    refine x_getE 33 hK rfl (Or.inl rfl) rfl (sp_0 (h := h4) hG4) (e := (gi h 0 9)) (m4) ?_
    refine x_if_icmp_ge 75 36 hK rfl rfl rfl (by omega) (by omega) (fun c4 => ?_) (fun c4 => ?_)
    · refine x_aload_n 76 hK rfl rfl l0 ?_
      refine x_getR 79 hK rfl rfl (sp_0 (h := h4) hG4) (rf_0_15 (h := h4) hG4) ?_
      refine x_aload_n 80 hK rfl rfl l0 ?_
      refine x_getE 83 hK rfl (Or.inl rfl) rfl (sp_0 (h := h4) hG4) (e := (gi h 0 9)) (m4) ?_
      refine x_ialoadE 84 hK rfl rfl (sp_161 (h := h4) hG4) (by omega) (by omega) (by omega) (e' := (totF sp (gi h 0 9).toNat)) ((lM (by omega))) ?_
      refine x_if_ge 90 87 hK rfl rfl rfl (by omega) (fun c10 => ?_) (fun c10 => ?_)
      · refine x_aload_n 91 hK rfl rfl l0 ?_
        have ei : i = (gi h 0 9) := by omega
        have lf4 : ∀ c : Nat, (c : Int) ≤ gi h4 0 9 → gi h4 161 c = totF sp c := fun c hc => by rw [m4] at hc; exact lf c (by omega)
        have lb4 : ∀ c : Nat, (c : Int) ≤ gi h4 0 9 → -8000 ≤ totF sp c ∧ totF sp c ≤ 8000 := fun c hc => by rw [m4] at hc; exact lb n0.1 c hc
        refine x_callV 94 hK hmono rfl rfl [.ref 0] [] rfl rfl (Nat.le_of_ble_eq_true rfl) (Nat.le_of_ble_eq_true rfl) rfl (sp_0 (h := h4) hG4) (CLd_le (Nat.le_of_ble_eq_true rfl) (ctX10_weighPassing hSP hG4 (sp := sp) (PT_F hF4 (by decide) hP) (by rw [m4]; omega) lf4 lb4)) ?_
        rintro v5 h5 ⟨rfl, hG5, hF5, tb5⟩
        refine x_aload_n 95 hK rfl rfl l0 ?_
        have m5 : gi h5 0 9 = gi h4 0 9 := FRM_gi hF5 (r := 0) rfl (by decide)
        have qe : (gi h5 0 9 - 1).toNat = ((gi h 0 9) - 1).toNat := by rw [m5, m4]
        rw [← m5] at lf4 lb4 tb5
        have cp := ctX10_choosePassing hSP hG5 (sp := sp) (PT_F hF5 (by decide) (PT_F hF4 (by decide) hP)) (by rw [m5, m4]; omega) (fun c hc => (FRM_gi hF5 (r := 51) rfl rfl).trans (lf4 c hc)) lb4 (fun m hm => hb n0.1 m (by rw [qe] at hm; omega)) (by rw [qe, show ((gi h 0 9) - 1).toNat + 1 = (gi h 0 9).toNat by omega]; omega) tb5
        rw [qe] at cp
        refine x_callV 98 hK hmono rfl rfl [.ref 0] [] rfl rfl (Nat.le_of_ble_eq_true rfl) (Nat.le_of_ble_eq_true rfl) rfl (sp_0 (h := h5) hG5) (CLd_le (Nat.le_of_ble_eq_true rfl) cp) ?_
        rintro v6 h6 ⟨rfl, hG6, hF6, rw6⟩
        exact x_iret hK rfl ⟨Or.inr (Or.inr ⟨n0, by omega, rfl, rw6⟩), hG6, (((hF4).mono rfl).trans ((hF5).mono rfl)).trans ((hF6).mono rfl)⟩
      · refine x_bipush 89 hK rfl rfl rfl ?_
        exact x_iret hK rfl ⟨Or.inr (Or.inl ⟨n0, by omega, rfl, crow_F hF4 rfl rfl⟩), hG4, (hF4).mono rfl⟩
    · refine x_aload_n 37 hK rfl rfl l0 ?_
      refine x_getR 40 hK rfl rfl (sp_0 (h := h4) hG4) (rf_0_15 (h := h4) hG4) ?_
      refine x_iload_n 41 hK rfl rfl l2 ?_
      refine x_iconst 42 hK rfl rfl ?_
      refine x_iadd 43 hK rfl rfl ?_
      refine x_aload_n 44 hK rfl rfl l0 ?_
      refine x_getR 47 hK rfl rfl (sp_0 (h := h4) hG4) (rf_0_15 (h := h4) hG4) ?_
      have hs1 := hsi (by omega)
      have he1 := hei (by omega)
      refine x_iload_n 48 hK rfl rfl l2 ?_
      refine x_ialoadE 49 hK rfl rfl (sp_161 (h := h4) hG4) (by omega) (by omega) (by omega) (e' := (totF sp i.toNat)) (l4) ?_
      refine x_aload_n 50 hK rfl rfl l0 ?_
      refine x_getR 53 hK rfl rfl (sp_0 (h := h4) hG4) (rf_0_10 (h := h4) hG4) ?_
      refine x_getR 56 hK rfl rfl (sp_23 (h := h4) hG4) (rf_23_7 (h := h4) hG4) ?_
      refine x_iload_n 57 hK rfl rfl l2 ?_
      have g674 := gi_r h 26 i.toNat
      refine x_ialoadE 58 hK rfl rfl (sp_26 (h := h4) hG4) (by omega) (by omega) (by omega) (e' := (gi h 26 i.toNat)) (FRM_gi hF4 (r := 20) rfl rfl) ?_
      refine x_iadd 59 hK rfl rfl ?_
      refine x_aload_n 60 hK rfl rfl l0 ?_
      refine x_getR 63 hK rfl rfl (sp_0 (h := h4) hG4) (rf_0_8 (h := h4) hG4) ?_
      refine x_iload_n 64 hK rfl rfl l2 ?_
      have g675 := grn (0) (9) hG (a := 22) (r := 16) (k := i.toNat) rfl rfl (by omega)
      refine x_ialoadE 65 hK rfl rfl (sp_22 (h := h4) hG4) (by omega) (by omega) (by omega) (e' := (gi h 22 i.toNat)) (FRM_gi hF4 (r := 16) rfl rfl) ?_
      refine x_iload_n 66 hK rfl rfl l1 ?_
      refine x_imul 67 hK rfl rfl ?_
      refine x_isub 68 hK rfl rfl ?_
      refine x_iastore 69 hK rfl rfl (sp_161 (h := h4) hG4) (by omega) (by omega) (by omega) ?_
      refine x_iinc 72 hK rfl rfl l2 _ rfl ?_
      refine x_goto 28 hK rfl rfl ?_
      exact ih _ (by omega) (i + 1) _ _ rfl (n0) (by omega) (fun c hc => if k : c = (i + 1).toNat then (by rw [k]; exact (gi_same (by omega)).trans (by rw [totF_s i0.1, ← hs1.1]; omega)) else (gi_k k _).trans (lf c (by omega))) (lk1_n l0 (by decide) (Or.inl rfl)) (lk1_n l1 (by decide) (Or.inl rfl)) lk1_s (GD_wn (hG4) (r := 51) rfl rfl) (FRM_wn 0 8 (hF4) (r := 51) rfl rfl rfl (by omega) (by omega))
  refine x_iload_n 1 hK rfl rfl rfl ?_
  refine x_if_lt 17 4 hK rfl rfl rfl (by omega) (fun c2 => ?_) (fun c2 => ?_)
  · refine x_iconst 18 hK rfl rfl ?_
    exact x_iret hK rfl ⟨Or.inl ⟨fun z => by have z1 := z.1; have z2 := z.2; omega, rfl, rfl⟩, hG, FRM.rf⟩
  · refine x_iload_n 5 hK rfl rfl rfl ?_
    refine x_bipush 7 hK rfl rfl rfl ?_
    refine x_if_icmp_gt 17 10 hK rfl rfl rfl (by omega) (by omega) (fun c7 => ?_) (fun c7 => ?_)
    · refine x_iconst 18 hK rfl rfl ?_
      exact x_iret hK rfl ⟨Or.inl ⟨fun z => by have z1 := z.1; have z2 := z.2; omega, rfl, rfl⟩, hG, FRM.rf⟩
    · refine x_aload_n 11 hK rfl rfl rfl ?_
      have g676 := gri (0) (8) hG (a := 0) (r := 0) (k := 9) rfl rfl
      refine x_getE 14 hK rfl (Or.inl rfl) rfl (sp_0 (h := h) hG) (e := (gi h 0 9)) (rfl) ?_
      refine x_if_ne 19 17 hK rfl rfl rfl (by omega) (fun c12 => ?_) (fun c12 => ?_)
      · refine x_aload_n 20 hK rfl rfl rfl ?_
        refine x_getR 23 hK rfl rfl (sp_0 (h := h) hG) (rf_0_15 (h := h) hG) ?_
        refine x_iconst 24 hK rfl rfl ?_
        refine x_iconst 25 hK rfl rfl ?_
        refine x_iastore 26 hK rfl rfl (sp_161 (h := h) hG) (by omega) (by omega) (by omega) ?_
        refine x_iconst 27 hK rfl rfl ?_
        refine x_istore_n 28 hK rfl rfl [(2, .int (I 0)), (0, .ref 0), (1, .int (I n))] rfl ?_
        exact loop _ 0 _ _ rfl (⟨⟨by omega, by omega⟩, by omega⟩) (by omega) (fun c hc => by rw [show c = 0 by omega]; exact gi_same (by omega)) rfl rfl rfl (GD_w0 (hG) (r := 51) rfl rfl) (FRM_w ((FRM.rf : FRM gRL [(0, 51, 0, 8)] h h)) (r := 51) rfl rfl)
      · refine x_iconst 18 hK rfl rfl ?_
        exact x_iret hK rfl ⟨Or.inl ⟨fun z => by have z1 := z.1; have z2 := z.2; omega, rfl, rfl⟩, hG, FRM.rf⟩
