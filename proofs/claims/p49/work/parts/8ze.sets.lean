/-! SETS OF LANES -/
noncomputable def bitS (s : Int) (j : Nat) : Int := bAnd (bShr s j) 1
noncomputable def BS (s : Int) (u : Nat → Int) : Prop := (0 ≤ s ∧ s ≤ 511) ∧ ∀ j : Nat, j < 9 → (bitS s j = 1 ↔ u j < 1000)
noncomputable def mvB (v s : Int) : Int := if v = 0 then s else if 0 < v then bAnd (bOr (bShl s 1) (bAnd s 256)) 511 else bOr (bShr s 1) (bAnd s 1)
noncomputable def wdB (s : Int) : Int := bAnd (bOr (bOr s (bShl s 1)) (bShr s 1)) 511
theorem mvB_n1 : ∀ s : Nat, s < 512 → (0 ≤ mvB 1 s ∧ mvB 1 s ≤ 511) ∧ ∀ j : Nat, j < 9 → (bitS (mvB 1 s) j = 1 ↔ (1 ≤ j ∧ bitS s (j - 1) = 1) ∨ (j = 8 ∧ bitS s 8 = 1)) := by decide +kernel
theorem mvB_nm : ∀ s : Nat, s < 512 → (0 ≤ mvB (-1) s ∧ mvB (-1) s ≤ 511) ∧ ∀ j : Nat, j < 9 → (bitS (mvB (-1) s) j = 1 ↔ (j ≤ 7 ∧ bitS s (j + 1) = 1) ∨ (j = 0 ∧ bitS s 0 = 1)) := by decide +kernel
theorem wdB_n : ∀ s : Nat, s < 512 → (0 ≤ wdB s ∧ wdB s ≤ 511) ∧ ∀ j : Nat, j < 9 → (bitS (wdB s) j = 1 ↔ bitS s j = 1 ∨ (1 ≤ j ∧ bitS s (j - 1) = 1) ∨ (j ≤ 7 ∧ bitS s (j + 1) = 1)) := by decide +kernel
theorem gbL_lt {u a : Nat → Int} {w c : Int} : ∀ (n : Nat) (g : Nat), gbL u w c n a g < 1000 ↔ a g < 1000 ∨ ∃ l : Nat, l < n ∧ (g : Int) = max 0 (min 8 (l + w)) ∧ u l + c < 1000
  | 0, g => ⟨Or.inl, fun h => h.elim id fun ⟨l, h, _⟩ => absurd h (Nat.not_lt_zero _)⟩
  | n + 1, g => by
    have ih := gbL_lt (u := u) (a := a) (w := w) (c := c) n g
    show (if (g : Int) = max 0 (min 8 (n + w)) then min (gbL u w c n a g) (u n + c) else gbL u w c n a g) < 1000 ↔ _
    constructor
    · intro h
      by_cases r : gbL u w c n a g < 1000
      · rcases ih.mp r with z | ⟨l, z1, z2⟩
        · exact Or.inl z
        · exact Or.inr ⟨l, by omega, z2⟩
      · by_cases q : (g : Int) = max 0 (min 8 (n + w))
        · rw [if_pos q] at h
          exact Or.inr ⟨n, Nat.lt_succ_self n, q, by omega⟩
        · rw [if_neg q] at h
          exact absurd h r
    · rintro (z | ⟨l, z1, z2, z3⟩)
      · have y := ih.mpr (Or.inl z)
        split <;> omega
      · by_cases e : l = n
        · subst e
          rw [if_pos z2]
          omega
        · have y := ih.mpr (Or.inr ⟨l, by omega, z2, z3⟩)
          split <;> omega
theorem nev_no {j : Nat} (h : nev j < 1000) : False := by
  have z : (1000 : Int) < 1000 := h
  omega
theorem BS_0 {u : Nat → Int} {s : Int} (h : BS s u) : BS s (gbV 0 false u) := by
  refine ⟨h.1, fun j hj => ?_⟩
  have e : gbV 0 false u = gbL u 0 0 9 nev := rfl
  rw [e, gbL_lt, h.2 j hj]
  constructor
  · intro z
    exact Or.inr ⟨j, hj, by omega, by omega⟩
  · rintro (z | ⟨l, z1, z2, z3⟩)
    · exact (nev_no z).elim
    · rw [show j = l by omega]
      omega
theorem BS_mv {s v : Int} {u : Nat → Int} (h : BS s u) (hv : -1 ≤ v ∧ v ≤ 1) : BS (mvB v s) (gbV v false u) := by
  have h1 := h.1
  obtain ⟨n, hn⟩ : ∃ n : Nat, s = n := ⟨s.toNat, by omega⟩
  have e : gbV v false u = gbL u v 0 9 nev := rfl
  rcases (show v = 0 ∨ v = 1 ∨ v = -1 by omega) with rfl | rfl | rfl
  · rw [show mvB 0 s = s from rfl]
    exact BS_0 h
  · rw [e]
    have k := mvB_n1 n (by omega)
    rw [← hn] at k
    refine ⟨k.1, fun j hj => ?_⟩
    rw [gbL_lt, k.2 j hj]
    constructor
    · rintro (⟨a, b⟩ | ⟨a, b⟩)
      · have y := (h.2 (j - 1) (by omega)).mp b
        exact Or.inr ⟨j - 1, by omega, by omega, by omega⟩
      · have y := (h.2 8 (by omega)).mp b
        exact Or.inr ⟨8, by omega, by omega, by omega⟩
    · rintro (z | ⟨l, z1, z2, z3⟩)
      · exact (nev_no z).elim
      · by_cases q : l = 8
        · subst q
          exact Or.inr ⟨by omega, (h.2 8 (by omega)).mpr (by omega)⟩
        · refine Or.inl ⟨by omega, ?_⟩
          rw [show j - 1 = l by omega]
          exact (h.2 l z1).mpr (by omega)
  · rw [e]
    have k := mvB_nm n (by omega)
    rw [← hn] at k
    refine ⟨k.1, fun j hj => ?_⟩
    rw [gbL_lt, k.2 j hj]
    constructor
    · rintro (⟨a, b⟩ | ⟨a, b⟩)
      · have y := (h.2 (j + 1) (by omega)).mp b
        exact Or.inr ⟨j + 1, by omega, by omega, by omega⟩
      · have y := (h.2 0 (by omega)).mp b
        exact Or.inr ⟨0, by omega, by omega, by omega⟩
    · rintro (z | ⟨l, z1, z2, z3⟩)
      · exact (nev_no z).elim
      · by_cases q : l = 0
        · subst q
          exact Or.inr ⟨by omega, (h.2 0 (by omega)).mpr (by omega)⟩
        · refine Or.inl ⟨by omega, ?_⟩
          rw [show j + 1 = l by omega]
          exact (h.2 l z1).mpr (by omega)
/-- costs that are told stay below m -/
noncomputable def FN (m : Int) (u : Nat → Int) : Prop := ∀ g, u g < 1000 → u g ≤ m
theorem FN.mono {m m' : Int} {u : Nat → Int} (h : FN m u) (hm : m ≤ m') : FN m' u := fun g z => by have := h g z; omega
theorem FN_nev (m : Int) : FN m nev := fun _ z => (nev_no z).elim
theorem FN_gbL {u a : Nat → Int} {w c m : Int} (hc : 0 ≤ c) (hu : FN (m - c) u) (ha : FN m a) : ∀ n, FN m (gbL u w c n a)
  | 0 => ha
  | n + 1 => fun g => by
    have ih := FN_gbL (w := w) hc hu ha n g
    have y := hu n
    show (if (g : Int) = max 0 (min 8 (n + w)) then min (gbL u w c n a g) (u n + c) else gbL u w c n a g) < 1000 → (if (g : Int) = max 0 (min 8 (n + w)) then min (gbL u w c n a g) (u n + c) else gbL u w c n a g) ≤ m
    split
    · intro z
      by_cases p : gbL u w c n a g < 1000
      · have := ih p; omega
      · have := y (by omega); omega
    · exact ih
theorem FN_gb0 {u : Nat → Int} {v m : Int} (hu : FN m u) : FN m (gbV v false u) := FN_gbL (Int.le_refl 0) (by rw [Int.sub_zero]; exact hu) (FN_nev m) 9
theorem FN_gb1 {u : Nat → Int} {v m : Int} (hu : FN m u) : FN (m + 1) (gbV v true u) := by
  have h1 : FN (m + 1 - 1) u := hu.mono (by omega)
  have h0 : FN (m + 1 - 0) u := hu.mono (by omega)
  exact FN_gbL (by omega) h1 (FN_gbL (by omega) h0 (FN_gbL (by omega) h1 (FN_nev _) 9) 9) 9
theorem BS_wd {s m v : Int} {u : Nat → Int} (h : BS s u) (hu : FN m u) (hm : m ≤ 998) : BS (wdB s) (gbV v true u) := by
  have h1 := h.1
  obtain ⟨n, hn⟩ : ∃ n : Nat, s = n := ⟨s.toNat, by omega⟩
  have e : gbV v true u = gbL u 1 1 9 (gbL u 0 0 9 (gbL u (-1) 1 9 nev)) := rfl
  have k := wdB_n n (by omega)
  rw [← hn] at k
  rw [e]
  refine ⟨k.1, fun j hj => ?_⟩
  rw [gbL_lt, gbL_lt, gbL_lt, k.2 j hj]
  constructor
  · rintro (b | ⟨a, b⟩ | ⟨a, b⟩)
    · have y := (h.2 j hj).mp b
      exact Or.inl (Or.inr ⟨j, hj, by omega, by omega⟩)
    · have y := (h.2 (j - 1) (by omega)).mp b
      have x := hu _ y
      exact Or.inr ⟨j - 1, by omega, by omega, by omega⟩
    · have y := (h.2 (j + 1) (by omega)).mp b
      have x := hu _ y
      exact Or.inl (Or.inl (Or.inr ⟨j + 1, by omega, by omega, by omega⟩))
  · rintro (((z | ⟨l, z1, z2, z3⟩) | ⟨l, z1, z2, z3⟩) | ⟨l, z1, z2, z3⟩)
    · exact (nev_no z).elim
    · have y := (h.2 l z1).mpr (by omega)
      by_cases q : l = 0
      · subst q
        rw [show j = 0 by omega]
        exact Or.inl y
      · refine Or.inr (Or.inr ⟨by omega, ?_⟩)
        rw [show j + 1 = l by omega]
        exact y
    · rw [show j = l by omega]
      exact Or.inl ((h.2 l z1).mpr (by omega))
    · have y := (h.2 l z1).mpr (by omega)
      by_cases q : l = 8
      · subst q
        rw [show j = 8 by omega]
        exact Or.inl y
      · refine Or.inr (Or.inl ⟨by omega, ?_⟩)
        rw [show j - 1 = l by omega]
        exact y
/-! bit by bit -/
noncomputable def gb (s : Int) (j : Nat) : Bool := (I s).toBitVec.getLsbD j
theorem gb_and (a b : Int) (j : Nat) : gb (bAnd a b) j = (gb a j && gb b j) := by
  unfold gb bAnd
  rw [I_ti]
  exact BitVec.getLsbD_and
theorem gb_or (a b : Int) (j : Nat) : gb (bOr a b) j = (gb a j || gb b j) := by
  unfold gb bOr
  rw [I_ti]
  exact BitVec.getLsbD_or
theorem gb_xor (a b : Int) (j : Nat) : gb (bXor a b) j = (gb a j ^^ gb b j) := by
  unfold gb bXor
  rw [I_ti]
  exact BitVec.getLsbD_xor
theorem gb_m1 : ∀ j : Nat, j < 9 → gb (-1) j = true := by decide +kernel
theorem bt_n : ∀ s : Nat, s < 512 → (I s).toBitVec.toNat = s ∧ ∀ j : Nat, j < 9 → (bitS s j = 1 ↔ gb s j = true) := by decide +kernel
theorem bt_gb {s : Int} (h : 0 ≤ s ∧ s ≤ 511) {j : Nat} (hj : j < 9) : bitS s j = 1 ↔ gb s j = true := by
  obtain ⟨n, hn⟩ : ∃ n : Nat, s = n := ⟨s.toNat, by omega⟩
  rw [hn]
  exact (bt_n n (by omega)).2 j hj
theorem bAnd_in {s : Int} (h : 0 ≤ s ∧ s ≤ 511) (b : Int) : 0 ≤ bAnd s b ∧ bAnd s b ≤ 511 := by
  obtain ⟨n, hn⟩ : ∃ n : Nat, s = n := ⟨s.toNat, by omega⟩
  have e : ((I s).toBitVec &&& (I b).toBitVec).toNat ≤ 511 := by
    rw [BitVec.toNat_and]
    refine Nat.le_trans Nat.and_le_left ?_
    rw [hn, (bt_n n (by omega)).1]
    omega
  show 0 ≤ ((I s).toBitVec &&& (I b).toBitVec).toInt ∧ ((I s).toBitVec &&& (I b).toBitVec).toInt ≤ 511
  rw [BitVec.toInt_eq_toNat_of_lt (by omega)]
  omega
theorem or_n : ∀ l : Nat, l < 9 → (0 ≤ bShl 1 l ∧ bShl 1 l ≤ 511) ∧ (∀ j : Nat, j < 9 → (gb (bShl 1 l) j = true ↔ j = l)) ∧ ∀ s : Nat, s < 512 → 0 ≤ bOr s (bShl 1 l) ∧ bOr s (bShl 1 l) ≤ 511 := by decide +kernel
/-- LANES of ROCKS as bits -/
noncomputable def RB (r : Int) (f : Nat → Int) : Prop := (0 ≤ r ∧ r ≤ 511) ∧ ∀ j : Nat, j < 9 → (bitS r j = 1 ↔ 0 < f j)
theorem RB_c {r : Int} {f f' : Nat → Int} (h : RB r f) (e : ∀ j : Nat, j < 9 → (0 < f j ↔ 0 < f' j)) : RB r f' := ⟨h.1, fun j hj => (h.2 j hj).trans (e j hj)⟩
theorem RB_0 : RB 0 (fun _ => 0) := ⟨by omega, by decide +kernel⟩
theorem RB_or {r l : Int} {f f' : Nat → Int} (h : RB r f) (hl : 0 ≤ l ∧ l ≤ 8) (e : ∀ j : Nat, j < 9 → (0 < f' j ↔ 0 < f j ∨ (j : Int) = l)) : RB (bOr r (bShl 1 l)) f' := by
  have h1 := h.1
  obtain ⟨n, hn⟩ : ∃ n : Nat, l = n := ⟨l.toNat, by omega⟩
  obtain ⟨k, hk⟩ : ∃ k : Nat, r = k := ⟨r.toNat, by omega⟩
  have y := or_n n (by omega)
  have rr : 0 ≤ bOr r (bShl 1 l) ∧ bOr r (bShl 1 l) ≤ 511 := by
    rw [hn, hk]
    exact y.2.2 k (by omega)
  refine ⟨rr, fun j hj => ?_⟩
  rw [bt_gb rr hj, gb_or, Bool.or_eq_true, ← bt_gb h.1 hj, h.2 j hj, e j hj]
  rw [show gb (bShl 1 l) j = true ↔ (j : Int) = l from by
    rw [hn, y.2.1 j hj]
    omega]
theorem BS_rk {s r : Int} {u f : Nat → Int} (h : BS s u) (hr : RB r f) : BS (bAnd s (bXor r (-1))) (fun g => if 0 < f g then 1000 else u g) := by
  have rr := bAnd_in h.1 (bXor r (-1))
  refine ⟨rr, fun j hj => ?_⟩
  rw [bt_gb rr hj, gb_and, gb_xor, gb_m1 j hj, Bool.and_eq_true, ← bt_gb h.1 hj, h.2 j hj]
  show _ ↔ (if 0 < f j then (1000 : Int) else u j) < 1000
  have z := hr.2 j hj
  rw [bt_gb hr.1 hj] at z
  by_cases c : 0 < f j
  · rw [if_pos c, z.mpr c]
    constructor
    · intro q; exact absurd q.2 Bool.noConfusion
    · intro q; omega
  · rw [if_neg c]
    cases g : gb r j with
    | true => exact absurd (z.mp g) c
    | false => exact ⟨fun q => q.1, fun q => ⟨q, rfl⟩⟩
/-! the same list of doings -/
noncomputable def chA (a : Int) : Int → Int := fun k => if k < a then 0 else 2
theorem FN_op {ch : Int → Int} {l m : Int} {hit : Int → Nat → Int} {q : Int × Int} {u : Nat → Int} (hu : FN m u) : FN (m + 1) (opF ch l hit q u) := by
  unfold opF
  split
  · exact (FN_gb0 hu).mono (by omega)
  · split
    · cases decide (ch q.2 = 2)
      · exact (FN_gb0 hu).mono (by omega)
      · exact FN_gb1 hu
    · intro g
      show (if 0 < hit q.2 g then (1000 : Int) else u g) < 1000 → (if 0 < hit q.2 g then (1000 : Int) else u g) ≤ m + 1
      split
      · intro z; omega
      · intro z; have := hu g z; omega
theorem FN_wy {ch : Int → Int} {l m : Int} {hit : Int → Nat → Int} : ∀ (L : List (Int × Int)) {u : Nat → Int}, (∀ q ∈ L, q.1 = 0) → FN m u → FN m (opsF ch l hit L u)
  | [], u, _, h => h
  | q :: r, u, hq, h => by
    refine FN_wy r (u := opF ch l hit q u) (fun x hx => hq x (List.mem_cons_of_mem _ hx)) ?_
    unfold opF
    rw [if_pos (hq q List.mem_cons_self)]
    exact FN_gb0 h
theorem FN_blk {ch : Int → Int} {l m t now last : Int} {dl : Int → Int} {hit : Int → Nat → Int} {u : Nat → Int} (hu : FN m u) : ∀ i : Nat, FN (m + i) (opsF ch l hit (blkC now last dl t i) u)
  | 0 => hu.mono (by omega)
  | i + 1 => by
    have ih := FN_blk (ch := ch) (l := l) (t := t) (now := now) (last := last) (dl := dl) (hit := hit) hu i
    show FN _ (opsF ch l hit (blkC now last dl t i ++ if cmF now last dl i t = true then [(1, (i : Int))] else []) u)
    split
    · rw [opsF_s]
      exact (FN_op ih).mono (by omega)
    · rw [List.append_nil]
      exact ih.mono (by omega)
theorem op_2 {ch : Int → Int} {l t : Int} {hit : Int → Nat → Int} {u : Nat → Int} : opF ch l hit (2, t) u = fun g => if 0 < hit t g then 1000 else u g := rfl
theorem op_1 {ch : Int → Int} {l k : Int} {hit : Int → Nat → Int} {u : Nat → Int} : opF ch l hit (1, k) u = gbV (tvF l (ch k)) (decide (ch k = 2)) u := rfl
theorem BS_op1 {a l k s m : Int} {hit : Int → Nat → Int} {u : Nat → Int} (h : BS s u) (hu : FN m u) (hm : m ≤ 998) (hk : a ≤ k) : BS (wdB s) (opF (chA a) l hit (1, k) u) := by
  rw [op_1, show chA a k = 2 from if_neg (by omega)]
  exact BS_wd h hu hm
theorem BS_op1n {a l k s : Int} {hit : Int → Nat → Int} {u : Nat → Int} (h : BS s u) (hk : k < a) : BS s (opF (chA a) l hit (1, k) u) := by
  rw [op_1, show chA a k = 0 from if_pos hk, show tvF l 0 = 0 from by unfold tvF; split <;> rfl]
  exact BS_0 h
theorem BS_skip {a l t s now last : Int} {dl : Int → Int} {hit : Int → Nat → Int} {u : Nat → Int} (h : BS s u) : ∀ i : Nat, (∀ k : Nat, k < i → cmF now last dl k t = true → (k : Int) < a) → BS s (opsF (chA a) l hit (blkC now last dl t i) u)
  | 0, _ => h
  | i + 1, hk => by
    have ih := BS_skip (l := l) (hit := hit) h i fun k z => hk k (by omega)
    show BS s (opsF (chA a) l hit (blkC now last dl t i ++ if cmF now last dl i t = true then [(1, (i : Int))] else []) u)
    split
    · rename_i c
      rw [opsF_s]
      exact BS_op1n ih (hk i (by omega) c)
    · rw [List.append_nil]
      exact ih
theorem blk_hi {now last t : Int} {dl : Int → Int} (hd : ∀ s, 1 ≤ dl s ∧ dl s ≤ 12) : ∀ i : Nat, t ≤ i → blkC now last dl t i = blkC now last dl t t.toNat
  | 0, h => by rw [show t.toNat = 0 by omega]
  | i + 1, h => by
    by_cases c : t ≤ i
    · show blkC now last dl t i ++ (if cmF now last dl i t = true then [(1, (i : Int))] else []) = _
      rw [blk_hi hd i c, if_neg (fun z => by have y := (cmF_t z).2; have := hd (now + (i : Int)); omega), List.append_nil]
    · rw [show t.toNat = i + 1 by omega]
/-- costs behind t STEPS -/
noncomputable def XS (a l : Int) (hit : Int → Nat → Int) (L : List (Int × Int × Int)) (now last : Int) (dl : Int → Int) (l0 : Int) (t : Nat) : Nat → Int := opsF (chA a) l hit (opsT L now last dl t) (fun (g : Nat) => if (g : Int) = l0 then 0 else 1000)
theorem XS_t {a l : Int} {hit : Int → Nat → Int} {L : List (Int × Int × Int)} {now last : Int} {dl : Int → Int} {l0 t : Int} (ht : 1 ≤ t) : XS a l hit L now last dl l0 t.toNat = opF (chA a) l hit (2, t) (opsF (chA a) l hit (blkC now last dl t t.toNat) (opsF (chA a) l hit (wyF L (now + t)) (XS a l hit L now last dl l0 (t - 1).toNat))) := by
  obtain ⟨k, hk⟩ : ∃ k : Nat, t = ((k + 1 : Nat) : Int) := ⟨(t - 1).toNat, by omega⟩
  subst hk
  rw [show (((k + 1 : Nat) : Int) - 1).toNat = k by omega, Int.toNat_natCast]
  unfold XS
  rw [show opsT L now last dl (k + 1) = opsT L now last dl k ++ blkT L now last dl (k + 1) from rfl, opsF_app]
  unfold blkT
  rw [opsF_app, opsF_s]
theorem XS_FN {a l : Int} {hit : Int → Nat → Int} {L : List (Int × Int × Int)} {now last : Int} {dl : Int → Int} {l0 : Int} : ∀ t : Nat, t ≤ 30 → FN (31 * t) (XS a l hit L now last dl l0 t)
  | 0, _ => fun g => by
    show (if (g : Int) = l0 then (0 : Int) else 1000) < 1000 → (if (g : Int) = l0 then (0 : Int) else 1000) ≤ 31 * ((0 : Nat) : Int)
    split <;> omega
  | t + 1, h => by
    have ih := XS_FN (a := a) (l := l) (hit := hit) (L := L) (now := now) (last := last) (dl := dl) (l0 := l0) t (by omega)
    have e := XS_t (a := a) (l := l) (hit := hit) (L := L) (now := now) (last := last) (dl := dl) (l0 := l0) (t := ((t + 1 : Nat) : Int)) (by omega)
    rw [Int.toNat_natCast, show (((t + 1 : Nat) : Int) - 1).toNat = t by omega] at e
    rw [e]
    exact (FN_op (FN_blk (FN_wy _ (fun q hq => wyF_1 hq) ih) (t + 1))).mono (by omega)
theorem XS_0 {a l : Int} {hit : Int → Nat → Int} {L : List (Int × Int × Int)} {now last : Int} {dl : Int → Int} {l0 : Int} (hl : 0 ≤ l0 ∧ l0 ≤ 8) : BS (bShl 1 l0) (XS a l hit L now last dl l0 0) := by
  obtain ⟨n, hn⟩ : ∃ n : Nat, l0 = n := ⟨l0.toNat, by omega⟩
  have y := or_n n (by omega)
  rw [hn]
  refine ⟨y.1, fun j hj => ?_⟩
  rw [bt_gb y.1 hj, y.2.1 j hj]
  show _ ↔ (if (j : Int) = (n : Int) then (0 : Int) else 1000) < 1000
  by_cases c : j = n
  · rw [if_pos (by omega)]; omega
  · rw [if_neg (by omega)]; omega
/-- orders that are done in STEP d, out of a list by STEPS -/
noncomputable def wyS (K : List (Int × Int)) (d : Int) : List (Int × Int) := (K.filter fun q => decide (q.1 = d)).map fun q => (0, q.2)
theorem wyS_srt (L : List (Int × Int × Int)) (d : Int) : wyS (srt L) d = wyF L d := by
  unfold wyS wyF
  have e : srt (L.filter fun q => decide (q.1 = d)) = (srt L).filter fun q => decide (q.1 = d) := srt_f (fun t => decide (t = d)) L
  have e2 : srt (L.filter fun q => decide (q.1 = d)) = (L.filter fun q => decide (q.1 = d)).map fun q => (q.1, q.2.1) := srt_same (d := d) (L.filter fun q => decide (q.1 = d)) (C := []) (fun q hq => of_decide_eq_true (List.mem_filter.mp hq).2) (fun y hy => absurd hy List.not_mem_nil)
  rw [← e, e2, List.map_map]
  rfl
theorem wyS_s (K : List (Int × Int)) (q : Int × Int) (d : Int) : wyS (K ++ [q]) d = wyS K d ++ if q.1 = d then [(0, q.2)] else [] := by
  unfold wyS
  rw [List.filter_append, List.map_append]
  congr 1
  by_cases c : q.1 = d
  · rw [if_pos c, List.filter_cons_of_pos (p := fun q : Int × Int => decide (q.1 = d)) (decide_eq_true c)]; rfl
  · rw [if_neg c, List.filter_cons_of_neg (p := fun q : Int × Int => decide (q.1 = d)) (by rw [decide_eq_false c]; exact Bool.noConfusion)]; rfl
theorem wyS_ext {h : aH} {d : Int} {n : Nat} : ∀ m : Nat, (∀ i : Nat, n ≤ i → i < n + m → gi h 24 i ≠ d) → wyS (kO h 23 (n + m)) d = wyS (kO h 23 n) d
  | 0, _ => rfl
  | m + 1, hi => by
    rw [show n + (m + 1) = n + m + 1 by omega, kO_s, wyS_s, if_neg (hi (n + m) (by omega) (by omega)), List.append_nil]
    exact wyS_ext m fun i h1 h2 => hi i h1 (by omega)
theorem wyS_lo {h : aH} {d : Int} {n : Nat} (hi : ∀ i : Nat, i < n → gi h 24 i < d) : wyS (kO h 23 n) d = [] := by
  have e := wyS_ext (h := h) (d := d) (n := 0) n fun i _ h2 => by have := hi i (by omega); omega
  rw [Nat.zero_add] at e
  rw [e]
  rfl
theorem SRT_at {K : List (Int × Int)} (hs : SRT K) {i j : Nat} {x y : Int × Int} (hij : i ≤ j) (hx : K[i]? = some x) (hy : K[j]? = some y) : x.1 ≤ y.1 := by
  by_cases c : i = j
  · subst c
    rw [hx] at hy
    cases hy
    exact Int.le_refl _
  · obtain ⟨a, ea⟩ := List.getElem?_eq_some_iff.mp hx
    obtain ⟨b, eb⟩ := List.getElem?_eq_some_iff.mp hy
    have z := List.pairwise_iff_getElem.mp hs i j a b (by omega)
    rw [ea, eb] at z
    exact z
set_option maxRecDepth 4000 in
theorem ctX0_movedF {SP : CT} (hSP : MONO SP) {h : aH} {s v : Int} (hv : -1 ≤ v ∧ v ≤ 1) : CLd SP 1 mX0_moved [.int (I s), .int (I v)] h 0 0 (fun rv h' => h' = h ∧ rv = some (.int (I (mvB v s)))) := by
  refine x_met _ rfl (Nat.le_of_ble_eq_true rfl) (fun K hK => ?_)
  have hmono := MONO_CLd hSP 0
  refine x_iload_n 1 hK rfl rfl rfl ?_
  refine x_if_ne 6 4 hK rfl rfl rfl (by omega) (fun c2 => ?_) (fun c2 => ?_)
  · refine x_iload_n 7 hK rfl rfl rfl ?_
    refine x_if_le 26 10 hK rfl rfl rfl (by omega) (fun c4 => ?_) (fun c4 => ?_)
    · refine x_iload_n 27 hK rfl rfl rfl ?_
      refine x_iconst 28 hK rfl rfl ?_
      have g383 := bShr_r s 1
      refine x_ishrF 29 hK rfl rfl ?_
      refine x_iload_n 30 hK rfl rfl rfl ?_
      refine x_iconst 31 hK rfl rfl ?_
      have g384 := bAnd_r s 1
      refine x_iandF 32 hK rfl rfl ?_
      have g385 := bOr_r (bShr s 1) (bAnd s 1)
      refine x_iorF 33 hK rfl rfl ?_
      have em : mvB v s = (bOr (bShr s 1) (bAnd s 1)) := (if_neg (by omega)).trans (if_neg (by omega))
      exact x_iret hK rfl ⟨rfl, by rw [em]⟩
    · refine x_iload_n 11 hK rfl rfl rfl ?_
      refine x_iconst 12 hK rfl rfl ?_
      have g386 := bShl_r s 1
      refine x_ishlF 13 hK rfl rfl ?_
      refine x_iload_n 14 hK rfl rfl rfl ?_
      refine x_sipush 17 hK rfl rfl rfl ?_
      have g387 := bAnd_r s 256
      refine x_iandF 18 hK rfl rfl ?_
      have g388 := bOr_r (bShl s 1) (bAnd s 256)
      refine x_iorF 19 hK rfl rfl ?_
      refine x_sipush 22 hK rfl rfl rfl ?_
      have g389 := bAnd_r (bOr (bShl s 1) (bAnd s 256)) 511
      refine x_iandF 23 hK rfl rfl ?_
      refine x_goto 33 hK rfl rfl ?_
      have em : mvB v s = (bAnd (bOr (bShl s 1) (bAnd s 256)) 511) := (if_neg (by omega)).trans (if_pos (by omega))
      exact x_iret hK rfl ⟨rfl, by rw [em]⟩
  · refine x_iload_n 5 hK rfl rfl rfl ?_
    have em : mvB v s = s := if_pos (by omega)
    exact x_iret hK rfl ⟨rfl, by rw [em]⟩
set_option maxRecDepth 4000 in
theorem ctX10_widenedF {SP : CT} (hSP : MONO SP) {h : aH} {s : Int} : CLd SP 1 mX10_widened [.int (I s)] h 0 0 (fun rv h' => h' = h ∧ rv = some (.int (I (wdB s)))) := by
  refine x_met _ rfl (Nat.le_of_ble_eq_true rfl) (fun K hK => ?_)
  have hmono := MONO_CLd hSP 0
  refine x_iload_n 1 hK rfl rfl rfl ?_
  refine x_iload_n 2 hK rfl rfl rfl ?_
  refine x_iconst 3 hK rfl rfl ?_
  have g390 := bShl_r s 1
  refine x_ishlF 4 hK rfl rfl ?_
  have g391 := bOr_r s (bShl s 1)
  refine x_iorF 5 hK rfl rfl ?_
  refine x_iload_n 6 hK rfl rfl rfl ?_
  refine x_iconst 7 hK rfl rfl ?_
  have g392 := bShr_r s 1
  refine x_ishrF 8 hK rfl rfl ?_
  have g393 := bOr_r (bOr s (bShl s 1)) (bShr s 1)
  refine x_iorF 9 hK rfl rfl ?_
  refine x_sipush 12 hK rfl rfl rfl ?_
  have g394 := bAnd_r (bOr (bOr s (bShl s 1)) (bShr s 1)) 511
  refine x_iandF 13 hK rfl rfl ?_
  exact x_iret hK rfl ⟨rfl, rfl⟩
set_option maxRecDepth 4000 in
theorem ctX0_reachF {SP : CT} (hSP : MONO SP) {sh : List (Nat × Nat)} {h : aH} (hG : GD gE gRL sh h) {L : List (Int × Int × Int)} {now last l a f n : Int} {dl : Int → Int} {uh : Bool} {hit : Int → Nat → Int} (en : gi h 23 0 = now) (eo : kO h 23 (gi h 23 4).toNat = srt L) (hd : ∀ s, 1 ≤ dl s ∧ dl s ≤ 12) (nr : 0 ≤ now ∧ now ≤ 1000000) (hr : ∀ i : Nat, (i : Int) < gi h 23 4 → now < gi h 24 i ∧ gi h 24 i ≤ now + 12 ∧ -1 ≤ gi h 25 i ∧ gi h 25 i ≤ 1) (dn : ∀ j : Nat, j < 30 → gi h 128 j = j + dl (now + j)) (ha : 0 ≤ a ∧ a ≤ 30) (ef : f = max a (if last = now then 1 else 0)) (hn : 0 ≤ n ∧ n ≤ 30) (rk : (uh = true ∧ ∀ t : Nat, 1 ≤ t → t ≤ 30 → RB (gi h 129 t) (hit t)) ∨ (uh = false ∧ hit = fun _ _ => 0)) : CLd SP 3 mX0_reach [.ref 127, .ref 23, .int (I f), .int (I n), .int (I (b2i uh))] h 0 0 (fun rv h' => rv = none ∧ GD gE gRL sh h' ∧ FRM gRL [(0, 44, 0, 30)] h h' ∧ ∀ q : Nat, (q : Int) ≤ n → BS (gi h' 130 q) (XS a l hit L now last dl (gi h 23 1) q)) := by
  refine x_met _ rfl (Nat.le_of_ble_eq_true rfl) (fun K hK => ?_)
  have hmono := MONO_CLd hSP 2
  have ub := b2i_r uh
  have g4 := gri 0 12 hG (a := 23) (r := 17) (k := 4) rfl rfl
  have gl0 := gri 0 8 hG (a := 23) (r := 17) (k := 1) rfl rfl
  have fb : 0 ≤ f ∧ f ≤ 30 ∧ a ≤ f ∧ (last = now → 1 ≤ f) := by
    rw [ef]
    split <;> omega
  have ff : ∀ k : Nat, (k : Int) < f → (k : Int) < a ∨ (k = 0 ∧ last = now) := fun k hk => by
    rw [ef] at hk
    split at hk <;> omega
  have so : ∀ i j : Nat, i ≤ j → (j : Int) < gi h 23 4 → gi h 24 i ≤ gi h 24 j := fun i j h1 h2 => by
    have z := SRT_at (K := kO h 23 (gi h 23 4).toNat) (by rw [eo]; exact srt_SRT L) h1 (kO_at (h := h) (c := 23) (n := (gi h 23 4).toNat) (j := i) (by omega)) (kO_at (h := h) (c := 23) (n := (gi h 23 4).toNat) (j := j) (by omega))
    exact z
  have loop : ∀ (mz : Nat) (nx t : Int) (h4 : aH) (ls : List (Nat × Value)), ((n + 1 - t).toNat = mz) → (1 ≤ t ∧ t ≤ n + 1) → (0 ≤ nx ∧ nx ≤ gi h 23 4) → (∀ i : Nat, (i : Int) < nx → gi h 24 i < now + t) → (∀ i : Nat, nx ≤ i → (i : Int) < gi h 23 4 → now + t ≤ gi h 24 i) → (∀ q : Nat, (q : Int) < t → BS (gi h4 130 q) (XS a l hit L now last dl (gi h 23 1) q)) → lk ls 0 = some (.ref 127) → lk ls 1 = some (.ref 23) → lk ls 2 = some (.int (I f)) → lk ls 3 = some (.int (I n)) → lk ls 4 = some (.int (I (b2i uh))) → lk ls 5 = some (.int (I nx)) → lk ls 6 = some (.int (I t)) → GD gE gRL sh h4 → FRM gRL [(0, 44, 0, 30)] h h4 → K 18 ls [] h4 0 0 := by
    intro mz
    induction mz using Nat.strongRecOn with
    | ind mz ih =>
    intro nx t h4 ls hm t0 x0 lo hi rs l0 l1 l2 l3 l4 l5 l6 hG4 hF4
    have iht := ih
    have e4 : gi h4 23 4 = gi h 23 4 := FRM_gi hF4 (r := 17) rfl rfl
    have f1 : t ≤ n → FN (31 * (t - 1)) (XS a l hit L now last dl (gi h 23 1) (t - 1).toNat) := fun z => by
      have y := XS_FN (a := a) (l := l) (hit := hit) (L := L) (now := now) (last := last) (dl := dl) (l0 := gi h 23 1) (t - 1).toNat (by omega)
      exact y.mono (by omega)
    have inner : ∀ (mz : Nat) (nz s i : Int) (ls : List (Nat × Value)), ((t - i).toNat = mz) → (t ≤ n) → (0 ≤ nz ∧ nz ≤ gi h 23 4) → (∀ q : Nat, (q : Int) < nz → gi h 24 q < now + (t + 1)) → (∀ q : Nat, nz ≤ q → (q : Int) < gi h 23 4 → now + (t + 1) ≤ gi h 24 q) → (0 ≤ s ∧ s ≤ 511) → (f ≤ i ∧ t - 12 ≤ i ∧ i ≤ 30) → (BS s (opsF (chA a) l hit (blkC now last dl t i.toNat) (opsF (chA a) l hit (wyF L (now + t)) (XS a l hit L now last dl (gi h 23 1) (t - 1).toNat)))) → lk ls 0 = some (.ref 127) → lk ls 1 = some (.ref 23) → lk ls 2 = some (.int (I f)) → lk ls 3 = some (.int (I n)) → lk ls 4 = some (.int (I (b2i uh))) → lk ls 5 = some (.int (I nz)) → lk ls 6 = some (.int (I t)) → lk ls 7 = some (.int (I s)) → lk ls 8 = some (.int (I i)) → K 92 ls [] h4 0 0 := by
      intro mz
      induction mz using Nat.strongRecOn with
      | ind mz ih =>
      intro nz s i ls hm t1 z0 lo3 hi3 sr i0 bs l0 l1 l2 l3 l4 l5 l6 l7 l8
      have fi : FN (31 * (t - 1) + i) (opsF (chA a) l hit (blkC now last dl t i.toNat) (opsF (chA a) l hit (wyF L (now + t)) (XS a l hit L now last dl (gi h 23 1) (t - 1).toNat))) := (FN_blk (FN_wy _ (fun q hq => wyF_1 hq) (f1 t1)) i.toNat).mono (by omega)
      have dni : i < t → gi h4 128 i.toNat = i + dl (now + i) := fun z => by
        have y := dn i.toNat (by omega)
        rw [show ((i.toNat : Nat) : Int) = i by omega] at y
        exact (FRM_gi hF4 (r := 42) rfl rfl).trans y
      have di := hd (now + i)
      have bn : (blkC now last dl t (i + 1).toNat) = (blkC now last dl t i.toNat) ++ if cmF now last dl i t = true then [(1, i)] else [] := by
        rw [tn_s (by omega)]
        show blkC now last dl t i.toNat ++ (if cmF now last dl ((i.toNat : Nat) : Int) t = true then [(1, ((i.toNat : Nat) : Int))] else []) = _
        rw [show ((i.toNat : Nat) : Int) = i by omega]
      refine x_iload 94 hK rfl rfl l8 ?_
      refine x_iload 96 hK rfl rfl l6 ?_
      refine x_if_icmp_ge 129 99 hK rfl rfl rfl (by omega) (by omega) (fun c3 => ?_) (fun c3 => ?_)
      · refine x_aload_n 130 hK rfl rfl l0 ?_
        refine x_getR 133 hK rfl rfl (sp_127 (h := h4) hG4) (rf_127_2 (h := h4) hG4) ?_
        refine x_iload 135 hK rfl rfl l6 ?_
        refine x_iload 137 hK rfl rfl l4 ?_
        refine x_if_eq 155 140 hK rfl rfl rfl (by omega) (fun c8 => ?_) (fun c8 => ?_)
        · refine x_iload 157 hK rfl rfl l7 ?_
          refine x_iastore 158 hK rfl rfl (sp_130 (h := h4) hG4) (by omega) (by omega) (by omega) ?_
          refine x_iinc 161 hK rfl rfl l6 _ rfl ?_
          refine x_goto 18 hK rfl rfl ?_
          have bl : BS s (opsF (chA a) l hit (blkC now last dl t t.toNat) (opsF (chA a) l hit (wyF L (now + t)) (XS a l hit L now last dl (gi h 23 1) (t - 1).toNat))) := by
            have e := blk_hi (now := now) (last := last) (t := t) hd i.toNat (by omega)
            rw [e] at bs
            exact bs
          have b2 : BS s (XS a l hit L now last dl (gi h 23 1) t.toNat) := by
            rw [XS_t (by omega), op_2]
            rcases rk with ⟨r1, r2⟩ | ⟨r1, r2⟩
            · have : b2i uh = 1 := by rw [r1]; rfl
              omega
            · rw [r2] at bl ⊢
              exact bl
          have b2r := b2.1
          have nn : ∀ q : Nat, (q : Int) < t + 1 → BS (gi (wI h4 130 t.toNat s) 130 q) (XS a l hit L now last dl (gi h 23 1) q) := fun q hq => by
            by_cases c : q = t.toNat
            · rw [c, show gi (wI h4 130 t.toNat s) 130 t.toNat = s from gi_same (by omega)]
              exact b2
            · rw [show gi (wI h4 130 t.toNat s) 130 q = gi h4 130 q from gi_k c _]
              exact rs q (by omega)
          exact iht _ (by omega) nz (t + 1) _ _ rfl (by omega) (by omega) (lo3) (hi3) (nn) (lk1_n l0 (by decide) (Or.inl rfl)) (lk1_n l1 (by decide) (Or.inl rfl)) (lk1_n l2 (by decide) (Or.inl rfl)) (lk1_n l3 (by decide) (Or.inl rfl)) (lk1_n l4 (by decide) (Or.inl rfl)) (lk1_n l5 (by decide) (Or.inl rfl)) lk1_s (GD_wn (hG4) (r := 44) rfl rfl) (FRM_wn 0 30 (hF4) (r := 44) rfl rfl rfl (by omega) (by omega))
        · refine x_iload 142 hK rfl rfl l7 ?_
          refine x_aload_n 143 hK rfl rfl l0 ?_
          refine x_getR 146 hK rfl rfl (sp_127 (h := h4) hG4) (rf_127_1 (h := h4) hG4) ?_
          refine x_iload 148 hK rfl rfl l6 ?_
          have g395 := gi_r h 129 t.toNat
          refine x_ialoadE 149 hK rfl rfl (sp_129 (h := h4) hG4) (by omega) (by omega) (by omega) (e' := (gi h 129 t.toNat)) (FRM_gi hF4 (r := 43) rfl rfl) ?_
          refine x_iconst 150 hK rfl rfl ?_
          have g396 := bXor_r (gi h 129 t.toNat) (-1)
          refine x_ixorF 151 hK rfl rfl ?_
          have g397 := bAnd_r s (bXor (gi h 129 t.toNat) (-1))
          refine x_iandF 152 hK rfl rfl ?_
          refine x_goto 157 hK rfl rfl ?_
          refine x_iastore 158 hK rfl rfl (sp_130 (h := h4) hG4) (by omega) (by omega) (by omega) ?_
          refine x_iinc 161 hK rfl rfl l6 _ rfl ?_
          refine x_goto 18 hK rfl rfl ?_
          have bl : BS s (opsF (chA a) l hit (blkC now last dl t t.toNat) (opsF (chA a) l hit (wyF L (now + t)) (XS a l hit L now last dl (gi h 23 1) (t - 1).toNat))) := by
            have e := blk_hi (now := now) (last := last) (t := t) hd i.toNat (by omega)
            rw [e] at bs
            exact bs
          have b2 : BS (bAnd s (bXor (gi h 129 t.toNat) (-1))) (XS a l hit L now last dl (gi h 23 1) t.toNat) := by
            rw [XS_t (by omega), op_2]
            rcases rk with ⟨r1, r2⟩ | ⟨r1, r2⟩
            · have z := r2 t.toNat (by omega) (by omega)
              rw [show ((t.toNat : Nat) : Int) = t by omega] at z
              exact BS_rk bl z
            · have : b2i uh = 0 := by rw [r1]; rfl
              omega
          have b2r := b2.1
          have nn : ∀ q : Nat, (q : Int) < t + 1 → BS (gi (wI h4 130 t.toNat (bAnd s (bXor (gi h 129 t.toNat) (-1)))) 130 q) (XS a l hit L now last dl (gi h 23 1) q) := fun q hq => by
            by_cases c : q = t.toNat
            · rw [c, show gi (wI h4 130 t.toNat (bAnd s (bXor (gi h 129 t.toNat) (-1)))) 130 t.toNat = (bAnd s (bXor (gi h 129 t.toNat) (-1))) from gi_same (by omega)]
              exact b2
            · rw [show gi (wI h4 130 t.toNat (bAnd s (bXor (gi h 129 t.toNat) (-1)))) 130 q = gi h4 130 q from gi_k c _]
              exact rs q (by omega)
          exact iht _ (by omega) nz (t + 1) _ _ rfl (by omega) (by omega) (lo3) (hi3) (nn) (lk1_n l0 (by decide) (Or.inl rfl)) (lk1_n l1 (by decide) (Or.inl rfl)) (lk1_n l2 (by decide) (Or.inl rfl)) (lk1_n l3 (by decide) (Or.inl rfl)) (lk1_n l4 (by decide) (Or.inl rfl)) (lk1_n l5 (by decide) (Or.inl rfl)) lk1_s (GD_wn (hG4) (r := 44) rfl rfl) (FRM_wn 0 30 (hF4) (r := 44) rfl rfl rfl (by omega) (by omega))
      · refine x_aload_n 100 hK rfl rfl l0 ?_
        refine x_getR 103 hK rfl rfl (sp_127 (h := h4) hG4) (rf_127_0 (h := h4) hG4) ?_
        refine x_iload 105 hK rfl rfl l8 ?_
        refine x_ialoadE 106 hK rfl rfl (sp_128 (h := h4) hG4) (by omega) (by omega) (by omega) (e' := (i + dl (now + i))) ((dni (by omega))) ?_
        refine x_iload 108 hK rfl rfl l6 ?_
        refine x_if_icmp_ne 119 111 hK rfl rfl rfl (by omega) (by omega) (fun c32 => ?_) (fun c32 => ?_)
        · refine x_iload 121 hK rfl rfl l7 ?_
          refine x_istore 123 hK rfl rfl _ rfl ?_
          refine x_iinc 126 hK rfl rfl (lk1_n l8 (by decide) (Or.inl rfl)) _ rfl ?_
          refine x_goto 92 hK rfl rfl ?_
          have cm : ¬ cmF now last dl i t = true := fun z => by
            have := (cmF_t z).2
            omega
          exact ih _ (by omega) nz s (i + 1) _ rfl (t1) (by omega) (lo3) (hi3) (by omega) (by omega) (by rw [bn, if_neg cm, List.append_nil]; exact bs) (lk1_n (lk1_n l0 (by decide) (Or.inl rfl)) (by decide) (Or.inl rfl)) (lk1_n (lk1_n l1 (by decide) (Or.inl rfl)) (by decide) (Or.inl rfl)) (lk1_n (lk1_n l2 (by decide) (Or.inl rfl)) (by decide) (Or.inl rfl)) (lk1_n (lk1_n l3 (by decide) (Or.inl rfl)) (by decide) (Or.inl rfl)) (lk1_n (lk1_n l4 (by decide) (Or.inl rfl)) (by decide) (Or.inl rfl)) (lk1_n (lk1_n l5 (by decide) (Or.inl rfl)) (by decide) (Or.inl rfl)) (lk1_n (lk1_n l6 (by decide) (Or.inl rfl)) (by decide) (Or.inl rfl)) (lk1_n lk1_s (by decide) (Or.inl rfl)) lk1_s
        · refine x_iload 113 hK rfl rfl l7 ?_
          refine x_callS 116 hK hmono rfl (Or.inr rfl) rfl [.int (I s)] [] rfl rfl (Nat.le_of_ble_eq_true rfl) (Nat.le_of_ble_eq_true rfl) (CLd_le (Nat.le_of_ble_eq_true rfl) (ctX10_widenedF hSP (s := s))) ?_
          rintro v9 h9 ⟨e9, rfl⟩
          rw [e9]
          clear e9
          have cm : cmF now last dl i t = true := cmF_i ⟨by omega, by omega⟩
          have bw := BS_op1 (a := a) (l := l) (hit := hit) (k := i) bs fi (by omega) (by omega)
          have bwr := bw.1
          refine x_goto 121 hK rfl rfl ?_
          refine x_istore 123 hK rfl rfl _ rfl ?_
          refine x_iinc 126 hK rfl rfl (lk1_n l8 (by decide) (Or.inl rfl)) _ rfl ?_
          refine x_goto 92 hK rfl rfl ?_
          exact ih _ (by omega) nz (wdB s) (i + 1) _ rfl (t1) (by omega) (lo3) (hi3) (by omega) (by omega) (by rw [bn, if_pos cm, opsF_s]; exact bw) (lk1_n (lk1_n l0 (by decide) (Or.inl rfl)) (by decide) (Or.inl rfl)) (lk1_n (lk1_n l1 (by decide) (Or.inl rfl)) (by decide) (Or.inl rfl)) (lk1_n (lk1_n l2 (by decide) (Or.inl rfl)) (by decide) (Or.inl rfl)) (lk1_n (lk1_n l3 (by decide) (Or.inl rfl)) (by decide) (Or.inl rfl)) (lk1_n (lk1_n l4 (by decide) (Or.inl rfl)) (by decide) (Or.inl rfl)) (lk1_n (lk1_n l5 (by decide) (Or.inl rfl)) (by decide) (Or.inl rfl)) (lk1_n (lk1_n l6 (by decide) (Or.inl rfl)) (by decide) (Or.inl rfl)) (lk1_n lk1_s (by decide) (Or.inl rfl)) lk1_s
    have under : ∀ (mz : Nat) (ny s : Int) (ls : List (Nat × Value)), ((gi h 23 4 - ny).toNat = mz) → (t ≤ n) → (0 ≤ ny ∧ ny ≤ gi h 23 4) → (∀ q : Nat, (q : Int) < ny → gi h 24 q < now + (t + 1)) → (∀ q : Nat, ny ≤ q → (q : Int) < gi h 23 4 → now + t ≤ gi h 24 q) → (0 ≤ s ∧ s ≤ 511) → (BS s (opsF (chA a) l hit (wyS (kO h 23 ny.toNat) (now + t)) (XS a l hit L now last dl (gi h 23 1) (t - 1).toNat))) → lk ls 0 = some (.ref 127) → lk ls 1 = some (.ref 23) → lk ls 2 = some (.int (I f)) → lk ls 3 = some (.int (I n)) → lk ls 4 = some (.int (I (b2i uh))) → lk ls 5 = some (.int (I ny)) → lk ls 6 = some (.int (I t)) → lk ls 7 = some (.int (I s)) → K 35 ls [] h4 0 0 := by
      intro mz
      induction mz using Nat.strongRecOn with
      | ind mz ih =>
      intro ny s ls hm t1 y0 lo2 hi2 sr bs l0 l1 l2 l3 l4 l5 l6 l7
      have hrn := fun z : ny < gi h 23 4 => hr ny.toNat (by omega)
      have hin := fun z : ny < gi h 23 4 => hi2 ny.toNat (by omega) (by omega)
      refine x_iload 37 hK rfl rfl l5 ?_
      refine x_aload_n 38 hK rfl rfl l1 ?_
      have g398 := gri (0) (12) hG (a := 23) (r := 17) (k := 4) rfl rfl
      refine x_getE 41 hK rfl (Or.inl rfl) rfl (sp_23 (h := h4) hG4) (e := (gi h 23 4)) (e4) ?_
      refine x_if_icmp_ge 81 44 hK rfl rfl rfl (by omega) (by omega) (fun c4 => ?_) (fun c4 => ?_)
      · refine x_iload_n 82 hK rfl rfl l2 ?_
        refine x_iload 84 hK rfl rfl l6 ?_
        refine x_bipush 86 hK rfl rfl rfl ?_
        refine x_isub 87 hK rfl rfl ?_
        refine x_max 90 hK rfl rfl (Nat.le_of_ble_eq_true rfl) (by omega) (by omega) ?_
        refine x_istore 92 hK rfl rfl _ rfl ?_
        have hi' : ∀ q : Nat, ny ≤ q → (q : Int) < gi h 23 4 → now + (t + 1) ≤ gi h 24 q := fun q h1 h2 => by
          first
          | omega
          | (have := so ny.toNat q (by omega) h2; omega)
        have ew : (wyS (kO h 23 ny.toNat) (now + t)) = wyF L (now + t) := by
          rw [← wyS_srt, ← eo]
          have z := wyS_ext (h := h) (d := now + t) (n := ny.toNat) (gi h 23 4 - ny).toNat fun q h1 h2 => by
            have := hi' q (by omega) (by omega)
            omega
          rw [show ny.toNat + (gi h 23 4 - ny).toNat = (gi h 23 4).toNat by omega] at z
          exact z.symm
        rw [ew] at bs
        have bk := BS_skip (l := l) (t := t) (now := now) (last := last) (dl := dl) (hit := hit) (a := a) bs (max f (t - 12)).toNat fun k hk hc => by
          obtain ⟨z1, z2⟩ := cmF_t hc
          have z3 := hd (now + (k : Int))
          rcases ff k (by omega) with z | ⟨z4, z5⟩
          · exact z
          · rcases z1 with z1 | z1
            · omega
            · exact absurd z5 z1
        exact inner _ ny s (max f (t - 12)) _ rfl (t1) (by omega) (lo2) (hi') (by omega) (by omega) (bk) (lk1_n l0 (by decide) (Or.inl rfl)) (lk1_n l1 (by decide) (Or.inl rfl)) (lk1_n l2 (by decide) (Or.inl rfl)) (lk1_n l3 (by decide) (Or.inl rfl)) (lk1_n l4 (by decide) (Or.inl rfl)) (lk1_n l5 (by decide) (Or.inl rfl)) (lk1_n l6 (by decide) (Or.inl rfl)) (lk1_n l7 (by decide) (Or.inl rfl)) lk1_s
      · have hr1 := hrn (by omega)
        have hi1 := hin (by omega)
        refine x_aload_n 45 hK rfl rfl l1 ?_
        refine x_getR 48 hK rfl rfl (sp_23 (h := h4) hG4) (rf_23_5 (h := h4) hG4) ?_
        refine x_iload 50 hK rfl rfl l5 ?_
        have g399 := gi_r h 24 ny.toNat
        refine x_ialoadE 51 hK rfl rfl (sp_24 (h := h4) hG4) (by omega) (by omega) (by omega) (e' := (gi h 24 ny.toNat)) (FRM_gi hF4 (r := 18) rfl rfl) ?_
        refine x_aload_n 52 hK rfl rfl l1 ?_
        refine x_getE 55 hK rfl (Or.inl rfl) rfl (sp_23 (h := h4) hG4) (e := now) (((FRM_gi hF4 (r := 17) rfl rfl).trans en)) ?_
        refine x_isub 56 hK rfl rfl ?_
        refine x_iload 58 hK rfl rfl l6 ?_
        refine x_if_icmp_gt 81 61 hK rfl rfl rfl (by omega) (by omega) (fun c21 => ?_) (fun c21 => ?_)
        · refine x_iload_n 82 hK rfl rfl l2 ?_
          refine x_iload 84 hK rfl rfl l6 ?_
          refine x_bipush 86 hK rfl rfl rfl ?_
          refine x_isub 87 hK rfl rfl ?_
          refine x_max 90 hK rfl rfl (Nat.le_of_ble_eq_true rfl) (by omega) (by omega) ?_
          refine x_istore 92 hK rfl rfl _ rfl ?_
          have hi' : ∀ q : Nat, ny ≤ q → (q : Int) < gi h 23 4 → now + (t + 1) ≤ gi h 24 q := fun q h1 h2 => by
            first
            | omega
            | (have := so ny.toNat q (by omega) h2; omega)
          have ew : (wyS (kO h 23 ny.toNat) (now + t)) = wyF L (now + t) := by
            rw [← wyS_srt, ← eo]
            have z := wyS_ext (h := h) (d := now + t) (n := ny.toNat) (gi h 23 4 - ny).toNat fun q h1 h2 => by
              have := hi' q (by omega) (by omega)
              omega
            rw [show ny.toNat + (gi h 23 4 - ny).toNat = (gi h 23 4).toNat by omega] at z
            exact z.symm
          rw [ew] at bs
          have bk := BS_skip (l := l) (t := t) (now := now) (last := last) (dl := dl) (hit := hit) (a := a) bs (max f (t - 12)).toNat fun k hk hc => by
            obtain ⟨z1, z2⟩ := cmF_t hc
            have z3 := hd (now + (k : Int))
            rcases ff k (by omega) with z | ⟨z4, z5⟩
            · exact z
            · rcases z1 with z1 | z1
              · omega
              · exact absurd z5 z1
          exact inner _ ny s (max f (t - 12)) _ rfl (t1) (by omega) (lo2) (hi') (by omega) (by omega) (bk) (lk1_n l0 (by decide) (Or.inl rfl)) (lk1_n l1 (by decide) (Or.inl rfl)) (lk1_n l2 (by decide) (Or.inl rfl)) (lk1_n l3 (by decide) (Or.inl rfl)) (lk1_n l4 (by decide) (Or.inl rfl)) (lk1_n l5 (by decide) (Or.inl rfl)) (lk1_n l6 (by decide) (Or.inl rfl)) (lk1_n l7 (by decide) (Or.inl rfl)) lk1_s
        · refine x_iload 63 hK rfl rfl l7 ?_
          refine x_aload_n 64 hK rfl rfl l1 ?_
          refine x_getR 67 hK rfl rfl (sp_23 (h := h4) hG4) (rf_23_6 (h := h4) hG4) ?_
          refine x_iload 69 hK rfl rfl l5 ?_
          have g400 := gi_r h 25 ny.toNat
          refine x_ialoadE 70 hK rfl rfl (sp_25 (h := h4) hG4) (by omega) (by omega) (by omega) (e' := (gi h 25 ny.toNat)) (FRM_gi hF4 (r := 19) rfl rfl) ?_
          refine x_callS 73 hK hmono rfl (Or.inl rfl) rfl [.int (I s), .int (I (gi h 25 ny.toNat))] [] rfl rfl (Nat.le_of_ble_eq_true rfl) (Nat.le_of_ble_eq_true rfl) (CLd_le (Nat.le_of_ble_eq_true rfl) (ctX0_movedF hSP (s := s) (v := (gi h 25 ny.toNat)) (by omega))) ?_
          rintro v9 h9 ⟨e9, rfl⟩
          rw [e9]
          clear e9
          have bm := BS_mv (v := (gi h 25 ny.toNat)) bs (by omega)
          have bmr := bm.1
          refine x_istore 75 hK rfl rfl _ rfl ?_
          refine x_iinc 78 hK rfl rfl (lk1_n l5 (by decide) (Or.inl rfl)) _ rfl ?_
          refine x_goto 35 hK rfl rfl ?_
          exact ih _ (by omega) (ny + 1) (mvB (gi h 25 ny.toNat) s) _ rfl (t1) (by omega) (fun q hq => by
            by_cases c : q = ny.toNat
            · rw [c]; omega
            · exact lo2 q (by omega)) (fun q h1 h2 => hi2 q (by omega) h2) (by omega) (by rw [tn_s y0.1, kO_s, wyS_s, if_pos (show gi h (23 + 1) ny.toNat = now + t by show gi h 24 ny.toNat = now + t; omega), opsF_s]; exact bm) (lk1_n (lk1_n l0 (by decide) (Or.inl rfl)) (by decide) (Or.inl rfl)) (lk1_n (lk1_n l1 (by decide) (Or.inl rfl)) (by decide) (Or.inl rfl)) (lk1_n (lk1_n l2 (by decide) (Or.inl rfl)) (by decide) (Or.inl rfl)) (lk1_n (lk1_n l3 (by decide) (Or.inl rfl)) (by decide) (Or.inl rfl)) (lk1_n (lk1_n l4 (by decide) (Or.inl rfl)) (by decide) (Or.inl rfl)) lk1_s (lk1_n (lk1_n l6 (by decide) (Or.inl rfl)) (by decide) (Or.inl rfl)) (lk1_n lk1_s (by decide) (Or.inl rfl))
    refine x_iload 20 hK rfl rfl l6 ?_
    refine x_iload_n 21 hK rfl rfl l3 ?_
    refine x_if_icmp_gt 164 24 hK rfl rfl rfl (by omega) (by omega) (fun c3 => ?_) (fun c3 => ?_)
    · exact x_vret hK rfl ⟨rfl, hG4, hF4, fun q hq => rs q (by omega)⟩
    · refine x_aload_n 25 hK rfl rfl l0 ?_
      refine x_getR 28 hK rfl rfl (sp_127 (h := h4) hG4) (rf_127_2 (h := h4) hG4) ?_
      refine x_iload 30 hK rfl rfl l6 ?_
      refine x_iconst 31 hK rfl rfl ?_
      refine x_isub 32 hK rfl rfl ?_
      have g401 := gi_r h4 130 (t - 1).toNat
      refine x_ialoadE 33 hK rfl rfl (sp_130 (h := h4) hG4) (by omega) (by omega) (by omega) (e' := (gi h4 130 (t - 1).toNat)) (rfl) ?_
      refine x_istore 35 hK rfl rfl _ rfl ?_
      exact under _ nx (gi h4 130 (t - 1).toNat) _ rfl (by omega) (by omega) (fun q hq => by have := lo q hq; omega) (hi) ((rs (t - 1).toNat (by omega)).1) (by rw [wyS_lo (fun i hi => lo i (by omega))]; exact rs (t - 1).toNat (by omega)) (lk1_n l0 (by decide) (Or.inl rfl)) (lk1_n l1 (by decide) (Or.inl rfl)) (lk1_n l2 (by decide) (Or.inl rfl)) (lk1_n l3 (by decide) (Or.inl rfl)) (lk1_n l4 (by decide) (Or.inl rfl)) (lk1_n l5 (by decide) (Or.inl rfl)) (lk1_n l6 (by decide) (Or.inl rfl)) lk1_s
  refine x_aload_n 1 hK rfl rfl rfl ?_
  refine x_getR 4 hK rfl rfl (sp_127 (h := h) hG) (rf_127_2 (h := h) hG) ?_
  refine x_iconst 5 hK rfl rfl ?_
  refine x_iconst 6 hK rfl rfl ?_
  refine x_aload_n 7 hK rfl rfl rfl ?_
  have g402 := gri (0) (8) hG (a := 23) (r := 17) (k := 1) rfl rfl
  refine x_getE 10 hK rfl (Or.inl rfl) rfl (sp_23 (h := h) hG) (e := (gi h 23 1)) (rfl) ?_
  have g403 := bShl_r 1 (gi h 23 1)
  refine x_ishlF 11 hK rfl rfl ?_
  refine x_iastore 12 hK rfl rfl (sp_130 (h := h) hG) (by omega) (by omega) (by omega) ?_
  refine x_iconst 13 hK rfl rfl ?_
  refine x_istore 15 hK rfl rfl [(5, .int (I 0)), (0, .ref 127), (1, .ref 23), (2, .int (I f)), (3, .int (I n)), (4, .int (I (b2i uh)))] rfl ?_
  refine x_iconst 16 hK rfl rfl ?_
  refine x_istore 18 hK rfl rfl [(6, .int (I 1)), (5, .int (I 0)), (0, .ref 127), (1, .ref 23), (2, .int (I f)), (3, .int (I n)), (4, .int (I (b2i uh)))] rfl ?_
  exact loop _ 0 1 _ _ rfl (by omega) (by omega) (fun i hi => absurd hi (by omega)) (fun i h1 h2 => by have := hr i h2; omega) (fun q hq => by
    rw [show q = 0 by omega]
    have e : BS (gi (wI h 130 0 (bShl 1 (gi h 23 1))) 130 0) (XS a l hit L now last dl (gi h 23 1) 0) := by
      rw [gi_same (bShl_r _ _)]
      exact XS_0 gl0
    exact e) rfl rfl rfl rfl rfl rfl rfl (GD_w0 (hG) (r := 44) rfl rfl) (FRM_w ((FRM.rf : FRM gRL [(0, 44, 0, 30)] h h)) (r := 44) rfl rfl)
