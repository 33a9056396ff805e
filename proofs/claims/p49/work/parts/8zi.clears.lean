/-! ROCKS THAT CAN BE CLEARED -/
/-! bits of more than nine -/
noncomputable def GBS (b : Int) (P : Nat → Prop) : Prop := ∀ j : Nat, j < 32 → (gb b j = true ↔ P j)
theorem gb_32 : ∀ j : Nat, j < 32 → gb 0 j = false ∧ gb (-1) j = true := by decide +kernel
theorem gb_sh : ∀ r : Nat, r < 16 → ∀ j : Nat, j < 32 → gb (bShl 1 r) j = decide (j = r) := by decide +kernel
theorem GBS_0 : GBS 0 (fun _ => False) := fun j hj => by rw [(gb_32 j hj).1]; exact ⟨fun z => Bool.noConfusion z, False.elim⟩
theorem GBS_c {b : Int} {P Q : Nat → Prop} (h : GBS b P) (e : ∀ j : Nat, j < 32 → (P j ↔ Q j)) : GBS b Q := fun j hj => (h j hj).trans (e j hj)
theorem GBS_or {b r : Int} {P : Nat → Prop} (h : GBS b P) (hr : 0 ≤ r ∧ r ≤ 15) : GBS (bOr b (bShl 1 r)) (fun j => P j ∨ (j : Int) = r) := fun j hj => by
  obtain ⟨n, hn⟩ : ∃ n : Nat, r = n := ⟨r.toNat, by omega⟩
  rw [hn, gb_or, gb_sh n (by omega) j hj, Bool.or_eq_true, h j hj, decide_eq_true_eq]
  exact ⟨fun z => z.imp id fun y => by omega, fun z => z.imp id fun y => by omega⟩
theorem GBS_n {b : Int} {P : Nat → Prop} (h : GBS b P) : GBS (bOr b 0) P := fun j hj => by rw [gb_or, (gb_32 j hj).1, Bool.or_false]; exact h j hj
theorem GBS_an {a b : Int} {P Q : Nat → Prop} (h : GBS a P) (k : GBS b Q) : GBS (bAnd a (bXor b (-1))) (fun j => P j ∧ ¬ Q j) := fun j hj => by
  have hk := k j hj
  rw [gb_and, gb_xor, (gb_32 j hj).2, Bool.xor_true, Bool.and_eq_true, h j hj]
  show P j ∧ (!gb b j) = true ↔ P j ∧ ¬ Q j
  rw [← hk]
  cases gb b j
  · exact ⟨fun z => ⟨z.1, Bool.noConfusion⟩, fun z => ⟨z.1, rfl⟩⟩
  · exact ⟨fun z => Bool.noConfusion z.2, fun z => absurd rfl z.2⟩
theorem GBS_u {a b : Int} {P : Nat → Prop} (ra : r32 a) (rb : r32 b) (h : GBS a P) (k : GBS b P) : a = b := by
  have e : (I a).toBitVec = (I b).toBitVec := BitVec.eq_of_getLsbD_eq fun i hi => by
    have z := (h i hi).trans (k i hi).symm
    have z : (I a).toBitVec.getLsbD i = true ↔ (I b).toBitVec.getLsbD i = true := z
    exact Bool.eq_iff_iff.mpr z
  have e2 : I a = I b := Int32.toBitVec_inj.mp e
  rw [← I_t ra, ← I_t rb, e2]
theorem psF_g {g : Nat → Int} : ∀ n : Nat, n ≤ 16 → GBS (psF g n) (fun j => j < n ∧ 0 < g j)
  | 0, _ => GBS_c GBS_0 fun j _ => ⟨False.elim, fun z => absurd z.1 (Nat.not_lt_zero _)⟩
  | n + 1, h => by
    have ih := psF_g (g := g) n (by omega)
    have e : psF g (n + 1) = bOr (psF g n) (if 0 < g n then bShl 1 n else 0) := rfl
    rw [e]
    by_cases c : 0 < g n
    · rw [if_pos c]
      refine GBS_c (GBS_or ih (r := (n : Int)) (by omega)) fun j _ => ?_
      show (j < n ∧ 0 < g j) ∨ (j : Int) = (n : Int) ↔ j < n + 1 ∧ 0 < g j
      constructor
      · rintro (z | z)
        · exact ⟨by omega, z.2⟩
        · obtain rfl : j = n := by omega
          exact ⟨by omega, c⟩
      · intro z
        by_cases q : j = n
        · exact Or.inr (by omega)
        · exact Or.inl ⟨by omega, z.2⟩
    · rw [if_neg c]
      refine GBS_c (GBS_n ih) fun j _ => ?_
      constructor
      · intro z; exact ⟨by omega, z.2⟩
      · intro z
        by_cases q : j = n
        · subst q; exact absurd z.2 c
        · exact ⟨by omega, z.2⟩
theorem psF_r {g : Nat → Int} : ∀ n : Nat, r32 (psF g n)
  | 0 => by show r32 0; omega
  | n + 1 => bOr_r _ _
/-- orders by which the LANES are moved in turn -/
noncomputable def mvL : List (Int × Int) → Int → Int
  | [], s => s
  | q :: r, s => mvL r (mvB q.2 s)
theorem mvL_s (q : Int × Int) : ∀ (K : List (Int × Int)) (s : Int), mvL (K ++ [q]) s = mvB q.2 (mvL K s)
  | [], _ => rfl
  | p :: r, s => mvL_s q r (mvB p.2 s)
noncomputable def wdO (now last : Int) (dl : Int → Int) (t : Int) : Nat → Int → Int
  | 0, s => s
  | k + 1, s => if cmF now last dl k t = true then wdB (wdO now last dl t k s) else wdO now last dl t k s
theorem wdO_s {now last : Int} {dl : Int → Int} {t k s : Int} (h : 0 ≤ k) : wdO now last dl t (k + 1).toNat s = if cmF now last dl k t = true then wdB (wdO now last dl t k.toNat s) else wdO now last dl t k.toNat s := by
  rw [tn_s h]
  show (if cmF now last dl ((k.toNat : Nat) : Int) t = true then _ else _) = _
  rw [show ((k.toNat : Nat) : Int) = k by omega]
theorem wdO_lo {now last : Int} {dl : Int → Int} (hd : ∀ s, 1 ≤ dl s ∧ dl s ≤ 12) {t s : Int} : ∀ i : Nat, (i : Int) ≤ max 0 (t - 12) → wdO now last dl t i s = s
  | 0, _ => rfl
  | i + 1, h => by
    show (if cmF now last dl i t = true then wdB (wdO now last dl t i s) else wdO now last dl t i s) = s
    rw [if_neg fun z => by have y := (cmF_t z).2; have := hd (now + (i : Int)); omega]
    exact wdO_lo hd i (by omega)
noncomputable def lbF (L : List (Int × Int × Int)) (now last : Int) (dl : Int → Int) (l0 : Int) : Nat → Int
  | 0 => bShl 1 l0
  | t + 1 => wdO now last dl ((t + 1 : Nat) : Int) (t + 1) (mvL (wyF L (now + ((t + 1 : Nat) : Int))) (lbF L now last dl l0 t))
theorem lbF_t {L : List (Int × Int × Int)} {now last : Int} {dl : Int → Int} {l0 t : Int} (h : 1 ≤ t) : lbF L now last dl l0 t.toNat = wdO now last dl t t.toNat (mvL (wyF L (now + t)) (lbF L now last dl l0 (t - 1).toNat)) := by
  obtain ⟨n, hn⟩ : ∃ n : Nat, t = ((n + 1 : Nat) : Int) := ⟨(t - 1).toNat, by omega⟩
  rw [hn, Int.toNat_natCast, show (((n + 1 : Nat) : Int) - 1).toNat = n by omega]
  rfl
noncomputable def two (s : Int) : Bool := (List.range 9).all fun l => !(decide (bAnd s (bXor (bShl 1 l) (-1)) = 0))
theorem two_n : ∀ s : Nat, s < 512 → (1 ≤ s → (two (wdB s) = true ∧ 1 ≤ wdB s) ∧ 1 ≤ mvB 1 s ∧ 1 ≤ mvB (-1) s) ∧ (two s = true → two (wdB s) = true) := by decide +kernel
theorem two_c {s l : Int} (h : two s = true) (hl : 0 ≤ l ∧ l ≤ 8) : bAnd s (bXor (bShl 1 l) (-1)) ≠ 0 := by
  have z := List.all_eq_true.mp h l.toNat (List.mem_range.mpr (by omega))
  rw [show ((l.toNat : Nat) : Int) = l by omega] at z
  intro y
  rw [decide_eq_true y] at z
  exact Bool.noConfusion z
noncomputable def NE (s : Int) : Prop := 1 ≤ s ∧ s ≤ 511
theorem NE_mv {s v : Int} (h : NE s) (hv : -1 ≤ v ∧ v ≤ 1) : NE (mvB v s) := by
  obtain ⟨n, hn⟩ : ∃ n : Nat, s = n := ⟨s.toNat, by have := h.1; omega⟩
  have h1 := h.1
  have h2 := h.2
  have a := mvB_n1 n (by omega)
  have b := mvB_nm n (by omega)
  have c := (two_n n (by omega)).1 (by omega)
  rw [← hn] at a b c
  rcases (show v = 0 ∨ v = 1 ∨ v = -1 by omega) with rfl | rfl | rfl
  · exact h
  · exact ⟨c.2.1, a.1.2⟩
  · exact ⟨c.2.2, b.1.2⟩
theorem NE_wd {s : Int} (h : NE s) : NE (wdB s) := by
  have h1 := h.1
  have h2 := h.2
  obtain ⟨n, hn⟩ : ∃ n : Nat, s = n := ⟨s.toNat, by omega⟩
  have a := (wdB_n n (by omega)).1
  have c := (two_n n (by omega)).1 (by omega)
  rw [← hn] at a c
  exact ⟨c.1.2, a.2⟩
theorem NE_mvL : ∀ (K : List (Int × Int)) (s : Int), (∀ q ∈ K, -1 ≤ q.2 ∧ q.2 ≤ 1) → NE s → NE (mvL K s)
  | [], _, _, h => h
  | q :: r, s, hq, h => NE_mvL r (mvB q.2 s) (fun x hx => hq x (List.mem_cons_of_mem _ hx)) (NE_mv h (hq q List.mem_cons_self))
theorem NE_wdO {now last : Int} {dl : Int → Int} {t s : Int} (h : NE s) : ∀ i : Nat, NE (wdO now last dl t i s)
  | 0 => h
  | i + 1 => by
    have ih := NE_wdO (now := now) (last := last) (dl := dl) (t := t) h i
    show NE (if cmF now last dl i t = true then wdB (wdO now last dl t i s) else wdO now last dl t i s)
    split
    · exact NE_wd ih
    · exact ih
theorem two_wdO {now last : Int} {dl : Int → Int} {t s : Int} (hn : NE s) (h : two s = true) : ∀ i : Nat, two (wdO now last dl t i s) = true
  | 0 => h
  | i + 1 => by
    have ih := two_wdO (now := now) (last := last) (dl := dl) (t := t) hn h i
    have ne := NE_wdO (now := now) (last := last) (dl := dl) (t := t) hn i
    show two (if cmF now last dl i t = true then wdB (wdO now last dl t i s) else wdO now last dl t i s) = true
    split
    · obtain ⟨n, e⟩ : ∃ n : Nat, wdO now last dl t i s = n := ⟨(wdO now last dl t i s).toNat, by have := ne.1; omega⟩
      rw [e] at ih ⊢
      exact (two_n n (by have := ne.2; omega)).2 ih
    · exact ih
theorem two_wdC {now last : Int} {dl : Int → Int} {t s : Int} {k : Nat} (hn : NE s) (hc : cmF now last dl k t = true) : ∀ i : Nat, k < i → two (wdO now last dl t i s) = true
  | 0, h => absurd h (Nat.not_lt_zero _)
  | i + 1, h => by
    have ne := NE_wdO (now := now) (last := last) (dl := dl) (t := t) hn i
    obtain ⟨n, e⟩ : ∃ n : Nat, wdO now last dl t i s = n := ⟨(wdO now last dl t i s).toNat, by have := ne.1; omega⟩
    have q := two_n n (by have := ne.2; omega)
    show two (if cmF now last dl i t = true then wdB (wdO now last dl t i s) else wdO now last dl t i s) = true
    by_cases c : k = i
    · subst c
      rw [if_pos hc, e]
      exact (q.1 (by have := ne.1; omega)).1.1
    · have ih := two_wdC hn hc i (by omega)
      split
      · rw [e] at ih ⊢
        exact q.2 ih
      · exact ih
theorem NE_0 : ∀ l : Nat, l < 9 → 1 ≤ bShl 1 l ∧ bShl 1 l ≤ 511 := by decide +kernel
noncomputable def LOK (L : List (Int × Int × Int)) (now : Int) : Prop := ∀ q ∈ L, (now < q.1 ∧ q.1 ≤ now + 12) ∧ -1 ≤ q.2.1 ∧ q.2.1 ≤ 1
theorem wyF_v {L : List (Int × Int × Int)} {now : Int} (h : LOK L now) {d : Int} : ∀ q ∈ wyF L d, q.1 = 0 ∧ -1 ≤ q.2 ∧ q.2 ≤ 1 := fun q hq => by
  unfold wyF at hq
  obtain ⟨x, hx, rfl⟩ := List.mem_map.mp hq
  exact ⟨rfl, (h x (List.mem_filter.mp hx).1).2⟩
theorem wyF_far {L : List (Int × Int × Int)} {now : Int} (h : LOK L now) {d : Int} (hd : now + 12 < d) : wyF L d = [] := by
  unfold wyF
  rw [List.filter_eq_nil_iff.mpr fun x hx z => by have := (h x hx).1.2; have := of_decide_eq_true z; omega]
  rfl
section LB
variable {L : List (Int × Int × Int)} {now last : Int} {dl : Int → Int} {l0 : Int}
theorem lbF_NE (h : LOK L now) (hl : 0 ≤ l0 ∧ l0 ≤ 8) : ∀ t : Nat, NE (lbF L now last dl l0 t)
  | 0 => by
    have z := NE_0 l0.toNat (by omega)
    rw [show ((l0.toNat : Nat) : Int) = l0 by omega] at z
    exact z
  | t + 1 => NE_wdO (NE_mvL _ _ (fun q hq => (wyF_v h q hq).2) (lbF_NE h hl t)) _
theorem lbF_two (h : LOK L now) (hl : 0 ≤ l0 ∧ l0 ≤ 8) (hd : ∀ s, 1 ≤ dl s ∧ dl s ≤ 12) : ∀ t : Nat, 12 + dl (now + 12) ≤ (t : Int) → two (lbF L now last dl l0 t) = true
  | 0, z => by have := hd (now + 12); omega
  | t + 1, z => by
    have d := hd (now + 12)
    have ne := NE_mvL (wyF L (now + ((t + 1 : Nat) : Int))) _ (fun q hq => (wyF_v h q hq).2) (lbF_NE (last := last) (dl := dl) h hl t)
    by_cases c : 12 + dl (now + 12) = ((t + 1 : Nat) : Int)
    · exact two_wdC (k := 12) ne (cmF_i ⟨Or.inl (by omega), c⟩) (t + 1) (by omega)
    · have ih := lbF_two h hl hd t (by omega)
      show two (wdO now last dl ((t + 1 : Nat) : Int) (t + 1) (mvL (wyF L (now + ((t + 1 : Nat) : Int))) (lbF L now last dl l0 t))) = true
      rw [wyF_far h (by omega)]
      exact two_wdO (lbF_NE h hl t) ih (t + 1)
theorem BS_mvL {ch : Int → Int} {l : Int} {hit : Int → Nat → Int} : ∀ (K : List (Int × Int)) {s : Int} {u : Nat → Int}, (∀ q ∈ K, q.1 = 0 ∧ -1 ≤ q.2 ∧ q.2 ≤ 1) → BS s u → BS (mvL K s) (opsF ch l hit K u)
  | [], _, _, _, h => h
  | q :: r, s, u, hq, h => by
    have z := hq q List.mem_cons_self
    refine BS_mvL r (s := mvB q.2 s) (u := opF ch l hit q u) (fun x hx => hq x (List.mem_cons_of_mem _ hx)) ?_
    unfold opF
    rw [if_pos z.1]
    exact BS_mv h z.2
theorem BS_wdO {l t m s : Int} {hit : Int → Nat → Int} {u : Nat → Int} (h : BS s u) (hu : FN m u) (hm : m ≤ 900) : ∀ i : Nat, i ≤ 60 → BS (wdO now last dl t i s) (opsF (chA 0) l hit (blkC now last dl t i) u)
  | 0, _ => h
  | i + 1, hi => by
    have ih := BS_wdO (l := l) (t := t) (hit := hit) h hu hm i (by omega)
    have fi := FN_blk (ch := chA 0) (l := l) (hit := hit) (t := t) (now := now) (last := last) (dl := dl) hu i
    show BS (if cmF now last dl i t = true then wdB (wdO now last dl t i s) else wdO now last dl t i s) (opsF (chA 0) l hit (blkC now last dl t i ++ if cmF now last dl i t = true then [(1, (i : Int))] else []) u)
    by_cases c : cmF now last dl i t = true
    · rw [if_pos c, if_pos c, opsF_s]
      exact BS_op1 ih fi (by omega) (by omega)
    · rw [if_neg c, if_neg c, List.append_nil]
      exact ih
theorem lbF_XS (h : LOK L now) (hl : 0 ≤ l0 ∧ l0 ≤ 8) {l : Int} : ∀ t : Nat, t ≤ 30 → BS (lbF L now last dl l0 t) (XS 0 l (fun _ _ => 0) L now last dl l0 t)
  | 0, _ => XS_0 hl
  | t + 1, ht => by
    have ih := lbF_XS h hl (l := l) t (by omega)
    have fn := XS_FN (a := 0) (l := l) (hit := fun _ _ => 0) (L := L) (now := now) (last := last) (dl := dl) (l0 := l0) t (by omega)
    have e := XS_t (a := 0) (l := l) (hit := fun _ _ => 0) (L := L) (now := now) (last := last) (dl := dl) (l0 := l0) (t := ((t + 1 : Nat) : Int)) (by omega)
    rw [Int.toNat_natCast, show (((t + 1 : Nat) : Int) - 1).toNat = t by omega] at e
    rw [e, op_2]
    have z := BS_wdO (now := now) (last := last) (dl := dl) (l := l) (t := ((t + 1 : Nat) : Int)) (hit := fun _ _ => 0) (BS_mvL (ch := chA 0) (l := l) (hit := fun _ _ => 0) (wyF L (now + ((t + 1 : Nat) : Int))) (wyF_v h) ih) (FN_wy (wyF L (now + ((t + 1 : Nat) : Int))) (fun q hq => wyF_1 hq) fn) (by omega) (t + 1) (by omega)
    exact Eq.mp (congrArg (BS _) (funext fun g => (if_neg (show ¬ (0 : Int) < 0 by omega)).symm)) z
/-- the class's sets up to the horizon serve beyond it -/
theorem clr_eq {R : Nat → Int} {l a g : Int} (h : LOK L now) (hl : 0 ≤ l0 ∧ l0 ≤ 8) (hd : ∀ s, 1 ≤ dl s ∧ dl s ≤ 12) (hR : ∀ q : Nat, (q : Int) ≤ 30 → BS (R q) (XS 0 l (fun _ _ => 0) L now last dl l0 q)) (ha : 1 ≤ a) (hg : 0 ≤ g ∧ g ≤ 8) : bAnd (R (min a 30).toNat) (bXor (bShl 1 g) (-1)) ≠ 0 ↔ bAnd (lbF L now last dl l0 a.toNat) (bXor (bShl 1 g) (-1)) ≠ 0 := by
  have d := hd (now + 12)
  by_cases c : a ≤ 30
  · rw [show min a 30 = a by omega, BS_u (hR a.toNat (by omega)) (lbF_XS h hl a.toNat (by omega))]
  · rw [show min a 30 = 30 by omega, BS_u (hR (30 : Int).toNat (by decide)) (lbF_XS (l := l) h hl (30 : Int).toNat (by decide))]
    exact ⟨fun _ => two_c (lbF_two h hl hd _ (by omega)) hg, fun _ => two_c (lbF_two h hl hd _ (by show 12 + dl (now + 12) ≤ 30; omega)) hg⟩
end LB
/-- ROCKS ahead, and the farthest -/
noncomputable def faF (m : Nat → Int) (now : Int) : Nat → Int
  | 0 => 0
  | r + 1 => if now < m r then max (faF m now r) (m r - now) else faF m now r
theorem faF_s {m : Nat → Int} {now r : Int} (h : 0 ≤ r) : faF m now (r + 1).toNat = if now < m r.toNat then max (faF m now r.toNat) (m r.toNat - now) else faF m now r.toNat := by rw [tn_s h]; rfl
theorem faF_b {m : Nat → Int} {now : Int} (h0 : 0 ≤ now) : ∀ n : Nat, (∀ j, j < n → m j ≤ 999) → 0 ≤ faF m now n ∧ faF m now n ≤ 999
  | 0, _ => by show (0 : Int) ≤ 0 ∧ (0 : Int) ≤ 999; omega
  | n + 1, h => by
    have ih := faF_b (m := m) h0 n fun j hj => h j (by omega)
    have := h n (by omega)
    show 0 ≤ (if now < m n then max (faF m now n) (m n - now) else faF m now n) ∧ (if now < m n then max (faF m now n) (m n - now) else faF m now n) ≤ 999
    split <;> omega
theorem faF_le {m : Nat → Int} {now : Int} : ∀ n j : Nat, j < n → m j - now ≤ faF m now n ∨ m j ≤ now
  | 0, j, h => absurd h (Nat.not_lt_zero _)
  | n + 1, j, h => by
    show m j - now ≤ (if now < m n then max (faF m now n) (m n - now) else faF m now n) ∨ m j ≤ now
    by_cases c : j = n
    · subst c; split <;> omega
    · have := faF_le (m := m) (now := now) n j (by omega)
      split <;> omega
/-- what is cleared up to STEP t, and in it of the first r -/
noncomputable def clP (m g : Nat → Int) (now : Int) (B : Nat → Int) (n : Int) (t r : Int) (j : Nat) : Prop := (j : Int) < n ∧ (1 ≤ m j - now ∧ (m j - now < t ∨ (m j - now = t ∧ (j : Int) < r))) ∧ bAnd (B (m j - now).toNat) (bXor (bShl 1 (g j)) (-1)) ≠ 0
/-- what is cleared, or not, of the first i -/
noncomputable def clQ (m g : Nat → Int) (now : Int) (B : Int → Int) (i : Int) (j : Nat) : Prop := (j : Int) < i ∧ 1 ≤ m j - now ∧ bAnd (B (m j - now)) (bXor (bShl 1 (g j)) (-1)) ≠ 0
noncomputable def clN (m g : Nat → Int) (now : Int) (B : Int → Int) (i : Int) (j : Nat) : Prop := (j : Int) < i ∧ 1 ≤ m j - now ∧ ¬ bAnd (B (m j - now)) (bXor (bShl 1 (g j)) (-1)) ≠ 0
theorem lt_i1 {j : Nat} {i : Int} : (j : Int) < i + 1 ↔ (j : Int) < i ∨ (j : Int) = i := by omega
/-- the reference's way to move LANES -/
noncomputable def mvF (s v : Int) : Nat → Int
  | 0 => 0
  | l + 1 => bOr (mvF s v l) (if bAnd (bShr s l) 1 = 1 then bShl 1 (max 0 (min 8 (l + v))) else 0)
theorem mvF_s {s v l : Int} (h : 0 ≤ l) : mvF s v (l + 1).toNat = bOr (mvF s v l.toNat) (if bAnd (bShr s l) 1 = 1 then bShl 1 (max 0 (min 8 (l + v))) else 0) := by
  rw [tn_s h]
  show bOr (mvF s v l.toNat) (if bAnd (bShr s ((l.toNat : Nat) : Int)) 1 = 1 then bShl 1 (max 0 (min 8 (((l.toNat : Nat) : Int) + v))) else 0) = _
  rw [show ((l.toNat : Nat) : Int) = l by omega]
theorem mvF_n : ∀ s : Nat, s < 512 → mvF s 1 9 = mvB 1 s ∧ mvF s (-1) 9 = mvB (-1) s ∧ mvF s 0 9 = mvB 0 s := by decide +kernel
theorem mvF_9 {s v : Int} (h : 0 ≤ s ∧ s ≤ 511) (hv : -1 ≤ v ∧ v ≤ 1) : mvF s v 9 = mvB v s := by
  obtain ⟨n, hn⟩ : ∃ n : Nat, s = n := ⟨s.toNat, by omega⟩
  have a := mvF_n n (by omega)
  rw [← hn] at a
  rcases (show v = 0 ∨ v = 1 ∨ v = -1 by omega) with rfl | rfl | rfl
  · exact a.2.2
  · exact a.1
  · exact a.2.1
theorem wd_mv_n : ∀ s : Nat, s < 512 → bOr s (bOr (mvB (-1) s) (mvB 1 s)) = wdB s := by decide +kernel
theorem wd_mv {s : Int} (h : 0 ≤ s ∧ s ≤ 511) : bOr s (bOr (mvB (-1) s) (mvB 1 s)) = wdB s := by
  obtain ⟨n, hn⟩ : ∃ n : Nat, s = n := ⟨s.toNat, by omega⟩
  rw [hn]
  exact wd_mv_n n (by omega)
theorem or0 {s : Int} (h : 0 ≤ s ∧ s ≤ 511) : bOr s 0 = s := by
  obtain ⟨n, hn⟩ : ∃ n : Nat, s = n := ⟨s.toNat, by omega⟩
  rw [hn]
  exact bo0_n n (by omega)
set_option maxRecDepth 4000 in
theorem ctX10_clearsF {SP : CT} (hSP : MONO SP) {sh : List (Nat × Nat)} {h : aH} (hG : GD gE gRL sh h) {s u : Nat} (hP : PT h) (hX : XI h) (hD : DR h s u) {L : List (Int × Int × Int)} {l : Int} (eo : kO h 23 (gi h 23 4).toNat = srt L) (hr : ∀ i : Nat, (i : Int) < gi h 23 4 → gi h 23 0 < gi h 24 i ∧ gi h 24 i ≤ gi h 23 0 + 12 ∧ -1 ≤ gi h 25 i ∧ gi h 25 i ≤ 1) (h0 : 0 ≤ gi h 23 0 ∧ gi h 23 0 ≤ 1000000) (hml : ∀ j : Nat, (j : Int) < gi h 19 0 → 0 ≤ gi h 20 j ∧ gi h 20 j ≤ 999) : CLd SP 9 mX10_clears [.ref 0] h 0 0 (fun rv h' => (∃ e f : Int, rv = some (.int (I e)) ∧ crow h' = [f] ∧ r32 e ∧ r32 f ∧ (∃ R : Nat → Int, (∀ q : Nat, (q : Int) ≤ 30 → BS (R q) (XS 0 l (fun _ _ => 0) L (gi h 23 0) (gi h 23 3) (dlA h) (gi h 23 1) q)) ∧ GBS e (clQ (gi h 20) (gi h 21) (gi h 23 0) (fun a => R (min a 30).toNat) (gi h 19 0)) ∧ GBS f (clN (gi h 20) (gi h 21) (gi h 23 0) (fun a => R (min a 30).toNat) (gi h 19 0)))) ∧ GD gE gRL sh h' ∧ FRM gRL [(0, 3, 1, 1), (0, 8, 3, 3), (0, 10, 0, 39), (0, 41, 5, 5), (0, 42, 0, 29), (0, 43, 0, 30), (0, 44, 0, 30), (1, 4, 0, 29)] h h') := by
  refine x_met _ rfl (Nat.le_of_ble_eq_true rfl) (fun K hK => ?_)
  have hmono := MONO_CLd hSP 8
  obtain ⟨ff, eff⟩ : ∃ ff : Int, (if gi h 23 3 = gi h 23 0 then (1 : Int) else 0) = ff := ⟨_, rfl⟩
  have fr : ff = 0 ∨ ff = 1 := by
    rw [← eff]
    split <;> omega
  have g19 := gri 0 16 hG (a := 19) (r := 13) (k := 0) rfl rfl
  have loop : ∀ (mz : Nat) (c e i : Int) (h4 : aH) (ls : List (Nat × Value)), ((gi h 19 0 - i).toNat = mz) → (0 ≤ i ∧ i ≤ gi h 19 0) → (r32 c) → (r32 e) → (GBS c (clQ (gi h 20) (gi h 21) (gi h 23 0) (fun a => gi h4 130 (min a 30).toNat) i)) → (GBS e (clN (gi h 20) (gi h 21) (gi h 23 0) (fun a => gi h4 130 (min a 30).toNat) i)) → (∀ q : Nat, (q : Int) ≤ 30 → BS (gi h4 130 q) (XS 0 l (fun _ _ => 0) L (gi h 23 0) (gi h 23 3) (dlA h) (gi h 23 1) q)) → lk ls 0 = some (.ref 0) → lk ls 1 = some (.int (I c)) → lk ls 2 = some (.int (I e)) → lk ls 3 = some (.int (I i)) → GD gE gRL sh h4 → FRM gRL [(0, 8, 3, 3), (0, 10, 0, 39), (0, 41, 5, 5), (0, 42, 0, 29), (0, 43, 0, 30), (0, 44, 0, 30)] h h4 → K 28 ls [] h4 0 0 := by
    intro mz
    induction mz using Nat.strongRecOn with
    | ind mz ih =>
    intro c e i h4 ls hm i0 rc re gc ge bs l0 l1 l2 l3 hG4 hF4
    have gm := fun z : i < gi h 19 0 => hml i.toNat (by omega)
    have gl2 := fun z : i < gi h 19 0 => grn 0 8 hG (a := 21) (r := 15) (k := i.toNat) rfl rfl (by omega)
    refine x_iload_n 29 hK rfl rfl l3 ?_
    refine x_aload_n 30 hK rfl rfl l0 ?_
    refine x_getR 33 hK rfl rfl (sp_0 (h := h4) hG4) (rf_0_7 (h := h4) hG4) ?_
    have g679 := gri (0) (16) hG (a := 19) (r := 13) (k := 0) rfl rfl
    refine x_getE 36 hK rfl (Or.inl rfl) rfl (sp_19 (h := h4) hG4) (e := (gi h 19 0)) (FRM_gi hF4 (r := 13) rfl rfl) ?_
    refine x_if_icmp_ge 143 39 hK rfl rfl rfl (by omega) (by omega) (fun c5 => ?_) (fun c5 => ?_)
    · refine x_aload_n 144 hK rfl rfl l0 ?_
      refine x_getR 147 hK rfl rfl (sp_0 (h := h4) hG4) (rf_0_1 (h := h4) hG4) ?_
      refine x_iload_n 148 hK rfl rfl l2 ?_
      refine x_i2l 149 hK rfl rfl (by omega) ?_
      refine x_callV 152 hK hmono rfl rfl [.ref 3, .long (J e)] [] rfl rfl (Nat.le_of_ble_eq_true rfl) (Nat.le_of_ble_eq_true rfl) rfl (sp_3 (h := h4) hG4) (CLd_le (Nat.le_of_ble_eq_true rfl) (ctX3_tellOne hSP hG4 (by omega))) ?_
      rintro v680 h680 ⟨rfl, hG680, hF680, t680, s680⟩
      refine x_iload_n 153 hK rfl rfl l1 ?_
      obtain ei : i = gi h 19 0 := by omega
      rw [ei] at gc ge
      exact x_iret hK rfl ⟨⟨c, e, rfl, s680, rc, re, gi h4 130, bs, gc, ge⟩, hG680, ((hF4).mono rfl).trans ((hF680).mono rfl)⟩
    · refine x_aload_n 40 hK rfl rfl l0 ?_
      refine x_getR 43 hK rfl rfl (sp_0 (h := h4) hG4) (rf_0_7 (h := h4) hG4) ?_
      refine x_getR 46 hK rfl rfl (sp_19 (h := h4) hG4) (rf_19_1 (h := h4) hG4) ?_
      refine x_iload_n 47 hK rfl rfl l3 ?_
      have gm2 := gm (by omega)
      have gl3 := gl2 (by omega)
      have g681 := gi_r h 20 i.toNat
      refine x_ialoadE 48 hK rfl rfl (sp_20 (h := h4) hG4) (by omega) (by omega) (by omega) (e' := (gi h 20 i.toNat)) (FRM_gi hF4 (r := 14) rfl rfl) ?_
      refine x_aload_n 49 hK rfl rfl l0 ?_
      refine x_getR 52 hK rfl rfl (sp_0 (h := h4) hG4) (rf_0_10 (h := h4) hG4) ?_
      have g682 := gi_r h 23 0
      refine x_getE 55 hK rfl (Or.inl rfl) rfl (sp_23 (h := h4) hG4) (e := (gi h 23 0)) (FRM_gi hF4 (r := 17) rfl rfl) ?_
      refine x_isub 56 hK rfl rfl ?_
      refine x_istore 58 hK rfl rfl _ rfl ?_
      refine x_iload 60 hK rfl rfl lk1_s ?_
      refine x_iconst 61 hK rfl rfl ?_
      refine x_if_icmp_lt 137 64 hK rfl rfl rfl (by omega) (by omega) (fun c26 => ?_) (fun c26 => ?_)
      · refine x_iinc 140 hK rfl rfl (lk1_n l3 (by decide) (Or.inl rfl)) _ rfl ?_
        refine x_goto 28 hK rfl rfl ?_
        exact ih _ (by omega) c e (i + 1) _ _ rfl (by omega) (rc) (re) (GBS_c gc fun j _ => ⟨fun z => ⟨by have := z.1; omega, z.2⟩, fun z => ⟨(lt_i1.mp z.1).resolve_right fun y => by have y2 := z.2.1; rw [show j = i.toNat by omega] at y2; omega, z.2⟩⟩) (GBS_c ge fun j _ => ⟨fun z => ⟨by have := z.1; omega, z.2⟩, fun z => ⟨(lt_i1.mp z.1).resolve_right fun y => by have y2 := z.2.1; rw [show j = i.toNat by omega] at y2; omega, z.2⟩⟩) (bs) (lk1_n (lk1_n l0 (by decide) (Or.inl rfl)) (by decide) (Or.inl rfl)) (lk1_n (lk1_n l1 (by decide) (Or.inl rfl)) (by decide) (Or.inl rfl)) (lk1_n (lk1_n l2 (by decide) (Or.inl rfl)) (by decide) (Or.inl rfl)) lk1_s (hG4) (hF4)
      · refine x_aload_n 65 hK rfl rfl (lk1_n l0 (by decide) (Or.inl rfl)) ?_
        refine x_getR 68 hK rfl rfl (sp_0 (h := h4) hG4) (rf_0_13 (h := h4) hG4) ?_
        refine x_getR 71 hK rfl rfl (sp_127 (h := h4) hG4) (rf_127_2 (h := h4) hG4) ?_
        refine x_iload 73 hK rfl rfl lk1_s ?_
        refine x_bipush 75 hK rfl rfl rfl ?_
        refine x_min 78 hK rfl rfl (Nat.le_of_ble_eq_true rfl) (by omega) (by omega) ?_
        have g683 := gi_r h4 130 (min ((gi h 20 i.toNat) - (gi h 23 0)) 30).toNat
        refine x_ialoadE 79 hK rfl rfl (sp_130 (h := h4) hG4) (by omega) (by omega) (by omega) (e' := (gi h4 130 (min ((gi h 20 i.toNat) - (gi h 23 0)) 30).toNat)) (rfl) ?_
        refine x_istore 81 hK rfl rfl _ rfl ?_
        refine x_iload 83 hK rfl rfl lk1_s ?_
        refine x_iconst 84 hK rfl rfl ?_
        refine x_aload_n 85 hK rfl rfl (lk1_n (lk1_n l0 (by decide) (Or.inl rfl)) (by decide) (Or.inl rfl)) ?_
        refine x_getR 88 hK rfl rfl (sp_0 (h := h4) hG4) (rf_0_7 (h := h4) hG4) ?_
        refine x_getR 91 hK rfl rfl (sp_19 (h := h4) hG4) (rf_19_2 (h := h4) hG4) ?_
        refine x_iload_n 92 hK rfl rfl (lk1_n (lk1_n l3 (by decide) (Or.inl rfl)) (by decide) (Or.inl rfl)) ?_
        have g684 := grn (0) (8) hG (a := 21) (r := 15) (k := i.toNat) rfl rfl (by omega)
        refine x_ialoadE 93 hK rfl rfl (sp_21 (h := h4) hG4) (by omega) (by omega) (by omega) (e' := (gi h 21 i.toNat)) (FRM_gi hF4 (r := 15) rfl rfl) ?_
        have g685 := bShl_r 1 (gi h 21 i.toNat)
        refine x_ishlF 94 hK rfl rfl ?_
        refine x_iconst 95 hK rfl rfl ?_
        have g686 := bXor_r (bShl 1 (gi h 21 i.toNat)) (-1)
        refine x_ixorF 96 hK rfl rfl ?_
        have g687 := bAnd_r (gi h4 130 (min ((gi h 20 i.toNat) - (gi h 23 0)) 30).toNat) (bXor (bShl 1 (gi h 21 i.toNat)) (-1))
        refine x_iandF 97 hK rfl rfl ?_
        refine x_if_eq 104 100 hK rfl rfl rfl (by omega) (fun c49 => ?_) (fun c49 => ?_)
        · refine x_iconst 105 hK rfl rfl ?_
          refine x_istore 107 hK rfl rfl _ rfl ?_
          refine x_iload_n 108 hK rfl rfl (lk1_n (lk1_n (lk1_n l1 (by decide) (Or.inl rfl)) (by decide) (Or.inl rfl)) (by decide) (Or.inl rfl)) ?_
          refine x_iload 110 hK rfl rfl lk1_s ?_
          refine x_if_eq 119 113 hK rfl rfl rfl (by omega) (fun _ => ?_) (fun c => by omega)
          refine x_iconst 120 hK rfl rfl ?_
          have g688 := bOr_r c 0
          refine x_iorF 121 hK rfl rfl ?_
          refine x_istore_n 122 hK rfl rfl _ rfl ?_
          refine x_iload_n 123 hK rfl rfl (lk1_n (lk1_n (lk1_n (lk1_n l2 (by decide) (Or.inl rfl)) (by decide) (Or.inl rfl)) (by decide) (Or.inl rfl)) (by decide) (Or.inl rfl)) ?_
          refine x_iload 125 hK rfl rfl (lk1_n lk1_s (by decide) (Or.inl rfl)) ?_
          refine x_if_eq 132 128 hK rfl rfl rfl (by omega) (fun _ => ?_) (fun c => by omega)
          refine x_iconst 133 hK rfl rfl ?_
          refine x_iload_n 134 hK rfl rfl (lk1_n (lk1_n (lk1_n (lk1_n l3 (by decide) (Or.inl rfl)) (by decide) (Or.inl rfl)) (by decide) (Or.inl rfl)) (by decide) (Or.inl rfl)) ?_
          have g689 := bShl_r 1 i
          refine x_ishlF 135 hK rfl rfl ?_
          have g690 := bOr_r e (bShl 1 i)
          refine x_iorF 136 hK rfl rfl ?_
          refine x_istore_n 137 hK rfl rfl _ rfl ?_
          refine x_iinc 140 hK rfl rfl (lk1_n (lk1_n (lk1_n (lk1_n (lk1_n l3 (by decide) (Or.inl rfl)) (by decide) (Or.inl rfl)) (by decide) (Or.inl rfl)) (by decide) (Or.inl rfl)) (by decide) (Or.inl rfl)) _ rfl ?_
          refine x_goto 28 hK rfl rfl ?_
          have cd : ¬ bAnd (gi h4 130 (min (gi h 20 i.toNat - gi h 23 0) 30).toNat) (bXor (bShl 1 (gi h 21 i.toNat)) (-1)) ≠ 0 := by omega
          have a1 : 1 ≤ (gi h 20 i.toNat - gi h 23 0) := by omega
          exact ih _ (by omega) (bOr c 0) (bOr e (bShl 1 i)) (i + 1) _ _ rfl (by omega) (bOr_r _ _) (bOr_r _ _) (GBS_c (GBS_n gc) fun j _ => ⟨fun z => ⟨by have := z.1; omega, z.2⟩, fun z => ⟨(lt_i1.mp z.1).resolve_right fun y => by have y2 := z.2.2; rw [show j = i.toNat by omega] at y2; exact cd y2, z.2⟩⟩) (GBS_c (GBS_or ge (r := i) (by omega)) fun j _ => ⟨fun z => z.elim (fun y => ⟨by have := y.1; omega, y.2⟩) (fun y => by rw [show j = i.toNat by omega]; exact ⟨by omega, a1, cd⟩), fun z => (lt_i1.mp z.1).imp (fun y => ⟨y, z.2⟩) id⟩) (bs) (lk1_n (lk1_n (lk1_n (lk1_n (lk1_n (lk1_n l0 (by decide) (Or.inl rfl)) (by decide) (Or.inl rfl)) (by decide) (Or.inl rfl)) (by decide) (Or.inl rfl)) (by decide) (Or.inl rfl)) (by decide) (Or.inl rfl)) (lk1_n (lk1_n lk1_s (by decide) (Or.inl rfl)) (by decide) (Or.inl rfl)) (lk1_n lk1_s (by decide) (Or.inl rfl)) lk1_s (hG4) (hF4)
        · refine x_iconst 101 hK rfl rfl ?_
          refine x_goto 105 hK rfl rfl ?_
          refine x_istore 107 hK rfl rfl _ rfl ?_
          refine x_iload_n 108 hK rfl rfl (lk1_n (lk1_n (lk1_n l1 (by decide) (Or.inl rfl)) (by decide) (Or.inl rfl)) (by decide) (Or.inl rfl)) ?_
          refine x_iload 110 hK rfl rfl lk1_s ?_
          refine x_if_eq 119 113 hK rfl rfl rfl (by omega) (fun c => by omega) (fun _ => ?_)
          refine x_iconst 114 hK rfl rfl ?_
          refine x_iload_n 115 hK rfl rfl (lk1_n (lk1_n (lk1_n l3 (by decide) (Or.inl rfl)) (by decide) (Or.inl rfl)) (by decide) (Or.inl rfl)) ?_
          have g691 := bShl_r 1 i
          refine x_ishlF 116 hK rfl rfl ?_
          refine x_goto 120 hK rfl rfl ?_
          have g692 := bOr_r c (bShl 1 i)
          refine x_iorF 121 hK rfl rfl ?_
          refine x_istore_n 122 hK rfl rfl _ rfl ?_
          refine x_iload_n 123 hK rfl rfl (lk1_n (lk1_n (lk1_n (lk1_n l2 (by decide) (Or.inl rfl)) (by decide) (Or.inl rfl)) (by decide) (Or.inl rfl)) (by decide) (Or.inl rfl)) ?_
          refine x_iload 125 hK rfl rfl (lk1_n lk1_s (by decide) (Or.inl rfl)) ?_
          refine x_if_eq 132 128 hK rfl rfl rfl (by omega) (fun c => by omega) (fun _ => ?_)
          refine x_iconst 129 hK rfl rfl ?_
          refine x_goto 135 hK rfl rfl ?_
          have g693 := bOr_r e 0
          refine x_iorF 136 hK rfl rfl ?_
          refine x_istore_n 137 hK rfl rfl _ rfl ?_
          refine x_iinc 140 hK rfl rfl (lk1_n (lk1_n (lk1_n (lk1_n (lk1_n l3 (by decide) (Or.inl rfl)) (by decide) (Or.inl rfl)) (by decide) (Or.inl rfl)) (by decide) (Or.inl rfl)) (by decide) (Or.inl rfl)) _ rfl ?_
          refine x_goto 28 hK rfl rfl ?_
          have cd : bAnd (gi h4 130 (min (gi h 20 i.toNat - gi h 23 0) 30).toNat) (bXor (bShl 1 (gi h 21 i.toNat)) (-1)) ≠ 0 := by omega
          have a1 : 1 ≤ (gi h 20 i.toNat - gi h 23 0) := by omega
          exact ih _ (by omega) (bOr c (bShl 1 i)) (bOr e 0) (i + 1) _ _ rfl (by omega) (bOr_r _ _) (bOr_r _ _) (GBS_c (GBS_or gc (r := i) (by omega)) fun j _ => ⟨fun z => z.elim (fun y => ⟨by have := y.1; omega, y.2⟩) (fun y => by rw [show j = i.toNat by omega]; exact ⟨by omega, a1, cd⟩), fun z => (lt_i1.mp z.1).imp (fun y => ⟨y, z.2⟩) id⟩) (GBS_c (GBS_n ge) fun j _ => ⟨fun z => ⟨by have := z.1; omega, z.2⟩, fun z => ⟨(lt_i1.mp z.1).resolve_right fun y => by have y2 := z.2.2; rw [show j = i.toNat by omega] at y2; exact y2 cd, z.2⟩⟩) (bs) (lk1_n (lk1_n (lk1_n (lk1_n (lk1_n (lk1_n l0 (by decide) (Or.inl rfl)) (by decide) (Or.inl rfl)) (by decide) (Or.inl rfl)) (by decide) (Or.inl rfl)) (by decide) (Or.inl rfl)) (by decide) (Or.inl rfl)) (lk1_n (lk1_n lk1_s (by decide) (Or.inl rfl)) (by decide) (Or.inl rfl)) (lk1_n lk1_s (by decide) (Or.inl rfl)) lk1_s (hG4) (hF4)
  refine x_aload_n 1 hK rfl rfl rfl ?_
  refine x_callV 4 hK hmono rfl rfl [.ref 0] [] rfl rfl (Nat.le_of_ble_eq_true rfl) (Nat.le_of_ble_eq_true rfl) rfl (sp_0 (h := h) hG) (CLd_le (Nat.le_of_ble_eq_true rfl) (ctX10_lookAheadR hSP hG hP hX hD h0 hml)) ?_
  rintro v694 h694 ⟨rfl, hG694, hF694, dn694, rb694⟩
  have k3694 : gi h694 23 3 = gi h 23 3 := FRM_gi hF694 (r := 17) rfl rfl
  have k0694 : gi h694 23 0 = gi h 23 0 := FRM_gi hF694 (r := 17) rfl rfl
  have k1694 : gi h694 23 1 = gi h 23 1 := FRM_gi hF694 (r := 17) rfl rfl
  have k4694 : gi h694 23 4 = gi h 23 4 := FRM_gi hF694 (r := 17) rfl rfl
  have d2694 : ∀ j, gi h694 24 j = gi h 24 j := fun j => FRM_gi hF694 (r := 18) rfl rfl
  have d3694 : ∀ j, gi h694 25 j = gi h 25 j := fun j => FRM_gi hF694 (r := 19) rfl rfl
  refine x_aload_n 5 hK rfl rfl rfl ?_
  refine x_getR 8 hK rfl rfl (sp_0 (h := h694) hG694) (rf_0_13 (h := h694) hG694) ?_
  refine x_aload_n 9 hK rfl rfl rfl ?_
  refine x_getR 12 hK rfl rfl (sp_0 (h := h694) hG694) (rf_0_10 (h := h694) hG694) ?_
  refine x_aload_n 13 hK rfl rfl rfl ?_
  refine x_callV 16 hK hmono rfl rfl [.ref 0] [.ref 23, .ref 127] rfl rfl (Nat.le_of_ble_eq_true rfl) (Nat.le_of_ble_eq_true rfl) rfl (sp_0 (h := h694) hG694) (CLd_le (Nat.le_of_ble_eq_true rfl) (ctX10_firstFree hSP hG694)) ?_
  rintro v9 h9 ⟨e9, rfl⟩
  rw [e9, show gi h694 23 3 = gi h 23 3 from FRM_gi hF694 (r := 17) rfl rfl, show gi h694 23 0 = gi h 23 0 from FRM_gi hF694 (r := 17) rfl rfl, eff]
  clear e9
  refine x_bipush 18 hK rfl rfl rfl ?_
  refine x_iconst 19 hK rfl rfl ?_
  have eo695 : kO h694 23 (gi h694 23 4).toNat = srt L := by
    rw [show gi h694 23 4 = gi h 23 4 from FRM_gi hF694 (r := 17) rfl rfl, kO_eq (h := h) (h' := h694) (c := 23) (c' := 23) (n := (gi h 23 4).toNat) (fun j hj => ⟨FRM_gi hF694 (r := 18) rfl rfl, FRM_gi hF694 (r := 19) rfl rfl⟩)]
    exact eo
  have hr695 : ∀ q : Nat, (q : Int) < gi h694 23 4 → gi h 23 0 < gi h694 24 q ∧ gi h694 24 q ≤ gi h 23 0 + 12 ∧ -1 ≤ gi h694 25 q ∧ gi h694 25 q ≤ 1 := fun q hq => by
    rw [show gi h694 23 4 = gi h 23 4 from FRM_gi hF694 (r := 17) rfl rfl] at hq
    rw [show gi h694 24 q = gi h 24 q from FRM_gi hF694 (r := 18) rfl rfl, show gi h694 25 q = gi h 25 q from FRM_gi hF694 (r := 19) rfl rfl]
    exact hr q hq
  refine x_callV 22 hK hmono rfl rfl [.ref 127, .ref 23, .int (I ff), .int (I 30), .int (I 0)] [] rfl rfl (Nat.le_of_ble_eq_true rfl) (Nat.le_of_ble_eq_true rfl) rfl (sp_127 (h := h694) hG694) (CLd_le (Nat.le_of_ble_eq_true rfl) (ctX0_reachF hSP hG694 (L := L) (now := gi h 23 0) (last := gi h 23 3) (l := l) (a := 0) (f := ff) (n := 30) (dl := dlA h) (uh := false) (hit := fun _ _ => 0) (FRM_gi hF694 (r := 17) rfl rfl) eo695 (fun s => dlA_b h s) h0 hr695 dn694 (by omega) (by rw [eff]; first | done | omega) (by omega) (Or.inr ⟨rfl, rfl⟩))) ?_
  rw [show gi h694 23 1 = gi h 23 1 from FRM_gi hF694 (r := 17) rfl rfl]
  rintro v695 h695 ⟨rfl, hG695, hF695, bs695⟩
  refine x_iconst 23 hK rfl rfl ?_
  refine x_istore_n 24 hK rfl rfl [(1, .int (I 0)), (0, .ref 0)] rfl ?_
  refine x_iconst 25 hK rfl rfl ?_
  refine x_istore_n 26 hK rfl rfl [(2, .int (I 0)), (1, .int (I 0)), (0, .ref 0)] rfl ?_
  refine x_iconst 27 hK rfl rfl ?_
  refine x_istore_n 28 hK rfl rfl [(3, .int (I 0)), (2, .int (I 0)), (1, .int (I 0)), (0, .ref 0)] rfl ?_
  exact loop _ 0 0 0 _ _ rfl (by omega) (by omega) (by omega) (GBS_c GBS_0 fun j _ => ⟨False.elim, fun y => absurd y.1 (by omega)⟩) (GBS_c GBS_0 fun j _ => ⟨False.elim, fun y => absurd y.1 (by omega)⟩) (bs695) rfl rfl rfl rfl (hG695) (((hF694).mono rfl).trans ((hF695).mono rfl))
set_option maxRecDepth 4000 in
theorem ctX11_movedF {SP : CT} (hSP : MONO SP) {h : aH} {s v : Int} (hs : 0 ≤ s ∧ s ≤ 511) (hv : -1 ≤ v ∧ v ≤ 1) : CLd SP 2 mX11_moved [.int (I s), .int (I v)] h 0 0 (fun rv h' => h' = h ∧ rv = some (.int (I (mvB v s)))) := by
  refine x_met _ rfl (Nat.le_of_ble_eq_true rfl) (fun K hK => ?_)
  have hmono := MONO_CLd hSP 1
  have loop : ∀ (mz : Nat) (e l : Int) (ls : List (Nat × Value)), ((9 - l).toNat = mz) → (0 ≤ l ∧ l ≤ 9) → (r32 e) → (e = mvF s v l.toNat) → lk ls 0 = some (.int (I s)) → lk ls 1 = some (.int (I v)) → lk ls 2 = some (.int (I e)) → lk ls 3 = some (.int (I l)) → K 4 ls [] h 0 0 := by
    intro mz
    induction mz using Nat.strongRecOn with
    | ind mz ih =>
    intro e l ls hm lq0 re ee l0 l1 l2 l3
    refine x_iload_n 5 hK rfl rfl l3 ?_
    refine x_bipush 7 hK rfl rfl rfl ?_
    refine x_if_icmp_ge 39 10 hK rfl rfl rfl (by omega) (by omega) (fun c3 => ?_) (fun c3 => ?_)
    · refine x_iload_n 40 hK rfl rfl l2 ?_
      exact x_iret hK rfl ⟨rfl, by rw [ee, show l.toNat = 9 by omega, mvF_9 hs hv]⟩
    · refine x_iload_n 11 hK rfl rfl l2 ?_
      refine x_iload_n 12 hK rfl rfl l0 ?_
      refine x_iload_n 13 hK rfl rfl l3 ?_
      refine x_callS 16 hK hmono rfl (Or.inl rfl) rfl [.int (I s), .int (I l)] [.int (I e)] rfl rfl (Nat.le_of_ble_eq_true rfl) (Nat.le_of_ble_eq_true rfl) (CLd_le (Nat.le_of_ble_eq_true rfl) (ctX11_hasF hSP (x := s) (y := l))) ?_
      rintro v9 h9 ⟨e9, ⟨rfl, hs9⟩ | ⟨rfl, hs9⟩⟩ <;> rw [e9] <;> clear e9
      · refine x_if_eq 30 19 hK rfl rfl rfl (by omega) (fun c => by omega) (fun _ => ?_)
        refine x_iconst 20 hK rfl rfl ?_
        refine x_iload_n 21 hK rfl rfl l3 ?_
        refine x_iload_n 22 hK rfl rfl l1 ?_
        refine x_iadd 23 hK rfl rfl ?_
        refine x_callS 26 hK hmono rfl (Or.inl rfl) rfl [.int (I (l + v))] [.int (I 1), .int (I e)] rfl rfl (Nat.le_of_ble_eq_true rfl) (Nat.le_of_ble_eq_true rfl) (CLd_le (Nat.le_of_ble_eq_true rfl) (ctX11_put hSP (by omega))) ?_
        rintro v9 h9 ⟨e9, rfl⟩
        rw [e9]
        clear e9
        have g697 := bShl_r 1 (max 0 (min 8 (l + v)))
        refine x_ishlF 27 hK rfl rfl ?_
        refine x_goto 31 hK rfl rfl ?_
        have g698 := bOr_r e (bShl 1 (max 0 (min 8 (l + v))))
        refine x_iorF 32 hK rfl rfl ?_
        refine x_istore_n 33 hK rfl rfl _ rfl ?_
        refine x_iinc 36 hK rfl rfl (lk1_n l3 (by decide) (Or.inl rfl)) _ rfl ?_
        refine x_goto 4 hK rfl rfl ?_
        exact ih _ (by omega) (bOr e (bShl 1 (max 0 (min 8 (l + v))))) (l + 1) _ rfl (by omega) (bOr_r _ _) (by rw [mvF_s lq0.1, if_pos hs9, ee]) (lk1_n (lk1_n l0 (by decide) (Or.inl rfl)) (by decide) (Or.inl rfl)) (lk1_n (lk1_n l1 (by decide) (Or.inl rfl)) (by decide) (Or.inl rfl)) (lk1_n lk1_s (by decide) (Or.inl rfl)) lk1_s
      · refine x_if_eq 30 19 hK rfl rfl rfl (by omega) (fun _ => ?_) (fun c => by omega)
        refine x_iconst 31 hK rfl rfl ?_
        have g699 := bOr_r e 0
        refine x_iorF 32 hK rfl rfl ?_
        refine x_istore_n 33 hK rfl rfl _ rfl ?_
        refine x_iinc 36 hK rfl rfl (lk1_n l3 (by decide) (Or.inl rfl)) _ rfl ?_
        refine x_goto 4 hK rfl rfl ?_
        exact ih _ (by omega) (bOr e 0) (l + 1) _ rfl (by omega) (bOr_r _ _) (by rw [mvF_s lq0.1, if_neg hs9, ee]) (lk1_n (lk1_n l0 (by decide) (Or.inl rfl)) (by decide) (Or.inl rfl)) (lk1_n (lk1_n l1 (by decide) (Or.inl rfl)) (by decide) (Or.inl rfl)) (lk1_n lk1_s (by decide) (Or.inl rfl)) lk1_s
  refine x_iconst 1 hK rfl rfl ?_
  refine x_istore_n 2 hK rfl rfl [(2, .int (I 0)), (0, .int (I s)), (1, .int (I v))] rfl ?_
  refine x_iconst 3 hK rfl rfl ?_
  refine x_istore_n 4 hK rfl rfl [(3, .int (I 0)), (2, .int (I 0)), (0, .int (I s)), (1, .int (I v))] rfl ?_
  exact loop _ 0 0 _ rfl (by omega) (by omega) (rfl) rfl rfl rfl rfl
set_option maxRecDepth 4000 in
theorem ctX11_movedByDueF {SP : CT} (hSP : MONO SP) {sh : List (Nat × Nat)} {h : aH} (hG : GD gE gRL sh h) {s t : Int} (hs : NE s) (ht : 0 ≤ t ∧ t ≤ 1000) (h0 : 0 ≤ (gi h 178 0) ∧ (gi h 178 0) ≤ 1000000) : CLd SP 3 mX11_movedByDue [.ref 171, .int (I s), .int (I t)] h 0 0 (fun rv h' => h' = h ∧ rv = some (.int (I (mvL (wyF (wl (RC h 178 0)) ((gi h 178 0) + t)) s)))) := by
  refine x_met _ rfl (Nat.le_of_ble_eq_true rfl) (fun K hK => ?_)
  have hmono := MONO_CLd hSP 2
  have g3 := gri 0 12 hG (a := 178) (r := 61) (k := 3) rfl rfl
  have loop : ∀ (mz : Nat) (e k : Int) (ls : List (Nat × Value)), ((gi h 178 3 - k).toNat = mz) → (0 ≤ k ∧ k ≤ gi h 178 3) → (NE e) → (e = mvL (wyF (wlK (gi h 178) k.toNat) ((gi h 178 0) + t)) s) → lk ls 0 = some (.ref 171) → lk ls 1 = some (.int (I s)) → lk ls 2 = some (.int (I t)) → lk ls 3 = some (.int (I e)) → lk ls 4 = some (.int (I k)) → K 5 ls [] h 0 0 := by
    intro mz
    induction mz using Nat.strongRecOn with
    | ind mz ih =>
    intro e k ls hm k0 ne ee l0 l1 l2 l3 l4
    have ws : (wyF (wlK (gi h 178) (k + 1).toNat) ((gi h 178 0) + t)) = (wyF (wlK (gi h 178) k.toNat) ((gi h 178 0) + t)) ++ if gi h 178 (5 + 3 * k.toNat) = (gi h 178 0) + t then [(0, gi h 178 (6 + 3 * k.toNat))] else [] := by rw [tn_s k0.1]; exact wyF_s _ _ _
    have wt : k < 12 → -1 ≤ gi h 178 (6 + 3 * k.toNat) ∧ gi h 178 (6 + 3 * k.toNat) ≤ 1 := fun z => what_r hG (r := 61) rfl rfl (by omega)
    have ne1 := ne.1
    have ne2 := ne.2
    have d5 := gi_r h 178 (5 + 3 * k.toNat)
    refine x_iload 7 hK rfl rfl l4 ?_
    refine x_aload_n 8 hK rfl rfl l0 ?_
    refine x_getR 11 hK rfl rfl (sp_171 (h := h) hG) (rf_171_14 (h := h) hG) ?_
    refine x_iconst 12 hK rfl rfl ?_
    have g700 := gri (0) (12) hG (a := 178) (r := 61) (k := 3) rfl rfl
    refine x_ialoadE 13 hK rfl rfl (sp_178 (h := h) hG) (by omega) (by omega) (by omega) (e' := (gi h 178 3)) (rfl) ?_
    refine x_if_icmp_ge 68 16 hK rfl rfl rfl (by omega) (by omega) (fun c6 => ?_) (fun c6 => ?_)
    · refine x_iload_n 69 hK rfl rfl l3 ?_
      exact x_iret hK rfl ⟨rfl, by rw [ee, show k.toNat = (gi h 178 3).toNat by omega, ← wl_RC (by omega)]⟩
    · refine x_iconst 17 hK rfl rfl ?_
      refine x_iconst 18 hK rfl rfl ?_
      refine x_iload 20 hK rfl rfl l4 ?_
      refine x_imul 21 hK rfl rfl ?_
      refine x_iadd 22 hK rfl rfl ?_
      refine x_istore 24 hK rfl rfl _ rfl ?_
      refine x_aload_n 25 hK rfl rfl (lk1_n l0 (by decide) (Or.inl rfl)) ?_
      refine x_getR 28 hK rfl rfl (sp_171 (h := h) hG) (rf_171_14 (h := h) hG) ?_
      refine x_iload 30 hK rfl rfl lk1_s ?_
      refine x_iconst 31 hK rfl rfl ?_
      refine x_iadd 32 hK rfl rfl ?_
      refine x_ialoadE 33 hK rfl rfl (sp_178 (h := h) hG) (by omega) (by omega) (by omega) (e' := (gi h 178 (5 + 3 * k.toNat))) ((gi_to (by omega))) ?_
      refine x_aload_n 34 hK rfl rfl (lk1_n l0 (by decide) (Or.inl rfl)) ?_
      refine x_getR 37 hK rfl rfl (sp_171 (h := h) hG) (rf_171_14 (h := h) hG) ?_
      refine x_iconst 38 hK rfl rfl ?_
      have g701 := gi_r h 178 0
      refine x_ialoadE 39 hK rfl rfl (sp_178 (h := h) hG) (by omega) (by omega) (by omega) (e' := (gi h 178 0)) (rfl) ?_
      refine x_iload_n 40 hK rfl rfl (lk1_n l2 (by decide) (Or.inl rfl)) ?_
      refine x_iadd 41 hK rfl rfl ?_
      refine x_if_icmp_ne 60 44 hK rfl rfl rfl (by omega) (by omega) (fun c27 => ?_) (fun c27 => ?_)
      · refine x_iload_n 61 hK rfl rfl (lk1_n l3 (by decide) (Or.inl rfl)) ?_
        refine x_istore_n 62 hK rfl rfl _ rfl ?_
        refine x_iinc 65 hK rfl rfl (lk1_n (lk1_n l4 (by decide) (Or.inl rfl)) (by decide) (Or.inl rfl)) _ rfl ?_
        refine x_goto 5 hK rfl rfl ?_
        exact ih _ (by omega) e (k + 1) _ rfl (by omega) (ne) (by rw [ws, if_neg (by omega), List.append_nil]; exact ee) (lk1_n (lk1_n (lk1_n l0 (by decide) (Or.inl rfl)) (by decide) (Or.inl rfl)) (by decide) (Or.inl rfl)) (lk1_n (lk1_n (lk1_n l1 (by decide) (Or.inl rfl)) (by decide) (Or.inl rfl)) (by decide) (Or.inl rfl)) (lk1_n (lk1_n (lk1_n l2 (by decide) (Or.inl rfl)) (by decide) (Or.inl rfl)) (by decide) (Or.inl rfl)) (lk1_n lk1_s (by decide) (Or.inl rfl)) lk1_s
      · refine x_iload_n 45 hK rfl rfl (lk1_n l3 (by decide) (Or.inl rfl)) ?_
        refine x_aload_n 46 hK rfl rfl (lk1_n l0 (by decide) (Or.inl rfl)) ?_
        refine x_getR 49 hK rfl rfl (sp_171 (h := h) hG) (rf_171_14 (h := h) hG) ?_
        refine x_iload 51 hK rfl rfl lk1_s ?_
        refine x_iconst 52 hK rfl rfl ?_
        refine x_iadd 53 hK rfl rfl ?_
        refine x_ialoadE 54 hK rfl rfl (sp_178 (h := h) hG) (by omega) (by omega) (by omega) (e' := (gi h 178 (6 + 3 * k.toNat))) ((gi_to (by omega))) ?_
        have wt1 := wt (by omega)
        refine x_callS 57 hK hmono rfl (Or.inl rfl) rfl [.int (I e), .int (I (gi h 178 (6 + 3 * k.toNat)))] [] rfl rfl (Nat.le_of_ble_eq_true rfl) (Nat.le_of_ble_eq_true rfl) (CLd_le (Nat.le_of_ble_eq_true rfl) (ctX11_movedF hSP (s := e) (v := (gi h 178 (6 + 3 * k.toNat))) (by omega) (by omega))) ?_
        rintro v9 h9 ⟨e9, rfl⟩
        rw [e9]
        clear e9
        have nv := NE_mv (v := (gi h 178 (6 + 3 * k.toNat))) ne (by omega)
        refine x_goto 61 hK rfl rfl ?_
        refine x_istore_n 62 hK rfl rfl _ rfl ?_
        refine x_iinc 65 hK rfl rfl (lk1_n (lk1_n l4 (by decide) (Or.inl rfl)) (by decide) (Or.inl rfl)) _ rfl ?_
        refine x_goto 5 hK rfl rfl ?_
        exact ih _ (by omega) (mvB (gi h 178 (6 + 3 * k.toNat)) e) (k + 1) _ rfl (by omega) (nv) (by rw [ws, if_pos (by omega), mvL_s, ← ee]) (lk1_n (lk1_n (lk1_n l0 (by decide) (Or.inl rfl)) (by decide) (Or.inl rfl)) (by decide) (Or.inl rfl)) (lk1_n (lk1_n (lk1_n l1 (by decide) (Or.inl rfl)) (by decide) (Or.inl rfl)) (by decide) (Or.inl rfl)) (lk1_n (lk1_n (lk1_n l2 (by decide) (Or.inl rfl)) (by decide) (Or.inl rfl)) (by decide) (Or.inl rfl)) (lk1_n lk1_s (by decide) (Or.inl rfl)) lk1_s
  refine x_iload_n 1 hK rfl rfl rfl ?_
  refine x_istore_n 2 hK rfl rfl [(3, .int (I s)), (0, .ref 171), (1, .int (I s)), (2, .int (I t))] rfl ?_
  refine x_iconst 3 hK rfl rfl ?_
  refine x_istore 5 hK rfl rfl [(4, .int (I 0)), (3, .int (I s)), (0, .ref 171), (1, .int (I s)), (2, .int (I t))] rfl ?_
  exact loop _ s 0 _ rfl (by omega) (hs) (rfl) rfl rfl rfl rfl rfl
set_option maxRecDepth 4000 in
theorem ctX11_clearsF {SP : CT} (hSP : MONO SP) {sh : List (Nat × Nat)} {h : aH} (hG : GD gE gRL sh h) (hX : XI h) (h0 : 0 ≤ (gi h 178 0) ∧ (gi h 178 0) ≤ 1000000) (ho : LOK (wl (RC h 178 0)) (gi h 178 0)) : CLd SP 20 mX11_clears [.ref 171] h 0 0 (fun rv h' => (∃ e f : Int, rv = some (.int (I e)) ∧ mrow h' = [f] ∧ r32 e ∧ r32 f ∧ GBS e (clQ (gi h 175) (gi h 176) (gi h 178 0) (fun a => (lbF (wl (RC h 178 0)) (gi h 178 0) (gi h 178 4) (dlA h) (gi h 178 1) a.toNat)) (gi h 171 6)) ∧ GBS f (clN (gi h 175) (gi h 176) (gi h 178 0) (fun a => (lbF (wl (RC h 178 0)) (gi h 178 0) (gi h 178 4) (dlA h) (gi h 178 1) a.toNat)) (gi h 171 6))) ∧ GD gE gRL sh h' ∧ FRM gRL [(0, 54, 0, 0), (0, 54, 1, 1), (0, 67, 0, 79), (0, 68, 0, 3), (1, 55, 0, 39)] h h' ∧ gi h' 171 0 = 0) := by
  refine x_met _ rfl (Nat.le_of_ble_eq_true rfl) (fun K hK => ?_)
  have hmono := MONO_CLd hSP 19
  have g6 := gri 0 16 hG (a := 171) (r := 54) (k := 6) rfl rfl
  have g1 := gri 0 8 hG (a := 178) (r := 61) (k := 1) rfl rfl
  have gm : ∀ j : Nat, (j : Int) < (gi h 171 6) → 0 ≤ gi h 175 j ∧ gi h 175 j ≤ 999 := fun j hj => grn 0 999 hG (a := 175) (r := 58) rfl rfl (by omega)
  have gl : ∀ j : Nat, r32 (gi h 176 j) := fun j => gi_r h 176 j
  have fab := faF_b (m := gi h 175) h0.1 (gi h 171 6).toNat fun j hj => (gm j (by omega)).2
  have par := psF_r (g := fun j => gi h 175 j - (gi h 178 0)) (gi h 171 6).toNat
  have db := dlA_b h
  have lne := lbF_NE (last := (gi h 178 4)) (dl := dlA h) ho g1
  have loopT : ∀ (mz : Nat) (b s t : Int) (h3 : aH) (ls : List (Nat × Value)), (((faF (gi h 175) (gi h 178 0) (gi h 171 6).toNat) + 1 - t).toNat = mz) → (1 ≤ t ∧ t ≤ (faF (gi h 175) (gi h 178 0) (gi h 171 6).toNat) + 1) → (s = (lbF (wl (RC h 178 0)) (gi h 178 0) (gi h 178 4) (dlA h) (gi h 178 1) (t - 1).toNat)) → (r32 b) → (GBS b (clP (gi h 175) (gi h 176) (gi h 178 0) (fun q => (lbF (wl (RC h 178 0)) (gi h 178 0) (gi h 178 4) (dlA h) (gi h 178 1) q)) (gi h 171 6) t 0)) → (gi h3 171 0 = 0) → lk ls 0 = some (.ref 171) → lk ls 1 = some (.int (I (faF (gi h 175) (gi h 178 0) (gi h 171 6).toNat))) → lk ls 2 = some (.int (I (psF (fun j => gi h 175 j - (gi h 178 0)) (gi h 171 6).toNat))) → lk ls 3 = some (.int (I b)) → lk ls 4 = some (.int (I s)) → lk ls 5 = some (.int (I t)) → GD gE gRL sh h3 → FRM gRL [(0, 54, 0, 0), (0, 54, 1, 1), (0, 67, 0, 79), (0, 68, 0, 3), (1, 55, 0, 39)] h h3 → K 104 ls [] h3 0 0 := by
    intro mz
    induction mz using Nat.strongRecOn with
    | ind mz ih =>
    intro b s t h3 ls hm t0 ss rb cb z3 l0 l1 l2 l3 l4 l5 hG3 hF3
    have ihT := ih
    have ne := lne (t - 1).toNat
    have ne1 := ne.1
    have ne2 := ne.2
    have lt := lbF_t (L := (wl (RC h 178 0))) (now := (gi h 178 0)) (last := (gi h 178 4)) (dl := dlA h) (l0 := gi h 178 1) (t := t) (by omega)
    have loopR : ∀ (mz : Nat) (b r : Int) (h5 : aH) (ls : List (Nat × Value)), (((gi h 171 6) - r).toNat = mz) → (t ≤ (faF (gi h 175) (gi h 178 0) (gi h 171 6).toNat)) → (0 ≤ r ∧ r ≤ (gi h 171 6)) → (r32 b) → (GBS b (clP (gi h 175) (gi h 176) (gi h 178 0) (fun q => (lbF (wl (RC h 178 0)) (gi h 178 0) (gi h 178 4) (dlA h) (gi h 178 1) q)) (gi h 171 6) t r)) → (gi h5 171 0 = 0) → lk ls 0 = some (.ref 171) → lk ls 1 = some (.int (I (faF (gi h 175) (gi h 178 0) (gi h 171 6).toNat))) → lk ls 2 = some (.int (I (psF (fun j => gi h 175 j - (gi h 178 0)) (gi h 171 6).toNat))) → lk ls 3 = some (.int (I b)) → lk ls 4 = some (.int (I (lbF (wl (RC h 178 0)) (gi h 178 0) (gi h 178 4) (dlA h) (gi h 178 1) t.toNat))) → lk ls 5 = some (.int (I t)) → lk ls 6 = some (.int (I r)) → GD gE gRL sh h5 → FRM gRL [(0, 54, 0, 0), (0, 54, 1, 1), (0, 67, 0, 79), (0, 68, 0, 3), (1, 55, 0, 39)] h h5 → K 180 ls [] h5 0 0 := by
      intro mz
      induction mz using Nat.strongRecOn with
      | ind mz ih =>
      intro b r h5 ls hm t1 r0 rb cb z5 l0 l1 l2 l3 l4 l5 l6 hG5 hF5
      have gmr := fun z : r < (gi h 171 6) => gm r.toNat (by omega)
      have glr := gl r.toNat
      have lnt := lne t.toNat
      have lnt1 := lnt.1
      have lnt2 := lnt.2
      refine x_iload 182 hK rfl rfl l6 ?_
      refine x_aload_n 183 hK rfl rfl l0 ?_
      have g702 := gri (0) (16) hG (a := 171) (r := 54) (k := 6) rfl rfl
      refine x_getE 186 hK rfl (Or.inl rfl) rfl (sp_171 (h := h5) hG5) (e := (gi h 171 6)) (FRM_gi hF5 (r := 54) rfl rfl) ?_
      refine x_if_icmp_ge 254 189 hK rfl rfl rfl (by omega) (by omega) (fun c4 => ?_) (fun c4 => ?_)
      · refine x_iinc 257 hK rfl rfl l5 _ rfl ?_
        refine x_goto 104 hK rfl rfl ?_
        exact ihT _ (by omega) b (lbF (wl (RC h 178 0)) (gi h 178 0) (gi h 178 4) (dlA h) (gi h 178 1) t.toNat) (t + 1) _ _ rfl (by omega) (by rw [show t + 1 - 1 = t by omega]) (rb) (GBS_c cb fun j _ => ⟨fun z => ⟨z.1, ⟨z.2.1.1, by have := z.2.1.2; omega⟩, z.2.2⟩, fun z => ⟨z.1, ⟨z.2.1.1, by have := z.2.1.2; have := z.1; omega⟩, z.2.2⟩⟩) (z5) (lk1_n l0 (by decide) (Or.inl rfl)) (lk1_n l1 (by decide) (Or.inl rfl)) (lk1_n l2 (by decide) (Or.inl rfl)) (lk1_n l3 (by decide) (Or.inl rfl)) (lk1_n l4 (by decide) (Or.inl rfl)) lk1_s (hG5) (hF5)
      · refine x_aload_n 190 hK rfl rfl l0 ?_
        refine x_getR 193 hK rfl rfl (sp_171 (h := h5) hG5) (rf_171_11 (h := h5) hG5) ?_
        refine x_iload 195 hK rfl rfl l6 ?_
        have gm2 := gmr (by omega)
        have g703 := grn (0) (999) hG (a := 175) (r := 58) (k := r.toNat) rfl rfl (by omega)
        refine x_ialoadE 196 hK rfl rfl (sp_175 (h := h5) hG5) (by omega) (by omega) (by omega) (e' := (gi h 175 r.toNat)) (FRM_gi hF5 (r := 58) rfl rfl) ?_
        refine x_aload_n 197 hK rfl rfl l0 ?_
        refine x_getR 200 hK rfl rfl (sp_171 (h := h5) hG5) (rf_171_14 (h := h5) hG5) ?_
        refine x_iconst 201 hK rfl rfl ?_
        have g704 := gi_r h 178 0
        refine x_ialoadE 202 hK rfl rfl (sp_178 (h := h5) hG5) (by omega) (by omega) (by omega) (e' := (gi h 178 0)) (FRM_gi hF5 (r := 61) rfl rfl) ?_
        refine x_iload 204 hK rfl rfl l5 ?_
        refine x_iadd 205 hK rfl rfl ?_
        refine x_if_icmp_ne 212 208 hK rfl rfl rfl (by omega) (by omega) (fun c19 => ?_) (fun c19 => ?_)
        · refine x_iconst 213 hK rfl rfl ?_
          refine x_istore 215 hK rfl rfl _ rfl ?_
          refine x_iload_n 216 hK rfl rfl (lk1_n l3 (by decide) (Or.inl rfl)) ?_
          refine x_iload 218 hK rfl rfl lk1_s ?_
          refine x_if_eq 245 221 hK rfl rfl rfl (by omega) (fun _ => ?_) (fun c => by omega)
          refine x_iconst 246 hK rfl rfl ?_
          have g705 := bOr_r b 0
          refine x_iorF 247 hK rfl rfl ?_
          refine x_istore_n 248 hK rfl rfl _ rfl ?_
          refine x_iinc 251 hK rfl rfl (lk1_n (lk1_n l6 (by decide) (Or.inl rfl)) (by decide) (Or.inl rfl)) _ rfl ?_
          refine x_goto 180 hK rfl rfl ?_
          have cd : ¬ ((gi h 175 r.toNat - (gi h 178 0)) = t ∧ bAnd (lbF (wl (RC h 178 0)) (gi h 178 0) (gi h 178 4) (dlA h) (gi h 178 1) t.toNat) (bXor (bShl 1 (gi h 176 r.toNat)) (-1)) ≠ 0) := by omega
          exact ih _ (by omega) (bOr b 0) (r + 1) _ _ rfl (t1) (by omega) (bOr_r _ _) (GBS_c (GBS_n cb) fun j _ => ⟨fun z => ⟨z.1, ⟨z.2.1.1, by have := z.2.1.2; omega⟩, z.2.2⟩, fun z => by
            refine ⟨z.1, ⟨z.2.1.1, ?_⟩, z.2.2⟩
            by_cases q : (j : Int) = r ∧ gi h 175 j - (gi h 178 0) = t
            · have y := z.2.2
              rw [q.2, show j = r.toNat by omega] at y
              have y2 := q.2
              rw [show j = r.toNat by omega] at y2
              exact absurd ⟨y2, y⟩ cd
            · have := z.2.1.2
              omega⟩) (z5) (lk1_n (lk1_n (lk1_n l0 (by decide) (Or.inl rfl)) (by decide) (Or.inl rfl)) (by decide) (Or.inl rfl)) (lk1_n (lk1_n (lk1_n l1 (by decide) (Or.inl rfl)) (by decide) (Or.inl rfl)) (by decide) (Or.inl rfl)) (lk1_n (lk1_n (lk1_n l2 (by decide) (Or.inl rfl)) (by decide) (Or.inl rfl)) (by decide) (Or.inl rfl)) (lk1_n lk1_s (by decide) (Or.inl rfl)) (lk1_n (lk1_n (lk1_n l4 (by decide) (Or.inl rfl)) (by decide) (Or.inl rfl)) (by decide) (Or.inl rfl)) (lk1_n (lk1_n (lk1_n l5 (by decide) (Or.inl rfl)) (by decide) (Or.inl rfl)) (by decide) (Or.inl rfl)) lk1_s (hG5) (hF5)
        · refine x_iconst 209 hK rfl rfl ?_
          refine x_goto 213 hK rfl rfl ?_
          refine x_istore 215 hK rfl rfl _ rfl ?_
          refine x_iload_n 216 hK rfl rfl (lk1_n l3 (by decide) (Or.inl rfl)) ?_
          refine x_iload 218 hK rfl rfl lk1_s ?_
          refine x_if_eq 245 221 hK rfl rfl rfl (by omega) (fun c => by omega) (fun _ => ?_)
          refine x_iload 223 hK rfl rfl (lk1_n l4 (by decide) (Or.inl rfl)) ?_
          refine x_iconst 224 hK rfl rfl ?_
          refine x_aload_n 225 hK rfl rfl (lk1_n l0 (by decide) (Or.inl rfl)) ?_
          refine x_getR 228 hK rfl rfl (sp_171 (h := h5) hG5) (rf_171_12 (h := h5) hG5) ?_
          refine x_iload 230 hK rfl rfl (lk1_n l6 (by decide) (Or.inl rfl)) ?_
          have g706 := gi_r h 176 r.toNat
          refine x_ialoadE 231 hK rfl rfl (sp_176 (h := h5) hG5) (by omega) (by omega) (by omega) (e' := (gi h 176 r.toNat)) (FRM_gi hF5 (r := 59) rfl rfl) ?_
          have g707 := bShl_r 1 (gi h 176 r.toNat)
          refine x_ishlF 232 hK rfl rfl ?_
          refine x_iconst 233 hK rfl rfl ?_
          have g708 := bXor_r (bShl 1 (gi h 176 r.toNat)) (-1)
          refine x_ixorF 234 hK rfl rfl ?_
          have g709 := bAnd_r (lbF (wl (RC h 178 0)) (gi h 178 0) (gi h 178 4) (dlA h) (gi h 178 1) t.toNat) (bXor (bShl 1 (gi h 176 r.toNat)) (-1))
          refine x_iandF 235 hK rfl rfl ?_
          refine x_if_eq 245 238 hK rfl rfl rfl (by omega) (fun c47 => ?_) (fun c47 => ?_)
          · refine x_iconst 246 hK rfl rfl ?_
            have g710 := bOr_r b 0
            refine x_iorF 247 hK rfl rfl ?_
            refine x_istore_n 248 hK rfl rfl _ rfl ?_
            refine x_iinc 251 hK rfl rfl (lk1_n (lk1_n l6 (by decide) (Or.inl rfl)) (by decide) (Or.inl rfl)) _ rfl ?_
            refine x_goto 180 hK rfl rfl ?_
            have cd : ¬ ((gi h 175 r.toNat - (gi h 178 0)) = t ∧ bAnd (lbF (wl (RC h 178 0)) (gi h 178 0) (gi h 178 4) (dlA h) (gi h 178 1) t.toNat) (bXor (bShl 1 (gi h 176 r.toNat)) (-1)) ≠ 0) := by omega
            exact ih _ (by omega) (bOr b 0) (r + 1) _ _ rfl (t1) (by omega) (bOr_r _ _) (GBS_c (GBS_n cb) fun j _ => ⟨fun z => ⟨z.1, ⟨z.2.1.1, by have := z.2.1.2; omega⟩, z.2.2⟩, fun z => by
              refine ⟨z.1, ⟨z.2.1.1, ?_⟩, z.2.2⟩
              by_cases q : (j : Int) = r ∧ gi h 175 j - (gi h 178 0) = t
              · have y := z.2.2
                rw [q.2, show j = r.toNat by omega] at y
                have y2 := q.2
                rw [show j = r.toNat by omega] at y2
                exact absurd ⟨y2, y⟩ cd
              · have := z.2.1.2
                omega⟩) (z5) (lk1_n (lk1_n (lk1_n l0 (by decide) (Or.inl rfl)) (by decide) (Or.inl rfl)) (by decide) (Or.inl rfl)) (lk1_n (lk1_n (lk1_n l1 (by decide) (Or.inl rfl)) (by decide) (Or.inl rfl)) (by decide) (Or.inl rfl)) (lk1_n (lk1_n (lk1_n l2 (by decide) (Or.inl rfl)) (by decide) (Or.inl rfl)) (by decide) (Or.inl rfl)) (lk1_n lk1_s (by decide) (Or.inl rfl)) (lk1_n (lk1_n (lk1_n l4 (by decide) (Or.inl rfl)) (by decide) (Or.inl rfl)) (by decide) (Or.inl rfl)) (lk1_n (lk1_n (lk1_n l5 (by decide) (Or.inl rfl)) (by decide) (Or.inl rfl)) (by decide) (Or.inl rfl)) lk1_s (hG5) (hF5)
          · refine x_iconst 239 hK rfl rfl ?_
            refine x_iload 241 hK rfl rfl (lk1_n l6 (by decide) (Or.inl rfl)) ?_
            have g711 := bShl_r 1 r
            refine x_ishlF 242 hK rfl rfl ?_
            refine x_goto 246 hK rfl rfl ?_
            have g712 := bOr_r b (bShl 1 r)
            refine x_iorF 247 hK rfl rfl ?_
            refine x_istore_n 248 hK rfl rfl _ rfl ?_
            refine x_iinc 251 hK rfl rfl (lk1_n (lk1_n l6 (by decide) (Or.inl rfl)) (by decide) (Or.inl rfl)) _ rfl ?_
            refine x_goto 180 hK rfl rfl ?_
            have at_ : (gi h 175 r.toNat - (gi h 178 0)) = t := by omega
            have cd : bAnd (lbF (wl (RC h 178 0)) (gi h 178 0) (gi h 178 4) (dlA h) (gi h 178 1) t.toNat) (bXor (bShl 1 (gi h 176 r.toNat)) (-1)) ≠ 0 := by omega
            exact ih _ (by omega) (bOr b (bShl 1 r)) (r + 1) _ _ rfl (t1) (by omega) (bOr_r _ _) (GBS_c (GBS_or cb (r := r) (by omega)) fun j _ => ⟨fun z => z.elim (fun y => ⟨y.1, ⟨y.2.1.1, by have := y.2.1.2; omega⟩, y.2.2⟩) (fun y => by rw [show j = r.toNat by omega]; exact ⟨by omega, ⟨by omega, by omega⟩, by rw [at_]; exact cd⟩), fun z => by
              by_cases q : (j : Int) = r
              · exact Or.inr q
              · exact Or.inl ⟨z.1, ⟨z.2.1.1, by have := z.2.1.2; omega⟩, z.2.2⟩⟩) (z5) (lk1_n (lk1_n (lk1_n l0 (by decide) (Or.inl rfl)) (by decide) (Or.inl rfl)) (by decide) (Or.inl rfl)) (lk1_n (lk1_n (lk1_n l1 (by decide) (Or.inl rfl)) (by decide) (Or.inl rfl)) (by decide) (Or.inl rfl)) (lk1_n (lk1_n (lk1_n l2 (by decide) (Or.inl rfl)) (by decide) (Or.inl rfl)) (by decide) (Or.inl rfl)) (lk1_n lk1_s (by decide) (Or.inl rfl)) (lk1_n (lk1_n (lk1_n l4 (by decide) (Or.inl rfl)) (by decide) (Or.inl rfl)) (by decide) (Or.inl rfl)) (lk1_n (lk1_n (lk1_n l5 (by decide) (Or.inl rfl)) (by decide) (Or.inl rfl)) (by decide) (Or.inl rfl)) lk1_s (hG5) (hF5)
    have loopK : ∀ (mz : Nat) (s k : Int) (h4 : aH) (ls : List (Nat × Value)), ((t - k).toNat = mz) → (t ≤ (faF (gi h 175) (gi h 178 0) (gi h 171 6).toNat)) → ((0 ≤ k ∧ t - 12 ≤ k) ∧ k ≤ t) → (s = (wdO (gi h 178 0) (gi h 178 4) (dlA h) t k.toNat (mvL (wyF (wl (RC h 178 0)) ((gi h 178 0) + t)) (lbF (wl (RC h 178 0)) (gi h 178 0) (gi h 178 4) (dlA h) (gi h 178 1) (t - 1).toNat)))) → (gi h4 171 0 = 0) → lk ls 0 = some (.ref 171) → lk ls 1 = some (.int (I (faF (gi h 175) (gi h 178 0) (gi h 171 6).toNat))) → lk ls 2 = some (.int (I (psF (fun j => gi h 175 j - (gi h 178 0)) (gi h 171 6).toNat))) → lk ls 3 = some (.int (I b)) → lk ls 4 = some (.int (I s)) → lk ls 5 = some (.int (I t)) → lk ls 6 = some (.int (I k)) → GD gE gRL sh h4 → FRM gRL [(0, 54, 0, 0), (0, 54, 1, 1), (0, 67, 0, 79), (0, 68, 0, 3), (1, 55, 0, 39)] h h4 → K 131 ls [] h4 0 0 := by
      intro mz
      induction mz using Nat.strongRecOn with
      | ind mz ih =>
      intro s k h4 ls hm t1 k0 ss2 z4 l0 l1 l2 l3 l4 l5 l6 hG4 hF4
      have nm := NE_mvL (wyF (wl (RC h 178 0)) ((gi h 178 0) + t)) _ (fun q hq => (wyF_v ho q hq).2) ne
      have nk := NE_wdO (now := (gi h 178 0)) (last := (gi h 178 4)) (dl := dlA h) (t := t) nm k.toNat
      rw [← ss2] at nk
      have nk1 := nk.1
      have nk2 := nk.2
      refine x_iload 133 hK rfl rfl l6 ?_
      refine x_iload 135 hK rfl rfl l5 ?_
      refine x_if_icmp_ge 177 138 hK rfl rfl rfl (by omega) (by omega) (fun c3 => ?_) (fun c3 => ?_)
      · refine x_iconst 178 hK rfl rfl ?_
        refine x_istore 180 hK rfl rfl _ rfl ?_
        have es : s = (lbF (wl (RC h 178 0)) (gi h 178 0) (gi h 178 4) (dlA h) (gi h 178 1) t.toNat) := by
          rw [ss2, lt, show k.toNat = t.toNat by omega]
        subst es
        exact loopR _ b 0 _ _ rfl (t1) (by omega) (rb) (cb) (z4) (lk1_n l0 (by decide) (Or.inl rfl)) (lk1_n l1 (by decide) (Or.inl rfl)) (lk1_n l2 (by decide) (Or.inl rfl)) (lk1_n l3 (by decide) (Or.inl rfl)) (lk1_n l4 (by decide) (Or.inl rfl)) (lk1_n l5 (by decide) (Or.inl rfl)) lk1_s (hG4) (hF4)
      · refine x_iload 140 hK rfl rfl l4 ?_
        refine x_aload_n 141 hK rfl rfl l0 ?_
        refine x_iload 143 hK rfl rfl l6 ?_
        refine x_iload 145 hK rfl rfl l5 ?_
        have hXc : XI h4 := (xOk_ok rfl _ h4 hF4 hX)
        refine x_callV 148 hK hmono rfl rfl [.ref 171, .int (I k), .int (I t)] [.int (I s)] rfl rfl (Nat.le_of_ble_eq_true rfl) (Nat.le_of_ble_eq_true rfl) rfl (sp_171 (h := h4) hG4) (CLd_le (Nat.le_of_ble_eq_true rfl) (ctX11_comesAtF hSP hG4 hXc (by omega) (by omega) (by rw [show gi h4 178 0 = gi h 178 0 from FRM_gi hF4 (r := 61) rfl rfl]; exact h0))) ?_
        rw [show gi h4 178 0 = gi h 178 0 from FRM_gi hF4 (r := 61) rfl rfl, show gi h4 178 4 = gi h 178 4 from FRM_gi hF4 (r := 61) rfl rfl, show dlA h4 = dlA h from funext fun s => dlA_F hF4 rfl s]
        rintro v713 h713 ⟨rfl, hG713, hF713⟩
        have cb713 := b2i_r (cmF (gi h 178 0) (gi h 178 4) (dlA h) k t)
        refine x_if_eq 167 151 hK rfl rfl rfl (by omega) (fun c12 => ?_) (fun c12 => ?_)
        · refine x_iconst 168 hK rfl rfl ?_
          have g714 := bOr_r s 0
          refine x_iorF 169 hK rfl rfl ?_
          refine x_istore 171 hK rfl rfl _ rfl ?_
          refine x_iinc 174 hK rfl rfl (lk1_n l6 (by decide) (Or.inl rfl)) _ rfl ?_
          refine x_goto 131 hK rfl rfl ?_
          have cm : cmF (gi h 178 0) (gi h 178 4) (dlA h) k t = false := b2i_0 (by omega)
          exact ih _ (by omega) (bOr s 0) (k + 1) _ _ rfl (t1) (by omega) (by rw [or0 (by omega), wdO_s k0.1.1, cm, if_neg Bool.noConfusion, ← ss2]) ((FRM_gi hF713 (r := 54) rfl rfl).trans (z4)) (lk1_n (lk1_n l0 (by decide) (Or.inl rfl)) (by decide) (Or.inl rfl)) (lk1_n (lk1_n l1 (by decide) (Or.inl rfl)) (by decide) (Or.inl rfl)) (lk1_n (lk1_n l2 (by decide) (Or.inl rfl)) (by decide) (Or.inl rfl)) (lk1_n (lk1_n l3 (by decide) (Or.inl rfl)) (by decide) (Or.inl rfl)) (lk1_n lk1_s (by decide) (Or.inl rfl)) (lk1_n (lk1_n l5 (by decide) (Or.inl rfl)) (by decide) (Or.inl rfl)) lk1_s (hG713) ((hF4).trans ((hF713).mono rfl))
        · refine x_iload 153 hK rfl rfl l4 ?_
          refine x_iconst 154 hK rfl rfl ?_
          refine x_callS 157 hK hmono rfl (Or.inl rfl) rfl [.int (I s), .int (I (-1))] [.int (I s)] rfl rfl (Nat.le_of_ble_eq_true rfl) (Nat.le_of_ble_eq_true rfl) (CLd_le (Nat.le_of_ble_eq_true rfl) (ctX11_movedF hSP (s := s) (v := (-1)) (by omega) (by omega))) ?_
          rintro v9 h9 ⟨e9, rfl⟩
          rw [e9]
          clear e9
          refine x_iload 159 hK rfl rfl l4 ?_
          refine x_iconst 160 hK rfl rfl ?_
          refine x_callS 163 hK hmono rfl (Or.inl rfl) rfl [.int (I s), .int (I 1)] [.int (I (mvB (-1) s)), .int (I s)] rfl rfl (Nat.le_of_ble_eq_true rfl) (Nat.le_of_ble_eq_true rfl) (CLd_le (Nat.le_of_ble_eq_true rfl) (ctX11_movedF hSP (s := s) (v := 1) (by omega) (by omega))) ?_
          rintro v9 h9 ⟨e9, rfl⟩
          rw [e9]
          clear e9
          have g715 := bOr_r (mvB (-1) s) (mvB 1 s)
          refine x_iorF 164 hK rfl rfl ?_
          refine x_goto 168 hK rfl rfl ?_
          have g716 := bOr_r s (bOr (mvB (-1) s) (mvB 1 s))
          refine x_iorF 169 hK rfl rfl ?_
          refine x_istore 171 hK rfl rfl _ rfl ?_
          refine x_iinc 174 hK rfl rfl (lk1_n l6 (by decide) (Or.inl rfl)) _ rfl ?_
          refine x_goto 131 hK rfl rfl ?_
          have cm : cmF (gi h 178 0) (gi h 178 4) (dlA h) k t = true := b2i_1 (by omega)
          exact ih _ (by omega) (bOr s (bOr (mvB (-1) s) (mvB 1 s))) (k + 1) _ _ rfl (t1) (by omega) (by rw [wd_mv (by omega), wdO_s k0.1.1, if_pos cm, ← ss2]) ((FRM_gi hF713 (r := 54) rfl rfl).trans (z4)) (lk1_n (lk1_n l0 (by decide) (Or.inl rfl)) (by decide) (Or.inl rfl)) (lk1_n (lk1_n l1 (by decide) (Or.inl rfl)) (by decide) (Or.inl rfl)) (lk1_n (lk1_n l2 (by decide) (Or.inl rfl)) (by decide) (Or.inl rfl)) (lk1_n (lk1_n l3 (by decide) (Or.inl rfl)) (by decide) (Or.inl rfl)) (lk1_n lk1_s (by decide) (Or.inl rfl)) (lk1_n (lk1_n l5 (by decide) (Or.inl rfl)) (by decide) (Or.inl rfl)) lk1_s (hG713) ((hF4).trans ((hF713).mono rfl))
    refine x_iload 106 hK rfl rfl l5 ?_
    refine x_iload_n 107 hK rfl rfl l1 ?_
    refine x_if_icmp_gt 260 110 hK rfl rfl rfl (by omega) (by omega) (fun c3 => ?_) (fun c3 => ?_)
    · refine x_aload_n 261 hK rfl rfl l0 ?_
      refine x_iconst 262 hK rfl rfl ?_
      refine x_putI 265 hK rfl rfl (sp_171 (h := h3) hG3) ?_
      refine x_aload_n 266 hK rfl rfl l0 ?_
      refine x_iload_n 267 hK rfl rfl l2 ?_
      refine x_iload_n 268 hK rfl rfl l3 ?_
      refine x_iconst 269 hK rfl rfl ?_
      have g717 := bXor_r b (-1)
      refine x_ixorF 270 hK rfl rfl ?_
      have g718 := bAnd_r (psF (fun j => gi h 175 j - (gi h 178 0)) (gi h 171 6).toNat) (bXor b (-1))
      refine x_iandF 271 hK rfl rfl ?_
      refine x_i2l 272 hK rfl rfl (by omega) ?_
      have hGp719 : GD gE gRL sh (wI h3 171 1 0) := GD_w1 (hG3) (r := 54) rfl (by omega) rfl (by omega) (by omega)
      have z721 : gi (wI h3 171 1 0) 171 1 = 0 := gi_same (by omega)
      have z721r : mrow (wI h3 171 1 0) = [] := mrow_0 (gi_same (by omega))
      refine x_callV 275 hK hmono rfl rfl [.ref 171, .long (J (bAnd (psF (fun j => gi h 175 j - (gi h 178 0)) (gi h 171 6).toNat) (bXor b (-1))))] [] rfl rfl (Nat.le_of_ble_eq_true rfl) (Nat.le_of_ble_eq_true rfl) rfl (sp_171 (h := h3) hG3) (CLd_le (Nat.le_of_ble_eq_true rfl) (ctX11_entersF hSP hGp719 (by omega) (by omega))) ?_
      rintro v720 h720 ⟨rfl, hG720, hF720, t720, s720⟩
      rw [z721] at t720
      rw [z721r] at s720
      replace t720 : gi h720 171 1 = 1 := t720
      change mrow h720 = [(bAnd (psF (fun j => gi h 175 j - (gi h 178 0)) (gi h 171 6).toNat) (bXor b (-1)))] at s720
      refine x_iload_n 276 hK rfl rfl l3 ?_
      have qe : GBS b (clQ (gi h 175) (gi h 176) (gi h 178 0) (fun a => (lbF (wl (RC h 178 0)) (gi h 178 0) (gi h 178 4) (dlA h) (gi h 178 1) a.toNat)) (gi h 171 6)) := GBS_c cb fun j _ => ⟨fun z => ⟨z.1, z.2.1.1, z.2.2⟩, fun z => ⟨z.1, ⟨z.2.1, by have y := faF_le (m := gi h 175) (now := (gi h 178 0)) (gi h 171 6).toNat j (by have := z.1; omega); have := z.2.1; omega⟩, z.2.2⟩⟩
      have pa : GBS (psF (fun j => gi h 175 j - (gi h 178 0)) (gi h 171 6).toNat) (fun j => j < (gi h 171 6).toNat ∧ 0 < gi h 175 j - (gi h 178 0)) := psF_g (g := fun j => gi h 175 j - (gi h 178 0)) (gi h 171 6).toNat (by omega)
      have qn : GBS (bAnd (psF (fun j => gi h 175 j - (gi h 178 0)) (gi h 171 6).toNat) (bXor b (-1))) (clN (gi h 175) (gi h 176) (gi h 178 0) (fun a => (lbF (wl (RC h 178 0)) (gi h 178 0) (gi h 178 4) (dlA h) (gi h 178 1) a.toNat)) (gi h 171 6)) := GBS_c (GBS_an pa qe) fun j _ => ⟨fun z => ⟨by have := z.1.1; omega, by have := z.1.2; omega, fun y => z.2 ⟨by have := z.1.1; omega, by have := z.1.2; omega, y⟩⟩, fun z => ⟨⟨by have := z.1; omega, by have := z.2.1; omega⟩, fun y => z.2.2 y.2.2⟩⟩
      exact x_iret hK rfl ⟨⟨b, _, rfl, s720, rb, bAnd_r _ _, qe, qn⟩, hG720, (FRM_w (hF3) (r := 54) rfl rfl).trans ((hF720).mono rfl), (FRM_gi hF720 (r := 54) rfl rfl).trans ((gi_k (by decide) _).trans (z3))⟩
    · refine x_aload_n 111 hK rfl rfl l0 ?_
      refine x_iload 113 hK rfl rfl l4 ?_
      refine x_iload 115 hK rfl rfl l5 ?_
      refine x_callV 118 hK hmono rfl rfl [.ref 171, .int (I s), .int (I t)] [] rfl rfl (Nat.le_of_ble_eq_true rfl) (Nat.le_of_ble_eq_true rfl) rfl (sp_171 (h := h3) hG3) (CLd_le (Nat.le_of_ble_eq_true rfl) (ctX11_movedByDueF hSP hG3 (s := s) (t := t) (by rw [ss]; exact ne) (by omega) (by rw [show gi h3 178 0 = gi h 178 0 from FRM_gi hF3 (r := 61) rfl rfl]; exact h0))) ?_
      rw [show gi h3 178 0 = gi h 178 0 from FRM_gi hF3 (r := 61) rfl rfl, show RC h3 178 0 = RC h 178 0 from RC_F hF3 (r := 61) rfl (by decide) 0, ss]
      rintro v9 h9 ⟨e9, rfl⟩
      rw [e9]
      clear e9
      refine x_istore 120 hK rfl rfl _ rfl ?_
      refine x_iconst 121 hK rfl rfl ?_
      refine x_iload 123 hK rfl rfl (lk1_n l5 (by decide) (Or.inl rfl)) ?_
      refine x_bipush 125 hK rfl rfl rfl ?_
      refine x_isub 126 hK rfl rfl ?_
      refine x_max 129 hK rfl rfl (Nat.le_of_ble_eq_true rfl) (by omega) (by omega) ?_
      refine x_istore 131 hK rfl rfl _ rfl ?_
      exact loopK _ (mvL (wyF (wl (RC h 178 0)) ((gi h 178 0) + t)) (lbF (wl (RC h 178 0)) (gi h 178 0) (gi h 178 4) (dlA h) (gi h 178 1) (t - 1).toNat)) (max 0 (t - 12)) _ _ rfl (by omega) (by omega) ((wdO_lo (now := (gi h 178 0)) (last := (gi h 178 4)) (dl := dlA h) db (t := t) (s := (mvL (wyF (wl (RC h 178 0)) ((gi h 178 0) + t)) (lbF (wl (RC h 178 0)) (gi h 178 0) (gi h 178 4) (dlA h) (gi h 178 1) (t - 1).toNat))) (max 0 (t - 12)).toNat (by omega)).symm) (z3) (lk1_n (lk1_n l0 (by decide) (Or.inl rfl)) (by decide) (Or.inl rfl)) (lk1_n (lk1_n l1 (by decide) (Or.inl rfl)) (by decide) (Or.inl rfl)) (lk1_n (lk1_n l2 (by decide) (Or.inl rfl)) (by decide) (Or.inl rfl)) (lk1_n (lk1_n l3 (by decide) (Or.inl rfl)) (by decide) (Or.inl rfl)) (lk1_n lk1_s (by decide) (Or.inl rfl)) (lk1_n (lk1_n l5 (by decide) (Or.inl rfl)) (by decide) (Or.inl rfl)) lk1_s (hG3) (hF3)
  have loopA : ∀ (mz : Nat) (f a r : Int) (h2 : aH) (ls : List (Nat × Value)), (((gi h 171 6) - r).toNat = mz) → (0 ≤ r ∧ r ≤ (gi h 171 6)) → (0 ≤ f ∧ f ≤ 999) → (r32 a) → (f = faF (gi h 175) (gi h 178 0) r.toNat) → (a = psF (fun j => gi h 175 j - (gi h 178 0)) r.toNat) → (gi h2 171 0 = 0) → lk ls 0 = some (.ref 171) → lk ls 1 = some (.int (I f)) → lk ls 2 = some (.int (I a)) → lk ls 3 = some (.int (I r)) → GD gE gRL sh h2 → FRM gRL [(0, 54, 0, 0), (0, 54, 1, 1), (0, 67, 0, 79), (0, 68, 0, 3), (1, 55, 0, 39)] h h2 → K 11 ls [] h2 0 0 := by
    intro mz
    induction mz using Nat.strongRecOn with
    | ind mz ih =>
    intro f a r h2 ls hm r0 fb ra ff aa z2 l0 l1 l2 l3 hG2 hF2
    have gmr := fun z : r < (gi h 171 6) => gm r.toNat (by omega)
    refine x_iload_n 12 hK rfl rfl l3 ?_
    refine x_aload_n 13 hK rfl rfl l0 ?_
    have g722 := gri (0) (16) hG (a := 171) (r := 54) (k := 6) rfl rfl
    refine x_getE 16 hK rfl (Or.inl rfl) rfl (sp_171 (h := h2) hG2) (e := (gi h 171 6)) (FRM_gi hF2 (r := 54) rfl rfl) ?_
    refine x_if_icmp_ge 89 19 hK rfl rfl rfl (by omega) (by omega) (fun c4 => ?_) (fun c4 => ?_)
    · refine x_iconst 90 hK rfl rfl ?_
      refine x_istore_n 91 hK rfl rfl _ rfl ?_
      refine x_iconst 92 hK rfl rfl ?_
      refine x_aload_n 93 hK rfl rfl (lk1_n l0 (by decide) (Or.inl rfl)) ?_
      refine x_getR 96 hK rfl rfl (sp_171 (h := h2) hG2) (rf_171_14 (h := h2) hG2) ?_
      refine x_iconst 97 hK rfl rfl ?_
      have g723 := gri (0) (8) hG (a := 178) (r := 61) (k := 1) rfl rfl
      refine x_ialoadE 98 hK rfl rfl (sp_178 (h := h2) hG2) (by omega) (by omega) (by omega) (e' := (gi h 178 1)) (FRM_gi hF2 (r := 61) rfl rfl) ?_
      have g724 := bShl_r 1 (gi h 178 1)
      refine x_ishlF 99 hK rfl rfl ?_
      refine x_istore 101 hK rfl rfl _ rfl ?_
      refine x_iconst 102 hK rfl rfl ?_
      refine x_istore 104 hK rfl rfl _ rfl ?_
      have ef : f = (faF (gi h 175) (gi h 178 0) (gi h 171 6).toNat) := by rw [ff, show r.toNat = (gi h 171 6).toNat by omega]
      have ea : a = (psF (fun j => gi h 175 j - (gi h 178 0)) (gi h 171 6).toNat) := by rw [aa, show r.toNat = (gi h 171 6).toNat by omega]
      subst ef
      subst ea
      exact loopT _ 0 (bShl 1 (gi h 178 1)) 1 _ _ rfl (by omega) (rfl) (by omega) (GBS_c GBS_0 fun j _ => ⟨False.elim, fun y => by have := y.2.1; omega⟩) (z2) (lk1_n (lk1_n (lk1_n l0 (by decide) (Or.inl rfl)) (by decide) (Or.inl rfl)) (by decide) (Or.inl rfl)) (lk1_n (lk1_n (lk1_n l1 (by decide) (Or.inl rfl)) (by decide) (Or.inl rfl)) (by decide) (Or.inl rfl)) (lk1_n (lk1_n (lk1_n l2 (by decide) (Or.inl rfl)) (by decide) (Or.inl rfl)) (by decide) (Or.inl rfl)) (lk1_n (lk1_n lk1_s (by decide) (Or.inl rfl)) (by decide) (Or.inl rfl)) (lk1_n lk1_s (by decide) (Or.inl rfl)) lk1_s (hG2) (hF2)
    · refine x_aload_n 20 hK rfl rfl l0 ?_
      refine x_getR 23 hK rfl rfl (sp_171 (h := h2) hG2) (rf_171_11 (h := h2) hG2) ?_
      refine x_iload_n 24 hK rfl rfl l3 ?_
      have gm2 := gmr (by omega)
      have g725 := grn (0) (999) hG (a := 175) (r := 58) (k := r.toNat) rfl rfl (by omega)
      refine x_ialoadE 25 hK rfl rfl (sp_175 (h := h2) hG2) (by omega) (by omega) (by omega) (e' := (gi h 175 r.toNat)) (FRM_gi hF2 (r := 58) rfl rfl) ?_
      refine x_aload_n 26 hK rfl rfl l0 ?_
      refine x_getR 29 hK rfl rfl (sp_171 (h := h2) hG2) (rf_171_14 (h := h2) hG2) ?_
      refine x_iconst 30 hK rfl rfl ?_
      have g726 := gi_r h 178 0
      refine x_ialoadE 31 hK rfl rfl (sp_178 (h := h2) hG2) (by omega) (by omega) (by omega) (e' := (gi h 178 0)) (FRM_gi hF2 (r := 61) rfl rfl) ?_
      refine x_if_icmp_le 38 34 hK rfl rfl rfl (by omega) (by omega) (fun c26 => ?_) (fun c26 => ?_)
      · refine x_iconst 39 hK rfl rfl ?_
        refine x_istore 41 hK rfl rfl _ rfl ?_
        refine x_iload 43 hK rfl rfl lk1_s ?_
        refine x_if_eq 66 46 hK rfl rfl rfl (by omega) (fun _ => ?_) (fun c => by omega)
        refine x_iload_n 67 hK rfl rfl (lk1_n l1 (by decide) (Or.inl rfl)) ?_
        refine x_istore_n 68 hK rfl rfl _ rfl ?_
        refine x_iload_n 69 hK rfl rfl (lk1_n (lk1_n l2 (by decide) (Or.inl rfl)) (by decide) (Or.inl rfl)) ?_
        refine x_iload 71 hK rfl rfl (lk1_n lk1_s (by decide) (Or.inl rfl)) ?_
        refine x_if_eq 80 74 hK rfl rfl rfl (by omega) (fun _ => ?_) (fun c => by omega)
        refine x_iconst 81 hK rfl rfl ?_
        have g727 := bOr_r a 0
        refine x_iorF 82 hK rfl rfl ?_
        refine x_istore_n 83 hK rfl rfl _ rfl ?_
        refine x_iinc 86 hK rfl rfl (lk1_n (lk1_n (lk1_n l3 (by decide) (Or.inl rfl)) (by decide) (Or.inl rfl)) (by decide) (Or.inl rfl)) _ rfl ?_
        refine x_goto 11 hK rfl rfl ?_
        exact ih _ (by omega) f (bOr a 0) (r + 1) _ _ rfl (by omega) (by omega) (bOr_r _ _) (by rw [faF_s r0.1, if_neg (by omega), ← ff]) (by rw [psF_s r0.1, if_neg (show ¬ 0 < gi h 175 r.toNat - (gi h 178 0) by omega), ← aa]) (z2) (lk1_n (lk1_n (lk1_n (lk1_n l0 (by decide) (Or.inl rfl)) (by decide) (Or.inl rfl)) (by decide) (Or.inl rfl)) (by decide) (Or.inl rfl)) (lk1_n (lk1_n lk1_s (by decide) (Or.inl rfl)) (by decide) (Or.inl rfl)) (lk1_n lk1_s (by decide) (Or.inl rfl)) lk1_s (hG2) (hF2)
      · refine x_iconst 35 hK rfl rfl ?_
        refine x_goto 39 hK rfl rfl ?_
        refine x_istore 41 hK rfl rfl _ rfl ?_
        refine x_iload 43 hK rfl rfl lk1_s ?_
        refine x_if_eq 66 46 hK rfl rfl rfl (by omega) (fun c => by omega) (fun _ => ?_)
        refine x_iload_n 47 hK rfl rfl (lk1_n l1 (by decide) (Or.inl rfl)) ?_
        refine x_aload_n 48 hK rfl rfl (lk1_n l0 (by decide) (Or.inl rfl)) ?_
        refine x_getR 51 hK rfl rfl (sp_171 (h := h2) hG2) (rf_171_11 (h := h2) hG2) ?_
        refine x_iload_n 52 hK rfl rfl (lk1_n l3 (by decide) (Or.inl rfl)) ?_
        refine x_ialoadE 53 hK rfl rfl (sp_175 (h := h2) hG2) (by omega) (by omega) (by omega) (e' := (gi h 175 r.toNat)) (FRM_gi hF2 (r := 58) rfl rfl) ?_
        refine x_aload_n 54 hK rfl rfl (lk1_n l0 (by decide) (Or.inl rfl)) ?_
        refine x_getR 57 hK rfl rfl (sp_171 (h := h2) hG2) (rf_171_14 (h := h2) hG2) ?_
        refine x_iconst 58 hK rfl rfl ?_
        refine x_ialoadE 59 hK rfl rfl (sp_178 (h := h2) hG2) (by omega) (by omega) (by omega) (e' := (gi h 178 0)) (FRM_gi hF2 (r := 61) rfl rfl) ?_
        refine x_isub 60 hK rfl rfl ?_
        refine x_max 63 hK rfl rfl (Nat.le_of_ble_eq_true rfl) (by omega) (by omega) ?_
        refine x_goto 67 hK rfl rfl ?_
        refine x_istore_n 68 hK rfl rfl _ rfl ?_
        refine x_iload_n 69 hK rfl rfl (lk1_n (lk1_n l2 (by decide) (Or.inl rfl)) (by decide) (Or.inl rfl)) ?_
        refine x_iload 71 hK rfl rfl (lk1_n lk1_s (by decide) (Or.inl rfl)) ?_
        refine x_if_eq 80 74 hK rfl rfl rfl (by omega) (fun c => by omega) (fun _ => ?_)
        refine x_iconst 75 hK rfl rfl ?_
        refine x_iload_n 76 hK rfl rfl (lk1_n (lk1_n l3 (by decide) (Or.inl rfl)) (by decide) (Or.inl rfl)) ?_
        have g728 := bShl_r 1 r
        refine x_ishlF 77 hK rfl rfl ?_
        refine x_goto 81 hK rfl rfl ?_
        have g729 := bOr_r a (bShl 1 r)
        refine x_iorF 82 hK rfl rfl ?_
        refine x_istore_n 83 hK rfl rfl _ rfl ?_
        refine x_iinc 86 hK rfl rfl (lk1_n (lk1_n (lk1_n l3 (by decide) (Or.inl rfl)) (by decide) (Or.inl rfl)) (by decide) (Or.inl rfl)) _ rfl ?_
        refine x_goto 11 hK rfl rfl ?_
        exact ih _ (by omega) (max f ((gi h 175 r.toNat) - (gi h 178 0))) (bOr a (bShl 1 r)) (r + 1) _ _ rfl (by omega) (by omega) (bOr_r _ _) (by rw [faF_s r0.1, if_pos (by omega), ← ff]) (by rw [psF_s r0.1, if_pos (show 0 < gi h 175 r.toNat - (gi h 178 0) by omega), ← aa]) (z2) (lk1_n (lk1_n (lk1_n (lk1_n l0 (by decide) (Or.inl rfl)) (by decide) (Or.inl rfl)) (by decide) (Or.inl rfl)) (by decide) (Or.inl rfl)) (lk1_n (lk1_n lk1_s (by decide) (Or.inl rfl)) (by decide) (Or.inl rfl)) (lk1_n lk1_s (by decide) (Or.inl rfl)) lk1_s (hG2) (hF2)
  refine x_aload_n 1 hK rfl rfl rfl ?_
  refine x_iconst 2 hK rfl rfl ?_
  refine x_putI 5 hK rfl rfl (sp_171 (h := h) hG) ?_
  refine x_iconst 6 hK rfl rfl ?_
  refine x_istore_n 7 hK rfl rfl [(1, .int (I 0)), (0, .ref 171)] rfl ?_
  refine x_iconst 8 hK rfl rfl ?_
  refine x_istore_n 9 hK rfl rfl [(2, .int (I 0)), (1, .int (I 0)), (0, .ref 171)] rfl ?_
  refine x_iconst 10 hK rfl rfl ?_
  refine x_istore_n 11 hK rfl rfl [(3, .int (I 0)), (2, .int (I 0)), (1, .int (I 0)), (0, .ref 171)] rfl ?_
  exact loopA _ 0 0 0 _ _ rfl (by omega) (by omega) (by omega) (rfl) (rfl) (gi_same (by omega)) rfl rfl rfl rfl (GD_w1 (hG) (r := 54) rfl (by omega) rfl (by omega) (by omega)) (FRM_w ((FRM.rf : FRM gRL [(0, 54, 0, 0), (0, 54, 1, 1), (0, 67, 0, 79), (0, 68, 0, 3), (1, 55, 0, 39)] h h)) (r := 54) rfl rfl)
