/-! COSTS THAT COUNT WHAT IS CHOSEN -/
noncomputable def mvC (v : Int) (c : Nat → Int) : Nat → Int := fun l => if v = 1 then (if l = 0 then 1000 else if l = 8 then min (c 8) (c 7) else c (l - 1)) else if v = -1 then (if l = 8 then 1000 else if l = 0 then min (c 0) (c 1) else c (l + 1)) else c l
noncomputable def anC (c : Nat → Int) : Nat → Int := fun l => min (c l) (1 + min (if l = 0 then 1000 else c (l - 1)) (if l = 8 then 1000 else c (l + 1)))
theorem mvC_up {v : Int} {c : Nat → Int} (hv : v = 1) (l : Nat) : mvC v c l = if l = 0 then 1000 else if l = 8 then min (c 8) (c 7) else c (l - 1) := if_pos hv
theorem mvC_dn {v : Int} {c : Nat → Int} (hv : v = -1) (l : Nat) : mvC v c l = if l = 8 then 1000 else if l = 0 then min (c 0) (c 1) else c (l + 1) := (if_neg (by omega)).trans (if_pos hv)
theorem mvC_0 {v : Int} {c : Nat → Int} (hv : v = 0) (l : Nat) : mvC v c l = c l := (if_neg (by omega)).trans (if_neg (by omega))
theorem mvC_b {v : Int} {c : Nat → Int} (hc : ∀ l, l < 9 → 0 ≤ c l ∧ c l ≤ 2000) (hv : -1 ≤ v ∧ v ≤ 1) (l : Nat) (hl : l < 9) : 0 ≤ mvC v c l ∧ mvC v c l ≤ 2000 := by
  have c7 := hc 7 (by omega)
  have c8 := hc 8 (by omega)
  have c0 := hc 0 (by omega)
  have c1 := hc 1 (by omega)
  rcases (show v = 1 ∨ v = -1 ∨ v = 0 by omega) with e | e | e
  · rw [mvC_up e]
    by_cases a : l = 0
    · rw [if_pos a]; omega
    · rw [if_neg a]
      by_cases b : l = 8
      · rw [if_pos b]; omega
      · rw [if_neg b]; exact hc _ (by omega)
  · rw [mvC_dn e]
    by_cases a : l = 8
    · rw [if_pos a]; omega
    · rw [if_neg a]
      by_cases b : l = 0
      · rw [if_pos b]; omega
      · rw [if_neg b]; exact hc _ (by omega)
  · rw [mvC_0 e]; exact hc l hl
/-- c is u and K on top, where u is less than 1000 -/
noncomputable def RLC (B K : Int) (u c : Nat → Int) : Prop := 0 ≤ B ∧ 0 ≤ K ∧ ∀ l, l < 9 → 0 ≤ u l ∧ ((u l + K ≤ B ∧ c l = u l + K) ∨ (u l = 1000 ∧ 1000 ≤ c l ∧ c l ≤ 1000 + B))
theorem RLC_b {B K : Int} {u c : Nat → Int} (r : RLC B K u c) (hB : B ≤ 960) (l : Nat) (hl : l < 9) : 0 ≤ c l ∧ c l ≤ 2000 := by
  obtain ⟨h1, h2, h3⟩ := r
  have := h3 l hl
  omega
theorem RLC_cast {B K B' K' : Int} {u c : Nat → Int} (r : RLC B K u c) (hB : B ≤ B') (hK : K = K') : RLC B' K' u c := by
  obtain ⟨h1, h2, h3⟩ := r
  refine ⟨by omega, by omega, fun l hl => ?_⟩
  have := h3 l hl
  omega
theorem RLC_ext {B K : Int} {u c u' c' : Nat → Int} (r : RLC B K u c) (e : ∀ l, l < 9 → (c' l = c l ∧ u' l = u l) ∨ (u' l = 1000 ∧ c' l = 1000)) : RLC B K u' c' := by
  obtain ⟨h1, h2, h3⟩ := r
  refine ⟨h1, h2, fun l hl => ?_⟩
  have := h3 l hl
  have := e l hl
  omega
theorem RLC_mv {B K v : Int} {u c c' : Nat → Int} (r : RLC B K u c) (hB : B ≤ 960) (ru : rgV u) (hv : -1 ≤ v ∧ v ≤ 1) (hc : ∀ l, l < 9 → c' l = mvC v c l) : RLC B K (gbV v false u) c' := by
  obtain ⟨h1, h2, h3⟩ := r
  refine ⟨h1, h2, fun l hl => ?_⟩
  rw [hc l hl]
  rcases (show v = 1 ∨ v = -1 ∨ v = 0 by omega) with e | e | e
  · rw [mvC_up e, gb_upv ru l hl e]
    by_cases a : l = 0
    · rw [if_pos a, if_pos a]; omega
    · rw [if_neg a, if_neg a]
      by_cases b : l = 8
      · rw [if_pos b, if_pos b]
        have x := h3 8 (by omega)
        have y := h3 7 (by omega)
        omega
      · rw [if_neg b, if_neg b]; exact h3 _ (by omega)
  · rw [mvC_dn e, gb_dnv ru l hl e]
    by_cases a : l = 8
    · rw [if_pos a, if_pos a]; omega
    · rw [if_neg a, if_neg a]
      by_cases b : l = 0
      · rw [if_pos b, if_pos b]
        have x := h3 0 (by omega)
        have y := h3 1 (by omega)
        omega
      · rw [if_neg b, if_neg b]; exact h3 _ (by omega)
  · rw [mvC_0 e, e, gb_st ru l hl]; exact h3 l hl
theorem RLC_an {B K v : Int} {u c c' : Nat → Int} (r : RLC B K u c) (hB : B ≤ 960) (ru : rgV u) (hc : ∀ l, l < 9 → c' l = anC c l) : RLC (B + 1) K (gbV v true u) c' := by
  obtain ⟨h1, h2, h3⟩ := r
  refine ⟨by omega, h2, fun l hl => ?_⟩
  rw [hc l hl, gb_an ru l hl]
  show 0 ≤ min (u l) (1 + min (if l = 0 then 1000 else u (l - 1)) (if l = 8 then 1000 else u (l + 1))) ∧ ((min (u l) (1 + min (if l = 0 then 1000 else u (l - 1)) (if l = 8 then 1000 else u (l + 1))) + K ≤ B + 1 ∧ min (c l) (1 + min (if l = 0 then 1000 else c (l - 1)) (if l = 8 then 1000 else c (l + 1))) = min (u l) (1 + min (if l = 0 then 1000 else u (l - 1)) (if l = 8 then 1000 else u (l + 1))) + K) ∨ (min (u l) (1 + min (if l = 0 then 1000 else u (l - 1)) (if l = 8 then 1000 else u (l + 1))) = 1000 ∧ 1000 ≤ min (c l) (1 + min (if l = 0 then 1000 else c (l - 1)) (if l = 8 then 1000 else c (l + 1))) ∧ min (c l) (1 + min (if l = 0 then 1000 else c (l - 1)) (if l = 8 then 1000 else c (l + 1))) ≤ 1000 + (B + 1)))
  have x := h3 l hl
  by_cases a : l = 0
  · rw [if_pos a, if_pos a, if_neg (show ¬ l = 8 by omega), if_neg (show ¬ l = 8 by omega)]
    have y := h3 (l + 1) (by omega)
    omega
  · rw [if_neg a, if_neg a]
    have z := h3 (l - 1) (by omega)
    by_cases b : l = 8
    · rw [if_pos b, if_pos b]
      omega
    · rw [if_neg b, if_neg b]
      have y := h3 (l + 1) (by omega)
      omega
theorem RLC_inc {B K : Int} {u c c' : Nat → Int} (r : RLC B K u c) (hc : ∀ l, l < 9 → c' l = c l + 1) : RLC (B + 1) (K + 1) u c' := by
  obtain ⟨h1, h2, h3⟩ := r
  refine ⟨by omega, by omega, fun l hl => ?_⟩
  rw [hc l hl]
  have := h3 l hl
  omega
/-- how many orders are chosen that steer -/
noncomputable def nzL (ch : Int → Int) : List (Int × Int) → Int
  | [] => 0
  | q :: r => (if q.1 = 1 ∧ ch q.2 ≠ 0 ∧ ch q.2 ≠ 2 then 1 else 0) + nzL ch r
theorem nzL_b (ch : Int → Int) : ∀ A : List (Int × Int), 0 ≤ nzL ch A
  | [] => Int.le_refl 0
  | q :: r => by
    have ih := nzL_b ch r
    show 0 ≤ (if q.1 = 1 ∧ ch q.2 ≠ 0 ∧ ch q.2 ≠ 2 then 1 else 0) + nzL ch r
    split <;> omega
theorem nzL_app {ch : Int → Int} : ∀ {A B : List (Int × Int)}, nzL ch (A ++ B) = nzL ch A + nzL ch B
  | [], B => (Int.zero_add _).symm
  | q :: r, B => by
    have ih := nzL_app (ch := ch) (A := r) (B := B)
    show (if q.1 = 1 ∧ ch q.2 ≠ 0 ∧ ch q.2 ≠ 2 then 1 else 0) + nzL ch (r ++ B) = (if q.1 = 1 ∧ ch q.2 ≠ 0 ∧ ch q.2 ≠ 2 then 1 else 0) + nzL ch r + nzL ch B
    omega
theorem nzL_ch {ch ch' : Int → Int} : ∀ (A : List (Int × Int)), (∀ q ∈ A, q.1 = 1 → ch q.2 = ch' q.2) → nzL ch A = nzL ch' A
  | [], _ => rfl
  | q :: r, h => by
    have ih := nzL_ch r fun q hq => h q (List.mem_cons_of_mem _ hq)
    show (if q.1 = 1 ∧ ch q.2 ≠ 0 ∧ ch q.2 ≠ 2 then 1 else 0) + nzL ch r = (if q.1 = 1 ∧ ch' q.2 ≠ 0 ∧ ch' q.2 ≠ 2 then 1 else 0) + nzL ch' r
    by_cases c : q.1 = 1
    · rw [h q List.mem_cons_self c, ih]
    · rw [if_neg (fun z => c z.1), if_neg (fun z => c z.1), ih]
theorem nzL_0 {ch : Int → Int} : ∀ (A : List (Int × Int)), (∀ q ∈ A, q.1 ≠ 1) → nzL ch A = 0
  | [], _ => rfl
  | q :: r, h => by
    show (if q.1 = 1 ∧ ch q.2 ≠ 0 ∧ ch q.2 ≠ 2 then 1 else 0) + nzL ch r = 0
    rw [nzL_0 r fun q hq => h q (List.mem_cons_of_mem _ hq), if_neg (fun z => h q List.mem_cons_self z.1)]
    rfl
theorem nzL_1 {ch : Int → Int} {k : Int} : nzL ch [(1, k)] = if ch k ≠ 0 ∧ ch k ≠ 2 then 1 else 0 := by
  show (if (1 : Int) = 1 ∧ ch k ≠ 0 ∧ ch k ≠ 2 then 1 else 0) + 0 = if ch k ≠ 0 ∧ ch k ≠ 2 then 1 else 0
  by_cases c : ch k ≠ 0 ∧ ch k ≠ 2
  · rw [if_pos ⟨rfl, c⟩, if_pos c]; rfl
  · rw [if_neg (fun z => c z.2), if_neg c]; rfl
theorem nzL_up {ch : Int → Int} {k v : Int} {A B : List (Int × Int)} (hA : ∀ q ∈ A, q.1 = 1 → q.2 ≠ k) (hB : ∀ q ∈ B, q.1 = 1 → q.2 ≠ k) (hk : ch k = 2) : nzL (upC ch k v) (A ++ ((1, k) :: B)) = nzL ch (A ++ ((1, k) :: B)) + if v = 0 ∨ v = 2 then 0 else 1 := by
  have a := nzL_ch (ch := upC ch k v) (ch' := ch) A fun q hq h1 => if_neg (hA q hq h1)
  have b := nzL_ch (ch := upC ch k v) (ch' := ch) B fun q hq h1 => if_neg (hB q hq h1)
  rw [nzL_app, nzL_app, a]
  show nzL ch A + ((if (1 : Int) = 1 ∧ upC ch k v k ≠ 0 ∧ upC ch k v k ≠ 2 then 1 else 0) + nzL (upC ch k v) B) = nzL ch A + ((if (1 : Int) = 1 ∧ ch k ≠ 0 ∧ ch k ≠ 2 then 1 else 0) + nzL ch B) + if v = 0 ∨ v = 2 then 0 else 1
  rw [b, show upC ch k v k = v from if_pos rfl, hk, if_neg (show ¬ ((1 : Int) = 1 ∧ (2 : Int) ≠ 0 ∧ (2 : Int) ≠ 2) from fun z => z.2.2 rfl)]
  by_cases c : v = 0 ∨ v = 2
  · rw [if_pos c, if_neg (fun z => by have := z.2.1; have := z.2.2; omega)]; omega
  · rw [if_neg c, if_pos ⟨rfl, fun z => c (Or.inl z), fun z => c (Or.inr z)⟩]; omega
theorem RLC_10 {B K k l : Int} {cc : Int → Int} {hit : Int → Nat → Int} {u c : Nat → Int} (r : RLC B K u c) (ru : rgV u) (c2 : cc k = 0) : RLC (B + 1) (K + nzL cc [(1, k)]) (opF cc l hit (1, k) u) c := by
  rw [nzL_1, c2, if_neg (fun z => z.1 rfl), op_1, c2, show tvF l 0 = 0 from by unfold tvF; split <;> rfl]
  exact RLC_cast (RLC_ext r fun i hi => Or.inl ⟨rfl, gb_st ru i hi⟩) (by omega) (by omega)
theorem RLC_12 {B K k l : Int} {cc : Int → Int} {hit : Int → Nat → Int} {u c c' : Nat → Int} (r : RLC B K u c) (hB : B ≤ 960) (ru : rgV u) (c2 : cc k = 2) (hc : ∀ i, i < 9 → c' i = anC c i) : RLC (B + 1) (K + nzL cc [(1, k)]) (opF cc l hit (1, k) u) c' := by
  rw [nzL_1, c2, if_neg (fun z => z.2 rfl), op_1, c2, show decide ((2 : Int) = 2) = true from rfl]
  exact RLC_cast (RLC_an r hB ru hc) (by omega) (by omega)
theorem RLC_1v {B K k l : Int} {cc : Int → Int} {hit : Int → Nat → Int} {u c c' : Nat → Int} (r : RLC B K u c) (hB : B ≤ 960) (ru : rgV u) (c2 : cc k = -1 ∨ cc k = 1) (hc : ∀ i, i < 9 → c' i = mvC (tvF l (cc k)) c i + 1) : RLC (B + 1) (K + nzL cc [(1, k)]) (opF cc l hit (1, k) u) c' := by
  rw [nzL_1, if_pos ⟨by omega, by omega⟩, op_1, show decide (cc k = 2) = false from decide_eq_false (by omega)]
  exact RLC_inc (RLC_mv (c' := mvC (tvF l (cc k)) c) r hB ru (tvF_b (by omega)) fun i _ => rfl) hc
/-- the least of all -/
noncomputable def feN (K : Int) (u : Nat → Int) (i : Nat) : Int := if fwN u i < 1000 then fwN u i + K else 1000
theorem fw_B {B K : Int} {u c : Nat → Int} (r : RLC B K u c) (hB : B ≤ 960) : ∀ i : Nat, i ≤ 9 → 0 ≤ fwN u i ∧ (fwN u i + K ≤ B ∨ fwN u i = 1000)
  | 0, _ => by show (0 : Int) ≤ 1000 ∧ ((1000 : Int) + K ≤ B ∨ (1000 : Int) = 1000); omega
  | i + 1, h => by
    have ih := fw_B r hB i (by omega)
    have x := r.2.2 i (by omega)
    have y := r.2.1
    show 0 ≤ min (fwN u i) (u i) ∧ (min (fwN u i) (u i) + K ≤ B ∨ min (fwN u i) (u i) = 1000)
    omega
theorem feN_b {B K : Int} {u c : Nat → Int} (r : RLC B K u c) (hB : B ≤ 960) {i : Nat} (hi : i ≤ 9) : 0 ≤ feN K u i ∧ feN K u i ≤ 1000 := by
  have a := fw_B r hB i hi
  have b := r.2.1
  unfold feN
  split <;> omega
theorem few_s {B K : Int} {u c : Nat → Int} (r : RLC B K u c) (hB : B ≤ 960) {i : Nat} (hi : i < 9) : min (feN K u i) (c i) = feN K u (i + 1) := by
  have a := fw_B r hB i (by omega)
  have b := r.2.1
  have x := r.2.2 i hi
  show min (if fwN u i < 1000 then fwN u i + K else 1000) (c i) = if min (fwN u i) (u i) < 1000 then min (fwN u i) (u i) + K else 1000
  by_cases c1 : fwN u i < 1000
  · rw [if_pos c1, if_pos (by omega)]; omega
  · rw [if_neg c1]
    by_cases c2 : u i < 1000
    · rw [if_pos (by omega)]; omega
    · rw [if_neg (by omega)]; omega
noncomputable def XG (cc : Int → Int) (l : Int) (hit : Int → Nat → Int) (L : List (Int × Int × Int)) (now last : Int) (dl : Int → Int) (l0 : Int) (t : Nat) : Nat → Int := opsF cc l hit (opsT L now last dl t) (fun (g : Nat) => if (g : Int) = l0 then 0 else 1000)
theorem XG_r {cc : Int → Int} {l : Int} {hit : Int → Nat → Int} {L : List (Int × Int × Int)} {now last : Int} {dl : Int → Int} {l0 : Int} (t : Nat) : rgV (XG cc l hit L now last dl l0 t) := opsF_r _ _ u0_r
theorem XG_t {cc : Int → Int} {l : Int} {hit : Int → Nat → Int} {L : List (Int × Int × Int)} {now last : Int} {dl : Int → Int} {l0 t : Int} (ht : 1 ≤ t) : XG cc l hit L now last dl l0 t.toNat = opF cc l hit (2, t) (opsF cc l hit (blkC now last dl t t.toNat) (opsF cc l hit (wyF L (now + t)) (XG cc l hit L now last dl l0 (t - 1).toNat))) ∧ nzL cc (opsT L now last dl t.toNat) = nzL cc (opsT L now last dl (t - 1).toNat) + nzL cc (blkC now last dl t t.toNat) := by
  obtain ⟨k, hk⟩ : ∃ k : Nat, t = ((k + 1 : Nat) : Int) := ⟨(t - 1).toNat, by omega⟩
  subst hk
  rw [show (((k + 1 : Nat) : Int) - 1).toNat = k by omega, Int.toNat_natCast]
  unfold XG
  rw [show opsT L now last dl (k + 1) = opsT L now last dl k ++ blkT L now last dl (k + 1) from rfl, opsF_app]
  unfold blkT
  rw [opsF_app, opsF_s, nzL_app, nzL_app, nzL_app, nzL_0 (wyF L (now + ((k + 1 : Nat) : Int))) fun q hq z => by rw [wyF_1 hq] at z; exact absurd z (by decide)]
  refine ⟨rfl, ?_⟩
  rw [nzL_0 [((2 : Int), (((k + 1 : Nat) : Int)))] fun q hq z => by rw [List.mem_singleton.mp hq] at z; exact absurd (show (2 : Int) = 1 from z) (by decide)]
  omega
/-! PLANS -/
noncomputable def ppF (l : Int) (hit : Int → Nat → Int) (ops : List (Int × Int)) (l0 : Int) (vs : List Int) : Int := fwN (opsF (chL vs) l hit ops (fun (g : Nat) => if (g : Int) = l0 then 0 else 1000)) 9
noncomputable def pvF (P : List Int → Int) (now last : Int) (dl : Int → Int) (n left : Int) (vs : List Int) : Int := if (0 < ((vs.length : Nat) : Int) ∨ last ≠ now) ∧ ((vs.length : Nat) : Int) + dl (now + (vs.length : Nat)) ≤ n then (if P (vs ++ [-1]) + 1 = left then -1 else if P (vs ++ [0]) = left then 0 else 1) else 0
noncomputable def prF (P : List Int → Int) (now last : Int) (dl : Int → Int) (n : Int) : Nat → Int → List Int → List Int
  | 0, _, vs => vs
  | d + 1, left, vs => prF P now last dl n d (left - if pvF P now last dl n left vs = 0 then 0 else 1) (vs ++ [pvF P now last dl n left vs])
theorem plP_pp (h : aH) (n : Int) : plP h n = ppF (gi h 171 5) (fun t g => hitN (gi h 175) (gi h 176) ((gi h 178 0) + t) (g : Int) (gi h 171 6).toNat) (opsT (wl (RC h 178 0)) (gi h 178 0) (gi h 178 4) (dlA h) n.toNat) (gi h 178 1) := rfl
theorem plR_pr (h : aH) (n : Int) : ∀ (d : Nat) (left : Int) (vs : List Int), plR h n d left vs = prF (plP h n) (gi h 178 0) (gi h 178 4) (dlA h) n d left vs
  | 0, _, _ => rfl
  | d + 1, left, vs => plR_pr h n d _ _
theorem pp_r {l l0 n now last : Int} {hit : Int → Nat → Int} {L : List (Int × Int × Int)} {dl : Int → Int} (vs : List Int) : 0 ≤ ppF l hit (opsT L now last dl n.toNat) l0 vs ∧ ppF l hit (opsT L now last dl n.toNat) l0 vs ≤ 1000 := fwN_r (opsF_r _ _ u0_r) 9
theorem pp_any {l l0 n now last : Int} {hit : Int → Nat → Int} {L : List (Int × Int × Int)} {dl : Int → Int} {vs : List Int} (hd : ∀ s, 1 ≤ dl s ∧ dl s ≤ 12) (hn : 0 ≤ n) (hc : (0 < ((vs.length : Nat) : Int) ∨ last ≠ now) ∧ ((vs.length : Nat) : Int) + dl (now + ((vs.length : Nat) : Int)) ≤ n) : ppF l hit (opsT L now last dl n.toNat) l0 vs = min (min (min 1000 (ppF l hit (opsT L now last dl n.toNat) l0 (vs ++ [-1]) + 1)) (ppF l hit (opsT L now last dl n.toNat) l0 (vs ++ [0]))) (min 1000 (ppF l hit (opsT L now last dl n.toNat) l0 (vs ++ [1]) + 1)) := by
  obtain ⟨A, B, e, a, b⟩ := opsT_at (L := L) (now := now) (last := last) (dl := dl) (k := ((vs.length : Nat) : Int)) (by omega) (hd _).1 hc.1 n.toNat (by omega)
  unfold ppF
  rw [e, chL_s, chL_s, chL_s]
  exact one_ch u0_r a b (chL_k vs)
theorem pn_up {n now last : Int} {L : List (Int × Int × Int)} {dl : Int → Int} {vs : List Int} (hd : ∀ s, 1 ≤ dl s ∧ dl s ≤ 12) (hn : 0 ≤ n) (hc : (0 < ((vs.length : Nat) : Int) ∨ last ≠ now) ∧ ((vs.length : Nat) : Int) + dl (now + ((vs.length : Nat) : Int)) ≤ n) (v : Int) : nzL (chL (vs ++ [v])) (opsT L now last dl n.toNat) = nzL (chL vs) (opsT L now last dl n.toNat) + if v = 0 ∨ v = 2 then 0 else 1 := by
  obtain ⟨A, B, e, a, b⟩ := opsT_at (L := L) (now := now) (last := last) (dl := dl) (k := ((vs.length : Nat) : Int)) (by omega) (hd _).1 hc.1 n.toNat (by omega)
  rw [e, chL_s]
  exact nzL_up a b (chL_k vs)
theorem pp_not {l l0 n now last : Int} {hit : Int → Nat → Int} {L : List (Int × Int × Int)} {dl : Int → Int} {vs : List Int} (hn : 0 ≤ n) (v : Int) (hc : ¬ ((0 < ((vs.length : Nat) : Int) ∨ last ≠ now) ∧ ((vs.length : Nat) : Int) + dl (now + ((vs.length : Nat) : Int)) ≤ n)) : ppF l hit (opsT L now last dl n.toNat) l0 (vs ++ [v]) = ppF l hit (opsT L now last dl n.toNat) l0 vs ∧ nzL (chL (vs ++ [v])) (opsT L now last dl n.toNat) = nzL (chL vs) (opsT L now last dl n.toNat) := by
  have z : ∀ q ∈ (opsT L now last dl n.toNat), q.1 = 1 → upC (chL vs) (vs.length : Nat) v q.2 = chL vs q.2 := fun q hq h1 => if_neg fun z => hc (by
    have := opsT_1 n.toNat hq h1
    rw [z] at this
    exact ⟨this.1, by omega⟩)
  constructor
  · unfold ppF
    rw [chL_s, opsF_ch _ _ z]
  · rw [chL_s, nzL_ch _ z]
/-- what the least count tells of one that is tried -/
theorem pp_fe {l l0 n now last : Int} {hit : Int → Nat → Int} {L : List (Int × Int × Int)} {dl : Int → Int} {vs : List Int} (hd : ∀ s, 1 ≤ dl s ∧ dl s ≤ 12) (hn : 0 ≤ n) (hc : (0 < ((vs.length : Nat) : Int) ∨ last ≠ now) ∧ ((vs.length : Nat) : Int) + dl (now + ((vs.length : Nat) : Int)) ≤ n) {w sp : Int} (hw : w < 1000) (hs : nzL (chL vs) (opsT L now last dl n.toNat) = sp) (h0 : 0 ≤ sp) (v : Int) (hv : v = -1 ∨ v = 0) : feN (nzL (chL (vs ++ [v])) (opsT L now last dl n.toNat)) (opsF (chL (vs ++ [v])) l hit (opsT L now last dl n.toNat) (fun (g : Nat) => if (g : Int) = l0 then 0 else 1000)) 9 = w ↔ ppF l hit (opsT L now last dl n.toNat) l0 (vs ++ [v]) + (if v = 0 then 0 else 1) = w - sp := by
  rw [pn_up hd hn hc v, hs]
  have b := pp_r (l := l) (l0 := l0) (n := n) (now := now) (last := last) (hit := hit) (L := L) (dl := dl) (vs ++ [v])
  show (if ppF l hit (opsT L now last dl n.toNat) l0 (vs ++ [v]) < 1000 then ppF l hit (opsT L now last dl n.toNat) l0 (vs ++ [v]) + (sp + if v = 0 ∨ v = 2 then 0 else 1) else 1000) = w ↔ ppF l hit (opsT L now last dl n.toNat) l0 (vs ++ [v]) + (if v = 0 then 0 else 1) = w - sp
  generalize ppF l hit (opsT L now last dl n.toNat) l0 (vs ++ [v]) = p at b ⊢
  rcases hv with rfl | rfl
  · rw [if_neg (show ¬ ((-1 : Int) = 0 ∨ (-1 : Int) = 2) by omega), if_neg (show ¬ (-1 : Int) = 0 by omega)]
    by_cases c : p < 1000
    · rw [if_pos c]; omega
    · rw [if_neg c]; omega
  · rw [if_pos (show ((0 : Int) = 0 ∨ (0 : Int) = 2) by omega), if_pos rfl]
    by_cases c : p < 1000
    · rw [if_pos c]; omega
    · rw [if_neg c]; omega
theorem pv_ok {l l0 n now last : Int} {hit : Int → Nat → Int} {L : List (Int × Int × Int)} {dl : Int → Int} {vs : List Int} {left : Int} (hd : ∀ s, 1 ≤ dl s ∧ dl s ≤ 12) (hn : 0 ≤ n) (hl : ppF l hit (opsT L now last dl n.toNat) l0 vs = left) (h1 : left < 1000) : ppF l hit (opsT L now last dl n.toNat) l0 (vs ++ [pvF (ppF l hit (opsT L now last dl n.toNat) l0) now last dl n left vs]) = left - (if pvF (ppF l hit (opsT L now last dl n.toNat) l0) now last dl n left vs = 0 then 0 else 1) ∧ nzL (chL (vs ++ [pvF (ppF l hit (opsT L now last dl n.toNat) l0) now last dl n left vs])) (opsT L now last dl n.toNat) = nzL (chL vs) (opsT L now last dl n.toNat) + (if pvF (ppF l hit (opsT L now last dl n.toNat) l0) now last dl n left vs = 0 then 0 else 1) ∧ (-1 ≤ pvF (ppF l hit (opsT L now last dl n.toNat) l0) now last dl n left vs ∧ pvF (ppF l hit (opsT L now last dl n.toNat) l0) now last dl n left vs ≤ 1) ∧ (¬ ((0 < ((vs.length : Nat) : Int) ∨ last ≠ now) ∧ ((vs.length : Nat) : Int) + dl (now + ((vs.length : Nat) : Int)) ≤ n) → pvF (ppF l hit (opsT L now last dl n.toNat) l0) now last dl n left vs = 0) := by
  unfold pvF
  by_cases c : (0 < ((vs.length : Nat) : Int) ∨ last ≠ now) ∧ ((vs.length : Nat) : Int) + dl (now + ((vs.length : Nat) : Int)) ≤ n
  · rw [if_pos c]
    have e := pp_any (l := l) (l0 := l0) (hit := hit) (L := L) hd hn c
    have u := pn_up (L := L) hd hn c
    by_cases c1 : ppF l hit (opsT L now last dl n.toNat) l0 (vs ++ [-1]) + 1 = left
    · rw [if_pos c1, if_neg (by omega), u (-1), if_neg (by omega)]; exact ⟨by omega, rfl, by omega, fun z => absurd c z⟩
    · rw [if_neg c1]
      by_cases c2 : ppF l hit (opsT L now last dl n.toNat) l0 (vs ++ [0]) = left
      · rw [if_pos c2, if_pos rfl, u 0, if_pos (by omega)]; exact ⟨by omega, rfl, by omega, fun _ => rfl⟩
      · rw [if_neg c2, if_neg (by omega), u 1, if_neg (by omega)]; exact ⟨by omega, rfl, by omega, fun z => absurd c z⟩
  · rw [if_neg c, if_pos rfl]
    have z := pp_not (l := l) (l0 := l0) (hit := hit) (L := L) hn 0 c
    exact ⟨by omega, by rw [z.2]; exact (Int.add_zero _).symm, by omega, fun _ => rfl⟩
/-- none is left to steer: the rest keeps still -/
theorem pv_0 {l l0 n now last : Int} {hit : Int → Nat → Int} {L : List (Int × Int × Int)} {dl : Int → Int} {vs : List Int} (hd : ∀ s, 1 ≤ dl s ∧ dl s ≤ 12) (hn : 0 ≤ n) (hl : ppF l hit (opsT L now last dl n.toNat) l0 vs = 0) : pvF (ppF l hit (opsT L now last dl n.toNat) l0) now last dl n 0 vs = 0 := by
  unfold pvF
  by_cases c : (0 < ((vs.length : Nat) : Int) ∨ last ≠ now) ∧ ((vs.length : Nat) : Int) + dl (now + ((vs.length : Nat) : Int)) ≤ n
  · rw [if_pos c]
    have e := pp_any (l := l) (l0 := l0) (hit := hit) (L := L) hd hn c
    have b := pp_r (l := l) (l0 := l0) (n := n) (now := now) (last := last) (hit := hit) (L := L) (dl := dl) (vs ++ [-1])
    have b1 := pp_r (l := l) (l0 := l0) (n := n) (now := now) (last := last) (hit := hit) (L := L) (dl := dl) (vs ++ [1])
    have b0 := pp_r (l := l) (l0 := l0) (n := n) (now := now) (last := last) (hit := hit) (L := L) (dl := dl) (vs ++ [0])
    rw [if_neg (by omega), if_pos (by omega)]
  · rw [if_neg c]
/-- one that is tried: what the class answers -/
theorem pv_c {l l0 n now last : Int} {hit : Int → Nat → Int} {L : List (Int × Int × Int)} {dl : Int → Int} {vs : List Int} (hd : ∀ s, 1 ≤ dl s ∧ dl s ≤ 12) (hn : 0 ≤ n) (hc : (0 < ((vs.length : Nat) : Int) ∨ last ≠ now) ∧ ((vs.length : Nat) : Int) + dl (now + ((vs.length : Nat) : Int)) ≤ n) {w sp : Int} (hw : w < 1000) (hs : nzL (chL vs) (opsT L now last dl n.toNat) = sp) (h0 : 0 ≤ sp) {F : Int → Int} (hF : ∀ v, F v = feN (nzL (upC (chL vs) ((vs.length : Nat) : Int) v) (opsT L now last dl n.toNat)) (XG (upC (chL vs) ((vs.length : Nat) : Int) v) l hit L now last dl l0 n.toNat) 9) : (if F (-1) = w then (-1 : Int) else if F 0 = w then 0 else 1) = pvF (ppF l hit (opsT L now last dl n.toNat) l0) now last dl n (w - sp) vs := by
  have a := pp_fe (l := l) (l0 := l0) (hit := hit) hd hn hc hw hs h0 (-1) (Or.inl rfl)
  have b := pp_fe (l := l) (l0 := l0) (hit := hit) hd hn hc hw hs h0 0 (Or.inr rfl)
  rw [chL_s, if_neg (by omega)] at a
  rw [chL_s, if_pos rfl] at b
  have a' : F (-1) = w ↔ ppF l hit (opsT L now last dl n.toNat) l0 (vs ++ [-1]) + 1 = w - sp := by rw [hF]; exact a
  have b' : F 0 = w ↔ ppF l hit (opsT L now last dl n.toNat) l0 (vs ++ [0]) + 0 = w - sp := by rw [hF]; exact b
  unfold pvF
  rw [if_pos hc]
  by_cases c1 : F (-1) = w
  · rw [if_pos c1, if_pos (a'.mp c1)]
  · rw [if_neg c1, if_neg (fun z => c1 (a'.mpr z))]
    by_cases c2 : F 0 = w
    · rw [if_pos c2, if_pos (by have := b'.mp c2; omega)]
    · rw [if_neg c2, if_neg (fun z => c2 (b'.mpr (by omega)))]
/-- what stands when the first i are chosen -/
noncomputable def CHV (P nz : List Int → Int) (now last : Int) (dl : Int → Int) (n w f : Int) (d g : Nat → Int) (i sp : Int) (vs : List Int) : Prop := ((vs.length : Nat) : Int) = i ∧ (∀ j : Nat, (j : Int) < n → g j = if (j : Int) < i then vs.getD j 0 else if f ≤ (j : Int) ∧ d j ≤ n then 2 else 0) ∧ (∀ j : Nat, (j : Int) < i → (-1 ≤ vs.getD j 0 ∧ vs.getD j 0 ≤ 1) ∧ (¬ (f ≤ (j : Int) ∧ d j ≤ n) → vs.getD j 0 = 0)) ∧ nz vs = sp ∧ P vs = w - sp ∧ prF P now last dl n (n - i).toNat (w - sp) vs = prF P now last dl n n.toNat w []
theorem CHV_s {l l0 n now last : Int} {hit : Int → Nat → Int} {L : List (Int × Int × Int)} {dl : Int → Int} {vs : List Int} {w f i sp sp' x : Int} {d g g' : Nat → Int} (hd : ∀ s, 1 ≤ dl s ∧ dl s ≤ 12) (hn : 0 ≤ n) (c : CHV (ppF l hit (opsT L now last dl n.toNat) l0) (fun vs => nzL (chL vs) (opsT L now last dl n.toNat)) now last dl n w f d g i sp vs) (hi : i < n) (hw : w < 1000) (my : (f ≤ i ∧ d i.toNat ≤ n) ↔ ((0 < i ∨ last ≠ now) ∧ i + dl (now + i) ≤ n)) (hx : x = pvF (ppF l hit (opsT L now last dl n.toNat) l0) now last dl n (w - sp) vs) (hg : ∀ j : Nat, (j : Int) < n → g' j = if j = i.toNat then x else g j) (hs : sp' = sp + if x = 0 then 0 else 1) : CHV (ppF l hit (opsT L now last dl n.toNat) l0) (fun vs => nzL (chL vs) (opsT L now last dl n.toNat)) now last dl n w f d g' (i + 1) sp' (vs ++ [x]) := by
  obtain ⟨vl, vc, vz, vn, vp, vr⟩ := c
  have n0 : 0 ≤ nzL (chL vs) (opsT L now last dl n.toNat) := nzL_b _ _
  have vn : nzL (chL vs) (opsT L now last dl n.toNat) = sp := vn
  obtain ⟨k1, k2, k3, k4⟩ := pv_ok (l := l) (l0 := l0) (hit := hit) (left := w - sp) hd hn vp (by omega)
  rw [← hx] at k1 k2 k3 k4
  have lt : ∀ j : Nat, (j : Int) < i → (vs ++ [x]).getD j 0 = vs.getD j 0 := fun j hj => by
    rw [List.getD_eq_getElem?_getD, List.getElem?_append_left (by omega), ← List.getD_eq_getElem?_getD]
  have la : (vs ++ [x]).getD i.toNat 0 = x := by
    rw [List.getD_eq_getElem?_getD, show i.toNat = vs.length by omega, List.getElem?_append_right (Nat.le_refl _), Nat.sub_self]
    rfl
  refine ⟨?_, fun j hj => ?_, fun j hj => ?_, ?_, ?_, ?_⟩
  · rw [List.length_append]
    show ((vs.length + 1 : Nat) : Int) = i + 1
    omega
  · rw [hg j hj]
    by_cases q : j = i.toNat
    · rw [if_pos q, if_pos (by omega), q, la]
    · rw [if_neg q, vc j hj]
      by_cases q2 : (j : Int) < i
      · rw [if_pos q2, if_pos (by omega), lt j q2]
      · rw [if_neg q2]; exact (if_neg (by omega)).symm
  · by_cases q : j = i.toNat
    · rw [q, la]
      refine ⟨k3, fun z => k4 fun y => z ?_⟩
      rw [vl] at y
      have := my.mpr y
      exact ⟨by omega, this.2⟩
    · rw [lt j (by omega)]
      exact vz j (by omega)
  · show nzL (chL (vs ++ [x])) (opsT L now last dl n.toNat) = sp'
    rw [k2, vn, hs]
  · rw [k1, hs]; omega
  · rw [← vr, show (n - i).toNat = (n - (i + 1)).toNat + 1 by omega]
    show prF (ppF l hit (opsT L now last dl n.toNat) l0) now last dl n (n - (i + 1)).toNat (w - sp') (vs ++ [x]) = prF (ppF l hit (opsT L now last dl n.toNat) l0) now last dl n (n - (i + 1)).toNat (w - sp - if pvF (ppF l hit (opsT L now last dl n.toNat) l0) now last dl n (w - sp) vs = 0 then 0 else 1) (vs ++ [pvF (ppF l hit (opsT L now last dl n.toNat) l0) now last dl n (w - sp) vs])
    rw [← hx, hs, show w - (sp + if x = 0 then 0 else 1) = w - sp - if x = 0 then 0 else 1 by omega]
theorem CHV_cc {P nz : List Int → Int} {now last : Int} {dl : Int → Int} {n w f : Int} {d g : Nat → Int} {i sp : Int} {vs : List Int} (c : CHV P nz now last dl n w f d g i sp vs) : (∀ j : Nat, (j : Int) < n → -1 ≤ chL vs j ∧ chL vs j ≤ 2) ∧ ∀ j : Nat, (j : Int) < n → j ≠ i.toNat → g j = if f ≤ (j : Int) ∧ d j ≤ n then chL vs j else 0 := by
  obtain ⟨vl, vc, vz, vn, vp, vr⟩ := c
  have e1 : ∀ j : Nat, (j : Int) < i → chL vs j = vs.getD j 0 := fun j hj => (if_pos ⟨by omega, by omega⟩).trans (by rw [Int.toNat_natCast])
  have e2 : ∀ j : Nat, ¬ (j : Int) < i → chL vs j = 2 := fun j hj => if_neg (fun z => by have := z.2; omega)
  refine ⟨fun j _ => ?_, fun j hj hq => ?_⟩
  · by_cases q : (j : Int) < i
    · rw [e1 j q]; have := (vz j q).1; omega
    · rw [e2 j q]; omega
  · rw [vc j hj]
    by_cases q : (j : Int) < i
    · rw [if_pos q, e1 j q]
      by_cases m : f ≤ (j : Int) ∧ d j ≤ n
      · rw [if_pos m]
      · rw [if_neg m, (vz j q).2 m]
    · rw [if_neg q, e2 j q]
theorem nzL_nil : ∀ A : List (Int × Int), nzL (chL []) A = 0
  | [] => rfl
  | q :: r => by
    have e : chL [] q.2 = 2 := if_neg (fun z => by have z1 := z.1; have z2 : q.2 < ((0 : Nat) : Int) := z.2; omega)
    show (if q.1 = 1 ∧ chL [] q.2 ≠ 0 ∧ chL [] q.2 ≠ 2 then 1 else 0) + nzL (chL []) r = 0
    rw [nzL_nil r, if_neg (fun z => z.2.2 e)]
    rfl
theorem pp_nil {l l0 n now last : Int} {hit : Int → Nat → Int} {L : List (Int × Int × Int)} {dl : Int → Int} : ppF l hit (opsT L now last dl n.toNat) l0 [] = fwN (XS 0 l hit L now last dl l0 n.toNat) 9 := by
  refine congrArg (fun u => fwN u 9) (opsF_ch _ _ fun q hq h1 => ?_)
  have z := opsT_n _ hq h1
  show (if 0 ≤ q.2 ∧ q.2 < ((0 : Nat) : Int) then _ else (2 : Int)) = if q.2 < 0 then 0 else 2
  rw [if_neg (fun z2 => by have := z2.2; omega), if_neg (by omega)]
theorem tk_s {L : List Int} {i : Int} (h0 : 0 ≤ i) (hl : i < ((L.length : Nat) : Int)) : L.take (i + 1).toNat = L.take i.toNat ++ [L.getD i.toNat 0] := by
  rw [tn_s h0, List.take_add_one, List.getD_eq_getElem?_getD, List.getElem?_eq_getElem (by omega)]
  rfl
theorem prF_len {P : List Int → Int} {now last : Int} {dl : Int → Int} {n : Int} : ∀ (d : Nat) (left : Int) (vs : List Int), (prF P now last dl n d left vs).length = d + vs.length
  | 0, _, vs => (Nat.zero_add _).symm
  | d + 1, left, vs => by
    show (prF P now last dl n d (left - if pvF P now last dl n left vs = 0 then 0 else 1) (vs ++ [pvF P now last dl n left vs])).length = d + 1 + vs.length
    rw [prF_len d, List.length_append, List.length_singleton]
    omega
