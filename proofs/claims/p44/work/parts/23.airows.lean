/-! WHAT A ROW DOES, and what the checker says of it -/
section AIR
variable {E : ET} {rl : List Nat} {sg : Nat → Option Nat} {sh : List (Nat × Nat)} {M : MD} {h0 : aH} {ρ : Nat → Int}
theorem gv_noP {ls : List (Nat × Value)} {h : aH} {v : AV} {x : Value} (g : gv rl sg ls h v x) : gv rl sg ls h (noP v) x := by
  obtain ⟨k, p, z⟩ := v
  match k, g with
  | 0, g => obtain ⟨w, e, a, b, -⟩ := g; exact ⟨w, e, a, b, trivial⟩
  | 1, g => obtain ⟨w, e, a, b, -⟩ := g; exact ⟨w, e, a, b, trivial⟩
  | 2, g => obtain ⟨a, b, c⟩ := g; exact ⟨a, b, c⟩
  | 3, g => obtain ⟨b, e, c, d⟩ := g; exact ⟨b, e, c, d⟩
  | k + 4, g => exact False.elim g
/-- a value without provenance stays, whatever locals and cells do -/
theorem gv_any {ls ls' : List (Nat × Value)} {h h' : aH} {v : AV} {x : Value} (g : gv rl sg ls h (noP v) x) : gv rl sg ls' h' (noP v) x := by
  obtain ⟨k, p, z⟩ := v
  match k, g with
  | 0, g => obtain ⟨w, e, a, b, -⟩ := g; exact ⟨w, e, a, b, trivial⟩
  | 1, g => obtain ⟨w, e, a, b, -⟩ := g; exact ⟨w, e, a, b, trivial⟩
  | 2, g => obtain ⟨a, b, c⟩ := g; exact ⟨a, b, c⟩
  | 3, g => obtain ⟨b, e, c, d⟩ := g; exact ⟨b, e, c, d⟩
  | k + 4, g => exact False.elim g
theorem gv_gp {ls ls' : List (Nat × Value)} {h h' : aH} {v : AV} {x : Value} (hp : ∀ z, gp rl sg ls h v.2.1 z → gp rl sg ls' h' v.2.1 z) (g : gv rl sg ls h v x) : gv rl sg ls' h' v x := by
  obtain ⟨k, p, z⟩ := v
  match k, g with
  | 0, g => obtain ⟨w, e, a, b, q⟩ := g; exact ⟨w, e, a, b, hp _ q⟩
  | 1, g => obtain ⟨w, e, a, b, q⟩ := g; exact ⟨w, e, a, b, hp _ q⟩
  | 2, g => obtain ⟨a, b, c⟩ := g; exact ⟨a, b, c⟩
  | 3, g => obtain ⟨b, e, c, d⟩ := g; exact ⟨b, e, c, d⟩
  | k + 4, g => exact False.elim g
theorem gst_map {ls ls' : List (Nat × Value)} {h h' : aH} {f : AV → AV} (hf : ∀ v x, gv rl sg ls h v x → gv rl sg ls' h' (f v) x) : ∀ {vs : List AV} {xs : List Value}, gst rl sg ls h vs xs → gst rl sg ls' h' (vs.map f) xs
  | [], [], _ => trivial
  | v :: vs, x :: xs, g => ⟨hf v x g.1, gst_map hf g.2⟩
theorem gst_id {ls ls' : List (Nat × Value)} {h h' : aH} (hf : ∀ v x, gv rl sg ls h v x → gv rl sg ls' h' v x) {vs : List AV} {xs : List Value} (g : gst rl sg ls h vs xs) : gst rl sg ls' h' vs xs := by
  have := gst_map (f := id) hf g
  rwa [List.map_id] at this
/-- where a number's provenance is dropped if f says so -/
theorem gst_drop {ls ls' : List (Nat × Value)} {h h' : aH} {f : Nat → Bool} (hf : ∀ p z, f p = false → gp rl sg ls h p z → gp rl sg ls' h' p z) {vs : List AV} {xs : List Value} (g : gst rl sg ls h vs xs) : gst rl sg ls' h' (vs.map fun v => if Nat.ble v.1 1 && f v.2.1 then noP v else v) xs := by
  refine gst_map (fun v x gvx => ?_) g
  obtain ⟨k, p, z⟩ := v
  match k, gvx with
  | 0, gvx =>
    show gv rl sg ls' h' (if f p = true then noP (0, p, z) else (0, p, z)) x
    split
    · exact gv_any (gv_noP gvx)
    · rename_i hc
      obtain ⟨w, e, a, b, q⟩ := gvx
      exact ⟨w, e, a, b, hf _ _ (by simpa using hc) q⟩
  | 1, gvx =>
    show gv rl sg ls' h' (if f p = true then noP (1, p, z) else (1, p, z)) x
    split
    · exact gv_any (gv_noP gvx)
    · rename_i hc
      obtain ⟨w, e, a, b, q⟩ := gvx
      exact ⟨w, e, a, b, hf _ _ (by simpa using hc) q⟩
  | 2, gvx => obtain ⟨a, b, c⟩ := gvx; exact ⟨a, b, c⟩
  | 3, gvx => obtain ⟨b, e, c, d⟩ := gvx; exact ⟨b, e, c, d⟩
  | k + 4, gvx => exact False.elim gvx
theorem gst_kH {ls : List (Nat × Value)} {h h' : aH} {vs : List AV} {xs : List Value} (g : gst rl sg ls h vs xs) : gst rl sg ls h' (kH vs) xs := by
  refine gst_drop (f := fun p => Nat.ble 1000 p) (fun p z hp hz => ?_) g
  have hp' : ¬ 1000 ≤ p := fun q => by rw [Nat.ble_eq.mpr q] at hp; cases hp
  unfold gp at hz ⊢
  split
  · trivial
  · rename_i h1
    rw [if_neg h1, if_pos (by omega)] at hz
    rw [if_pos (by omega)]
    exact hz
theorem gst_kL {ls ls' : List (Nat × Value)} {h : aH} {i : Nat} (hls : ∀ j y, j ≠ i → lk ls j = some (.int y) → lk ls' j = some (.int y)) {vs : List AV} {xs : List Value} (g : gst rl sg ls h vs xs) : gst rl sg ls' h (kL i vs) xs := by
  refine gst_drop (f := fun p => Nat.beq p (i + 1)) (fun p z hp hz => ?_) g
  have hp' : ¬ p = i + 1 := fun q => by rw [Nat.beq_eq.mpr q] at hp; cases hp
  unfold gp at hz ⊢
  split
  · trivial
  · rename_i h1
    rw [if_neg h1] at hz
    split
    · rename_i h2
      rw [if_pos h2] at hz
      obtain ⟨y, e, q⟩ := hz
      exact ⟨y, hls _ _ (by omega) e, q⟩
    · rename_i h2
      rw [if_neg h2] at hz
      exact hz
theorem gst_kL2 {ls ls' : List (Nat × Value)} {h : aH} {i : Nat} (hls : ∀ j y, j ≠ i → j ≠ i + 1 → lk ls j = some (.int y) → lk ls' j = some (.int y)) {vs : List AV} {xs : List Value} (g : gst rl sg ls h vs xs) : gst rl sg ls' h (kL i (kL (i + 1) vs)) xs := by
  -- through locals where i alone differs
  have : gst rl sg (ls'.filter (fun _ => false)) h (kL i (kL (i + 1) vs)) xs ∨ True := Or.inr trivial
  clear this
  unfold kL
  rw [List.map_map]
  refine gst_map (fun v x gvx => ?_) g
  obtain ⟨k, p, z⟩ := v
  have key : ∀ w, ¬ p = i + 1 → ¬ p = i + 2 → gp rl sg ls h p w → gp rl sg ls' h p w := by
    intro w h8 h9 hz
    unfold gp at hz ⊢
    split
    · trivial
    · rename_i h1
      rw [if_neg h1] at hz
      split
      · rename_i h2
        rw [if_pos h2] at hz
        obtain ⟨y, e, q⟩ := hz
        exact ⟨y, hls _ _ (by omega) (by omega) e, q⟩
      · rename_i h2
        rw [if_neg h2] at hz
        exact hz
  match k, gvx with
  | 0, gvx =>
    by_cases h9 : p = i + 1 + 1
    · have e : ((fun v : AV => if (Nat.ble v.1 1 && Nat.beq v.2.1 (i + 1)) = true then noP v else v) ∘ fun v : AV => if (Nat.ble v.1 1 && Nat.beq v.2.1 (i + 1 + 1)) = true then noP v else v) (0, p, z) = noP (0, p, z) := by
        subst h9
        simp [noP]
      rw [e]
      exact gv_any (gv_noP gvx)
    · by_cases h8 : p = i + 1
      · have e : ((fun v : AV => if (Nat.ble v.1 1 && Nat.beq v.2.1 (i + 1)) = true then noP v else v) ∘ fun v : AV => if (Nat.ble v.1 1 && Nat.beq v.2.1 (i + 1 + 1)) = true then noP v else v) (0, p, z) = noP (0, p, z) := by
          subst h8
          simp [noP]
        rw [e]
        exact gv_any (gv_noP gvx)
      · have e : ((fun v : AV => if (Nat.ble v.1 1 && Nat.beq v.2.1 (i + 1)) = true then noP v else v) ∘ fun v : AV => if (Nat.ble v.1 1 && Nat.beq v.2.1 (i + 1 + 1)) = true then noP v else v) (0, p, z) = (0, p, z) := by
          simp [h8, h9]
        rw [e]
        obtain ⟨w, e, a, b, q⟩ := gvx
        exact ⟨w, e, a, b, key _ h8 h9 q⟩
  | 1, gvx =>
    by_cases h9 : p = i + 1 + 1
    · have e : ((fun v : AV => if (Nat.ble v.1 1 && Nat.beq v.2.1 (i + 1)) = true then noP v else v) ∘ fun v : AV => if (Nat.ble v.1 1 && Nat.beq v.2.1 (i + 1 + 1)) = true then noP v else v) (1, p, z) = noP (1, p, z) := by
        subst h9
        simp [noP]
      rw [e]
      exact gv_any (gv_noP gvx)
    · by_cases h8 : p = i + 1
      · have e : ((fun v : AV => if (Nat.ble v.1 1 && Nat.beq v.2.1 (i + 1)) = true then noP v else v) ∘ fun v : AV => if (Nat.ble v.1 1 && Nat.beq v.2.1 (i + 1 + 1)) = true then noP v else v) (1, p, z) = noP (1, p, z) := by
          subst h8
          simp [noP]
        rw [e]
        exact gv_any (gv_noP gvx)
      · have e : ((fun v : AV => if (Nat.ble v.1 1 && Nat.beq v.2.1 (i + 1)) = true then noP v else v) ∘ fun v : AV => if (Nat.ble v.1 1 && Nat.beq v.2.1 (i + 1 + 1)) = true then noP v else v) (1, p, z) = (1, p, z) := by
          simp [h8, h9]
        rw [e]
        obtain ⟨w, e, a, b, q⟩ := gvx
        exact ⟨w, e, a, b, key _ h8 h9 q⟩
  | 2, gvx => obtain ⟨a, b, c⟩ := gvx; exact ⟨a, b, c⟩
  | 3, gvx => obtain ⟨b, e, c, d⟩ := gvx; exact ⟨b, e, c, d⟩
  | k + 4, gvx => exact False.elim gvx
/-- locals -/
theorem lk_filter {f : Nat × Value → Bool} {j : Nat} {x : Value} : ∀ {l : List (Nat × Value)}, lk l j = some x → f (j, x) = true → lk (l.filter f) j = some x
  | [], h, _ => h
  | q :: t, h, hf => by
    unfold lk at h
    rw [List.filter_cons]
    by_cases e : q.1 = j
    · rw [if_pos e] at h
      cases h
      have : q = (j, q.2) := by rw [← e]
      rw [this, if_pos hf]
      unfold lk
      rw [if_pos rfl]
    · rw [if_neg e] at h
      split
      · unfold lk
        rw [if_neg e]
        exact lk_filter h hf
      · exact lk_filter h hf
theorem lk_so1_eq (ls : List (Nat × Value)) (i : Nat) (v : Value) : lk (so1 ls i v) i = some v := by unfold so1 lk; rw [if_pos rfl]
theorem lk_so2_eq (ls : List (Nat × Value)) (i : Nat) (v : Value) : lk (so2 ls i v) i = some v := by unfold so2 lk; rw [if_pos rfl]
theorem lk_so1 {ls : List (Nat × Value)} {i j : Nat} {v x : Value} (h : lk ls j = some x) (hj : j ≠ i) (hc : x.category = 1 ∨ j + 1 ≠ i) : lk (so1 ls i v) j = some x := by
  unfold so1 lk
  rw [if_neg (fun q => hj q.symm)]
  refine lk_filter h ?_
  simp only [Bool.and_eq_true, Bool.not_eq_true', beq_eq_false_iff_ne, Bool.and_eq_false_iff, ne_eq]
  refine ⟨hj, ?_⟩
  rcases hc with hc | hc
  · right; rw [hc]; decide
  · left; exact hc
theorem lk_so2 {ls : List (Nat × Value)} {i j : Nat} {v x : Value} (h : lk ls j = some x) (hj : j ≠ i) (hj2 : j ≠ i + 1) (hc : x.category = 1 ∨ j + 1 ≠ i) : lk (so2 ls i v) j = some x := by
  unfold so2 lk
  rw [if_neg (fun q => hj q.symm)]
  refine lk_filter h ?_
  simp only [Bool.and_eq_true, Bool.not_eq_true', beq_eq_false_iff_ne, Bool.and_eq_false_iff, ne_eq]
  refine ⟨hj, hj2, ?_⟩
  rcases hc with hc | hc
  · right; rw [hc]; decide
  · left; exact hc
theorem gv_cat {ls : List (Nat × Value)} {h : aH} {v : AV} {x : Value} (g : gv rl sg ls h v x) : x.category = if Nat.beq v.1 1 then 2 else 1 := by
  obtain ⟨k, p, z⟩ := v
  match k, g with
  | 0, g => obtain ⟨w, rfl, -⟩ := g; rfl
  | 1, g => obtain ⟨w, rfl, -⟩ := g; rfl
  | 2, g => obtain ⟨w, rfl, -⟩ := g; rfl
  | 3, g => obtain ⟨w, rfl, -⟩ := g; rfl
  | k + 4, g => exact False.elim g
theorem acats_ok {ls : List (Nat × Value)} {h : aH} : ∀ {vs : List AV} {xs : List Value}, gst rl sg ls h vs xs → catsum xs = acats vs
  | [], [], _ => rfl
  | v :: vs, x :: xs, g => by
    have e : catsum (x :: xs) = x.category + catsum xs := rfl
    rw [e, gv_cat g.1, acats_ok g.2]
    rfl
theorem gls_aso1 {l : List (Nat × AV)} {ls : List (Nat × Value)} {h : aH} {i : Nat} {v : AV} {x : Value} (g : gls rl sg l ls h) (gx : gv rl sg ls h v x) : gls rl sg (aso false l i v) (so1 ls i x) h := by
  intro q hq
  unfold aso at hq
  rcases List.mem_cons.mp hq with rfl | hq
  · exact ⟨x, lk_so1_eq _ _ _, gv_any (gv_noP (gv_noP gx))⟩
  · obtain ⟨hm, hf⟩ := List.mem_filter.mp hq
    obtain ⟨y, hy, gy⟩ := g q hm
    simp only [Bool.false_and, Bool.not_false, Bool.and_true, Bool.and_eq_true, Bool.not_eq_true', Bool.and_eq_false_iff] at hf
    have h1 : q.1 ≠ i := fun e => by rw [Nat.beq_eq.mpr e] at hf; exact absurd hf.1 (by decide)
    refine ⟨y, lk_so1 hy h1 ?_, gv_any gy⟩
    rcases hf.2 with e | e
    · right; intro q9; rw [Nat.beq_eq.mpr q9] at e; cases e
    · left
      have := gv_cat gy
      rw [this]
      have : Nat.beq (noP q.2).1 1 = false := by
        obtain ⟨a, k, b⟩ := q
        simp only at e
        match k, e with
        | 0, _ => rfl
        | k + 2, e => exact e
      rw [this]
      rfl
theorem gls_aso2 {l : List (Nat × AV)} {ls : List (Nat × Value)} {h : aH} {i : Nat} {v : AV} {x : Value} (g : gls rl sg l ls h) (gx : gv rl sg ls h v x) : gls rl sg (aso true l i v) (so2 ls i x) h := by
  intro q hq
  unfold aso at hq
  rcases List.mem_cons.mp hq with rfl | hq
  · exact ⟨x, lk_so2_eq _ _ _, gv_any (gv_noP (gv_noP gx))⟩
  · obtain ⟨hm, hf⟩ := List.mem_filter.mp hq
    obtain ⟨y, hy, gy⟩ := g q hm
    simp only [Bool.true_and, Bool.and_eq_true, Bool.not_eq_true', Bool.and_eq_false_iff] at hf
    have h1 : q.1 ≠ i := fun e => by rw [Nat.beq_eq.mpr e] at hf; exact absurd hf.1.1 (by decide)
    have h2 : q.1 ≠ i + 1 := fun e => by rw [Nat.beq_eq.mpr e] at hf; exact absurd hf.1.2 (by decide)
    refine ⟨y, lk_so2 hy h1 h2 ?_, gv_any gy⟩
    rcases hf.2 with e | e
    · right; intro q9; rw [Nat.beq_eq.mpr q9] at e; cases e
    · left
      have := gv_cat gy
      rw [this]
      have : Nat.beq (noP q.2).1 1 = false := by
        obtain ⟨a, k, b⟩ := q
        simp only at e
        match k, e with
        | 0, _ => rfl
        | k + 2, e => exact e
      rw [this]
      rfl
theorem alk_mem : ∀ {l : List (Nat × AV)} {i : Nat} {v : AV}, alk l i = some v → (i, v) ∈ l
  | q :: t, i, v, h => by
    unfold alk at h
    split at h
    · rename_i hc
      cases h
      rw [← Nat.beq_eq.mp hc]
      exact List.mem_cons_self
    · exact List.mem_cons_of_mem _ (alk_mem h)
end AIR
