/-! EVERY ROW: what the checker says of it is so -/
section AIX
variable {E : ET} {rl : List Nat} {sg : Nat → Option Nat} {sh : List (Nat × Nat)} {M : MD} {h0 : aH} {ρ : Nat → Int}
def bnd (rl : List Nat) (sg : Nat → Option Nat) (ls : List (Nat × Value)) (h : aH) (x : AV) (u : Int) : Prop := x.2.2.1 ≤ u ∧ u ≤ x.2.2.2 ∧ gp rl sg ls h x.2.1 u
theorem k0 {ls : List (Nat × Value)} {h : aH} {x : AV} {v : Value} (g : gv rl sg ls h x v) (hk : Nat.beq x.1 0 = true) : ∃ u : Int32, v = .int u ∧ bnd rl sg ls h x u.toInt := by
  obtain ⟨k, p, z⟩ := x
  obtain rfl : k = 0 := Nat.beq_eq.mp hk
  obtain ⟨w, e, a, b, c⟩ := g
  exact ⟨w, e, a, b, c⟩
theorem k1 {ls : List (Nat × Value)} {h : aH} {x : AV} {v : Value} (g : gv rl sg ls h x v) (hk : Nat.beq x.1 1 = true) : ∃ u : Int64, v = .long u ∧ bnd rl sg ls h x u.toInt := by
  obtain ⟨k, p, z⟩ := x
  obtain rfl : k = 1 := Nat.beq_eq.mp hk
  obtain ⟨w, e, a, b, c⟩ := g
  exact ⟨w, e, a, b, c⟩
theorem gst_c {ls : List (Nat × Value)} {h : aH} {x : AV} {r : List AV} {st : List Value} (g : gst rl sg ls h (x :: r) st) : ∃ v rs, st = v :: rs ∧ gv rl sg ls h x v ∧ gst rl sg ls h r rs := by
  cases st with
  | nil => exact False.elim g
  | cons v rs => exact ⟨v, rs, rfl, g.1, g.2⟩
theorem U1' {ls : List (Nat × Value)} {h : aH} {vs : List AV} {st : List Value} {f : AV → List AV → Option (List (Nat × AS))} {l : List (Nat × AS)} (hx : u1 vs f = some l) (g : gst rl sg ls h vs st) :
    ∃ x r u rs, st = .int u :: rs ∧ f x r = some l ∧ bnd rl sg ls h x u.toInt ∧ gst rl sg ls h r rs := by
  unfold u1 at hx
  split at hx
  · split at hx
    · rename_i x r hc
      obtain ⟨v, rs, rfl, g1, g2⟩ := gst_c g
      obtain ⟨u, rfl, hb⟩ := k0 g1 hc
      exact ⟨x, r, u, rs, rfl, hx, hb, g2⟩
    · cases hx
  · cases hx
theorem U2' {ls : List (Nat × Value)} {h : aH} {vs : List AV} {st : List Value} {f : AV → AV → List AV → Option (List (Nat × AS))} {l : List (Nat × AS)} (hx : u2 vs f = some l) (g : gst rl sg ls h vs st) :
    ∃ x y r u v rs, st = .int v :: .int u :: rs ∧ f x y r = some l ∧ bnd rl sg ls h x u.toInt ∧ bnd rl sg ls h y v.toInt ∧ gst rl sg ls h r rs := by
  unfold u2 at hx
  split at hx
  · split at hx
    · rename_i y x r hc
      rw [Bool.and_eq_true] at hc
      obtain ⟨v, rs, rfl, g1, g2⟩ := gst_c g
      obtain ⟨w, rs, rfl, g3, g4⟩ := gst_c g2
      obtain ⟨a, rfl, ha⟩ := k0 g1 hc.1
      obtain ⟨b, rfl, hb⟩ := k0 g3 hc.2
      exact ⟨x, y, r, b, a, rs, rfl, hx, hb, ha, g4⟩
    · cases hx
  · cases hx
theorem W2' {ls : List (Nat × Value)} {h : aH} {vs : List AV} {st : List Value} {f : AV → AV → List AV → Option (List (Nat × AS))} {l : List (Nat × AS)} (hx : w2 vs f = some l) (g : gst rl sg ls h vs st) :
    ∃ x y r u v rs, st = .long v :: .long u :: rs ∧ f x y r = some l ∧ bnd rl sg ls h x u.toInt ∧ bnd rl sg ls h y v.toInt ∧ gst rl sg ls h r rs := by
  unfold w2 at hx
  split at hx
  · split at hx
    · rename_i y x r hc
      rw [Bool.and_eq_true] at hc
      obtain ⟨v, rs, rfl, g1, g2⟩ := gst_c g
      obtain ⟨w, rs, rfl, g3, g4⟩ := gst_c g2
      obtain ⟨a, rfl, ha⟩ := k1 g1 hc.1
      obtain ⟨b, rfl, hb⟩ := k1 g3 hc.2
      exact ⟨x, y, r, b, a, rs, rfl, hx, hb, ha, g4⟩
    · cases hx
  · cases hx
theorem gp0 {ls : List (Nat × Value)} {h : aH} {x : Int} : gp rl sg ls h 0 x := trivial
theorem gv_ai {ls : List (Nat × Value)} {h : aH} {p : Nat} {z : Int × Int} {w : Int32} (h1 : z.1 ≤ w.toInt ∧ w.toInt ≤ z.2) (h2 : gp rl sg ls h p w.toInt) : gv rl sg ls h (ai p z) (.int w) := ⟨w, rfl, h1.1, h1.2, h2⟩
theorem gv_aj {ls : List (Nat × Value)} {h : aH} {p : Nat} {z : Int × Int} {w : Int64} (h1 : z.1 ≤ w.toInt ∧ w.toInt ≤ z.2) (h2 : gp rl sg ls h p w.toInt) : gv rl sg ls h (aj p z) (.long w) := ⟨w, rfl, h1.1, h1.2, h2⟩
theorem ai_any (w : Int32) : (i0, i1).1 ≤ w.toInt ∧ w.toInt ≤ (i0, i1).2 := ⟨i32_lo w, i32_hi w⟩
theorem aj_any (w : Int64) : (j0, j1).1 ≤ w.toInt ∧ w.toInt ≤ (j0, j1).2 := ⟨i64_lo w, i64_hi w⟩
theorem div_ok2 {c d : Int} {y : Int} (h : (ile 1 c || ile d (-1)) = true) (h1 : c ≤ y) (h2 : y ≤ d) : y ≠ 0 := by
  rw [Bool.or_eq_true] at h
  rcases h with h | h
  · have := ile_t h; omega
  · have := ile_t h; omega
theorem ne0_32 {y : Int32} (h : y.toInt ≠ 0) : ¬ y = 0 := fun e => h (by rw [e]; rfl)
theorem ne0_64 {y : Int64} (h : y.toInt ≠ 0) : ¬ y = 0 := fun e => h (by rw [e]; rfl)
theorem ld_ok {S : AS} {ls : List (Nat × Value)} {st : List Value} {h : aH} {i k n pc : Nat} {l : List (Nat × AS)} (hv : IV E rl sg sh M h0 ρ S ls st h) (hx : ld S i k n pc = some l) : ∃ v S', lk ls i = some v ∧ (pc + n, S') ∈ l ∧ IV E rl sg sh M h0 ρ S' ls (v :: st) h ∧ (k = 0 → ∃ u, v = .int u) ∧ (k = 1 → ∃ u, v = .long u) ∧ (k = 2 → ∃ u, v = .ref u) := by
  have hv0 := hv
  obtain ⟨a1, a2, a3, a4, a5, a6⟩ := hv
  unfold ld at hx
  split at hx
  · rename_i p z he
    split at hx
    · rename_i hc
      rw [Bool.and_eq_true, Nat.blt_eq] at hc
      obtain rfl := Nat.beq_eq.mp hc.1
      cases hx
      obtain ⟨v, e1, e2⟩ := a3 _ (alk_mem he)
      obtain ⟨w, rfl, b1, b2, -⟩ := e2
      refine ⟨_, _, e1, List.mem_singleton.mpr rfl, hv0.stk ⟨gv_ai ⟨b1, b2⟩ ?_, a4⟩, fun _ => ⟨w, rfl⟩, fun q => absurd q (by decide), fun q => absurd q (by decide)⟩
      unfold gp
      rw [if_neg (by omega), if_pos (by omega)]
      exact ⟨w, e1, rfl⟩
    · cases hx
  · rename_i p z he
    split at hx
    · rename_i hc
      obtain rfl := Nat.beq_eq.mp hc
      cases hx
      obtain ⟨v, e1, e2⟩ := a3 _ (alk_mem he)
      obtain ⟨w, rfl, b1, b2, -⟩ := e2
      exact ⟨_, _, e1, List.mem_singleton.mpr rfl, hv0.stk ⟨gv_aj ⟨b1, b2⟩ gp0, a4⟩, fun q => absurd q (by decide), fun _ => ⟨w, rfl⟩, fun q => absurd q (by decide)⟩
    · cases hx
  · rename_i r z he
    split at hx
    · rename_i hc
      obtain rfl := Nat.beq_eq.mp hc
      cases hx
      obtain ⟨v, e1, e2⟩ := a3 _ (alk_mem he)
      obtain ⟨w, rfl, b1⟩ := e2
      exact ⟨_, _, e1, List.mem_singleton.mpr rfl, hv0.stk ⟨⟨w, rfl, b1⟩, a4⟩, fun q => absurd q (by decide), fun q => absurd q (by decide), fun _ => ⟨w, rfl⟩⟩
    · cases hx
  · rename_i r z he
    split at hx
    · rename_i hc
      obtain rfl := Nat.beq_eq.mp hc
      cases hx
      obtain ⟨v, e1, e2⟩ := a3 _ (alk_mem he)
      obtain ⟨w, rfl, b1⟩ := e2
      exact ⟨_, _, e1, List.mem_singleton.mpr rfl, hv0.stk ⟨⟨w, rfl, b1⟩, a4⟩, fun q => absurd q (by decide), fun q => absurd q (by decide), fun _ => ⟨_, rfl⟩⟩
    · cases hx
  · cases hx
end AIX
