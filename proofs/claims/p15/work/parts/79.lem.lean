/-! SMALL LEMMAS; where the class's cells are -/
theorem gi_c {c : cH} {h : aH} (hr : REL c h) (a k : Nat) : gi h a k = (rI c.2.2.1 a k).toInt := congrArg Int32.toInt (hr.2.2.1 a k)
theorem mfn {M : MD} {k : Nat} {w r : Nat} (h : (!(mHas M w r k)) = true) : mHas M w r k = false := by simpa using h
theorem ov_at {h : aH} {o : OV} {a r k : Nat} (x : Int) (h5 : r < 500) (hr : gRL[a]? = some r) (g : gov gRL (fun _ => none) o h) (hx : ovG o r k (i0, i1) = (x, x)) : gi h a k = x := by
  have z := ovG_ok (rl := gRL) (sg := fun _ => none) (o := o) (h := h) (r := r) (a := a) (k := k) (d := (i0, i1)) (by unfold isr; rw [if_pos h5]; exact hr) ⟨i32_lo _, i32_hi _⟩ g
  rw [hx] at z
  exact Int.le_antisymm z.2 z.1
/-- the pointers of the class that never change -/
def PT (h : aH) : Prop := (∀ k, k < 25 → aR h 135 k = some (136 + k)) ∧ (∀ k, k < 15 → aR h 34 k = some (37 + 5 * k) ∧ ∀ j, j < 4 → aR h (37 + 5 * k) (5 + j) = some (38 + 5 * k + j)) ∧ (∀ k, k < 3 → aR h 35 k = some (112 + 5 * k) ∧ ∀ j, j < 4 → aR h (112 + 5 * k) (5 + j) = some (113 + 5 * k + j)) ∧ (∀ k, k < 8 → aR h 162 k = some (163 + k)) ∧
  (aR h 5 3 = some 6 ∧ aR h 5 4 = some 7) ∧ (aR h 8 3 = some 9 ∧ aR h 8 4 = some 10) ∧ (aR h 11 0 = some 12 ∧ aR h 11 2 = some 13) ∧ aR h 14 0 = some 15 ∧ aR h 14 2 = some 16
def PTOk (M : MD) : Bool := M.all fun q => !(Nat.beq q.1 2) || Nat.beq q.2.1 0
theorem PTOk_n {M : MD} (h : PTOk M = true) {r : Nat} (hr : r ≠ 0) (k : Nat) : mHas M 2 r k = false := by
  cases hc : mHas M 2 r k with
  | false => rfl
  | true =>
    obtain ⟨q, hq, h2⟩ := List.any_eq_true.mp hc
    have z := List.all_eq_true.mp h q hq
    simp only [Bool.and_eq_true, Nat.beq_eq] at h2
    obtain ⟨⟨⟨a1, a2⟩, a3⟩, a4⟩ := h2
    rw [a1, a2] at z
    simp at z
    exact absurd z hr
theorem pt_r2 : ∀ k, k < 15 → gRL[37 + 5 * k]? = some 31 ∧ gRL[38 + 5 * k]? = some 32 ∧ gRL[39 + 5 * k]? = some 33 ∧ gRL[40 + 5 * k]? = some 34 ∧ gRL[41 + 5 * k]? = some 35 := by decide
theorem pt_r3 : ∀ k, k < 3 → gRL[112 + 5 * k]? = some 36 ∧ gRL[113 + 5 * k]? = some 37 ∧ gRL[114 + 5 * k]? = some 38 ∧ gRL[115 + 5 * k]? = some 39 ∧ gRL[116 + 5 * k]? = some 40 := by decide
theorem PT_F {M : MD} {h h' : aH} (hF : FRM gRL M h h') (hm : PTOk M = true) (hc : PT h) : PT h' := by
  have e : ∀ {a r : Nat} (k : Nat), gRL[a]? = some r → r ≠ 0 → aR h' a k = aR h a k := fun k hr h0 => FRM_aR hF hr (PTOk_n hm h0 k)
  obtain ⟨c1, c2, c3, c4, ⟨c5, c6⟩, ⟨c7, c8⟩, ⟨c9, d1⟩, d2, d3⟩ := hc
  refine ⟨fun k hk => ?_, fun k hk => ⟨?_, fun j hj => ?_⟩, fun k hk => ⟨?_, fun j hj => ?_⟩, fun k hk => ?_, ⟨?_, ?_⟩, ⟨?_, ?_⟩, ⟨?_, ?_⟩, ?_, ?_⟩
  · rw [e (r := 49) k rfl (by decide)]; exact c1 k hk
  · rw [e (r := 28) k rfl (by decide)]; exact (c2 k hk).1
  · rw [e _ (pt_r2 k hk).1 (by decide)]; exact (c2 k hk).2 j hj
  · rw [e (r := 29) k rfl (by decide)]; exact (c3 k hk).1
  · rw [e _ (pt_r3 k hk).1 (by decide)]; exact (c3 k hk).2 j hj
  · rw [e (r := 52) k rfl (by decide)]; exact c4 k hk
  · rw [e (r := 5) 3 rfl (by decide)]; exact c5
  · rw [e (r := 5) 4 rfl (by decide)]; exact c6
  · rw [e (r := 5) 3 rfl (by decide)]; exact c7
  · rw [e (r := 5) 4 rfl (by decide)]; exact c8
  · rw [e (r := 8) 0 rfl (by decide)]; exact c9
  · rw [e (r := 8) 2 rfl (by decide)]; exact d1
  · rw [e (r := 8) 0 rfl (by decide)]; exact d2
  · rw [e (r := 8) 2 rfl (by decide)]; exact d3
theorem PT_J {h : aH} {v : Int64} (hc : PT h) : PT (sJ h 201 0 v) := hc
def PTB (c : cH) : Bool := ((List.range 25).all fun k => decide (rR c.2.2.2 135 k = some (136 + k))) && (((List.range 15).all fun k => decide (rR c.2.2.2 34 k = some (37 + 5 * k)) && (List.range 4).all fun j => decide (rR c.2.2.2 (37 + 5 * k) (5 + j) = some (38 + 5 * k + j))) && (((List.range 3).all fun k => decide (rR c.2.2.2 35 k = some (112 + 5 * k)) && (List.range 4).all fun j => decide (rR c.2.2.2 (112 + 5 * k) (5 + j) = some (113 + 5 * k + j))) && (((List.range 8).all fun k => decide (rR c.2.2.2 162 k = some (163 + k))) && (decide (rR c.2.2.2 5 3 = some 6 ∧ rR c.2.2.2 5 4 = some 7 ∧ rR c.2.2.2 8 3 = some 9 ∧ rR c.2.2.2 8 4 = some 10 ∧ rR c.2.2.2 11 0 = some 12 ∧ rR c.2.2.2 11 2 = some 13 ∧ rR c.2.2.2 14 0 = some 15 ∧ rR c.2.2.2 14 2 = some 16)))))
theorem PT_0 {c : cH} {h : aH} (hr : REL c h) (hb : PTB c = true) : PT h := by
  have e : ∀ a k, aR h a k = rR c.2.2.2 a k := fun a k => hr.2.2.2.2.1 a k
  simp only [PTB, Bool.and_eq_true] at hb
  obtain ⟨b1, b2, b3, b4, b5⟩ := hb
  obtain ⟨c5, c6, c7, c8, c9, d1, d2, d3⟩ := of_decide_eq_true b5
  have r2 := fun k (hk : k < 15) => List.all_eq_true.mp b2 k (List.mem_range.mpr hk)
  have r3 := fun k (hk : k < 3) => List.all_eq_true.mp b3 k (List.mem_range.mpr hk)
  simp only [Bool.and_eq_true] at r2 r3
  refine ⟨fun k hk => (e _ _).trans (of_decide_eq_true (all_r b1 hk)), fun k hk => ⟨(e _ _).trans (of_decide_eq_true (r2 k hk).1), fun j hj => (e _ _).trans (of_decide_eq_true (all_r (r2 k hk).2 hj))⟩, fun k hk => ⟨(e _ _).trans (of_decide_eq_true (r3 k hk).1), fun j hj => (e _ _).trans (of_decide_eq_true (all_r (r3 k hk).2 hj))⟩, fun k hk => (e _ _).trans (of_decide_eq_true (all_r b4 hk)), ⟨(e _ _).trans c5, (e _ _).trans c6⟩, ⟨(e _ _).trans c7, (e _ _).trans c8⟩, ⟨(e _ _).trans c9, (e _ _).trans d1⟩, (e _ _).trans d2, (e _ _).trans d3⟩
