section
/-! THE STATE OF BOTH -/
noncomputable def WW (b : Int) (w : WS) : Prop := (0 ≤ w.1 ∧ w.1 ≤ b) ∧ (0 ≤ w.2.1 ∧ w.2.1 ≤ 8) ∧ (0 ≤ w.2.2.1 ∧ w.2.2.1 ≤ 16 * b) ∧ (-1 ≤ w.2.2.2.1 ∧ w.2.2.2.1 ≤ b) ∧ ∀ m, m < 8 → (0 ≤ w.2.2.2.2.2.1 m ∧ w.2.2.2.2.2.1 m ≤ 99) ∧ 0 ≤ w.2.2.2.2.2.2 m ∧ w.2.2.2.2.2.2 m ≤ b
end
section
/-! ORDERS, FOOD, STEPS OF THE CLASS -/
theorem WW.mono {b c : Int} {w : WS} (h : WW b w) (hb : b ≤ c) : WW c w := by
  obtain ⟨w0, w1, w2, w3, w4⟩ := h
  exact ⟨by omega, w1, by omega, by omega, fun m hm => by have := w4 m hm; omega⟩
end
