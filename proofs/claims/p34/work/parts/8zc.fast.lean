/-! WHO FASTS -/
noncomputable def bc3 (y : Int) : Int := bAnd (y + bUsh y 4) 252645135
theorem en_b {e n : Int} (he : 0 ≤ e ∧ e ≤ 9) (hn : 0 ≤ n ∧ n ≤ 99) : 0 ≤ e * n ∧ e * n ≤ 891 := by
  have p0 : 0 ≤ e * n := Int.mul_nonneg he.1 hn.1
  have p1 : e * n ≤ 9 * 99 := Int.mul_le_mul he.2 hn.2 hn.1 (by omega)
  omega
