section
/-! LATE -/
theorem dlA_12 (h : aH) (t : Int) : dlA h (t + 12) = dlA h t := by
  have e : askF h (t + 12) = askF h t := by
    funext q
    unfold askF
    rw [show (t + 12) % 12 = t % 12 by omega]
  unfold dlA
  rw [e]
/-- when an order of STEP k from now is done -/
noncomputable def dnF (h : aH) (t : Int) (k : Nat) : Int := (k : Int) + dlA h (t + k)
theorem dnF_b (h : aH) (t : Int) (k : Nat) : (k : Int) + 1 ≤ dnF h t k ∧ dnF h t k ≤ k + 12 := by
  have := dlA_b h (t + k)
  unfold dnF
  omega
theorem dnF_12 (h : aH) (t : Int) (k : Nat) : dnF h t (k + 12) = dnF h t k + 12 := by
  unfold dnF
  rw [show t + ((k + 12 : Nat) : Int) = t + (k : Int) + 12 by omega, dlA_12]
  omega
end
section
/-! WHO FASTS -/
noncomputable def bc3 (y : Int) : Int := bAnd (y + bUsh y 4) 252645135
end
