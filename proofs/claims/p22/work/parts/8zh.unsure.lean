/-! UNSURE -/
/-- LANES (bits) of which g is above 0 -/
noncomputable def psF (g : Nat → Int) : Nat → Int
  | 0 => 0
  | i + 1 => bOr (psF g i) (if 0 < g i then bShl 1 i else 0)
theorem psF_s {g : Nat → Int} {i : Int} (h : 0 ≤ i) : psF g (i + 1).toNat = bOr (psF g i.toNat) (if 0 < g i.toNat then bShl 1 i else 0) := by
  rw [tn_s h]
  show bOr (psF g i.toNat) (if 0 < g i.toNat then bShl 1 ((i.toNat : Nat) : Int) else 0) = _
  rw [show ((i.toNat : Nat) : Int) = i by omega]
theorem bo0_n : ∀ s : Nat, s < 512 → bOr s 0 = s := by decide +kernel
