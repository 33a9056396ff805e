/-! LIVES, THE SAFEST LANE, COMES -/
noncomputable def sumF (f : Nat → Int) (a : Int) : Nat → Int
  | 0 => 0
  | n + 1 => sumF f a n + f (a + n).toNat
theorem sumF_s {f : Nat → Int} {a i : Int} (h : a ≤ i) : sumF f a (i + 1 - a).toNat = sumF f a (i - a).toNat + f i.toNat := by
  rw [show (i + 1 - a).toNat = (i - a).toNat + 1 by omega]
  show sumF f a (i - a).toNat + f (a + ((i - a).toNat : Int)).toNat = _
  rw [show a + ((i - a).toNat : Int) = i by omega]
theorem sumF_b {f : Nat → Int} {a m B : Int} (h0 : 0 ≤ a) (hB : 0 ≤ B) (hf : ∀ j : Nat, (j : Int) < m → 0 ≤ f j ∧ f j ≤ B) : ∀ n : Nat, a + n ≤ m → 0 ≤ sumF f a n ∧ sumF f a n ≤ B * n
  | 0, _ => ⟨Int.le_refl _, by show (0 : Int) ≤ B * 0; omega⟩
  | n + 1, h => by
    have ih := sumF_b h0 hB hf n (by omega)
    have z := hf (a + n).toNat (by omega)
    show 0 ≤ sumF f a n + f (a + n).toNat ∧ sumF f a n + f (a + n).toNat ≤ B * ((n + 1 : Nat) : Int)
    rw [show ((n + 1 : Nat) : Int) = (n : Int) + 1 from rfl, Int.mul_add, Int.mul_one]
    omega
