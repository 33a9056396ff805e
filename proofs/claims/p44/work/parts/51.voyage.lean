/-! THE REFERENCE READS A VOYAGE, A SHIP, ROCKS, MESSES: safe -/
theorem gi_to {a k l : Nat} {h : aH} (e : k = l) : gi h a k = gi h a l := by rw [e]
theorem NB.up {b c : Int} {h : aH} (n : NB b h) (e : b ≤ c) : NB c h := n.mono e
