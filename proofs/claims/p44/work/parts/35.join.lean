/-! WHAT IS SAID OF A METHOD, put together from pieces of an argument's range -/
theorem msub_of {M M' : MD} (h : ∀ q ∈ M, q ∈ M') : msub M M' = true := List.all_eq_true.mpr fun q hq => List.any_eq_true.mpr ⟨q, h q hq, by simp⟩
theorem gst_set {rl : List Nat} {sg : Nat → Option Nat} {ls : List (Nat × Value)} {h : aH} : ∀ {vs : List AV} {xs : List Value} {i : Nat} {v : AV} {x : Value}, gst rl sg ls h vs xs → xs[i]? = some x → gv rl sg ls h v x → gst rl sg ls h (vs.set i v) xs
  | [], [], _, _, _, _, _, _ => trivial
  | _ :: _, _ :: _, 0, _, _, g, hx, gx => by cases hx; exact ⟨gx, g.2⟩
  | _ :: vs, _ :: xs, i + 1, _, _, g, hx, gx => ⟨g.1, gst_set (i := i) g.2 (by simpa using hx) gx⟩
theorem gst_get2 {rl : List Nat} {sg : Nat → Option Nat} {ls : List (Nat × Value)} {h : aH} : ∀ {vs : List AV} {xs : List Value} {i : Nat} {v : AV}, gst rl sg ls h vs xs → vs[i]? = some v → ∃ x, xs[i]? = some x ∧ gv rl sg ls h v x
  | v :: vs, x :: xs, 0, _, g, hv => by cases hv; exact ⟨x, rfl, g.1⟩
  | _ :: vs, _ :: xs, i + 1, _, g, hv => by
    obtain ⟨x, hx, gx⟩ := gst_get2 (i := i) g.2 (by simpa using hv)
    exact ⟨x, by simpa using hx, gx⟩
abbrev OT : Type := List (List AV × OV × List (Nat × Int × Int))
def addR (i : Nat) (lo hi : Int) (o : OT) : OT := o.map fun q => (q.1, q.2.1, (i, lo, hi) :: q.2.2)
section JN
variable {E : ET} {rl : List Nat} {sh : List (Nat × Nat)} {CL : CT}
end JN
