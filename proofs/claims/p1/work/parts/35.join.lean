/-! WHAT IS SAID OF A METHOD, put together from pieces of an argument's range -/
theorem msub_rf (M : MD) : msub M M = true := List.all_eq_true.mpr fun q hq => List.any_eq_true.mpr ⟨q, hq, by simp⟩
theorem msub_of {M M' : MD} (h : ∀ q ∈ M, q ∈ M') : msub M M' = true := List.all_eq_true.mpr fun q hq => List.any_eq_true.mpr ⟨q, h q hq, by simp⟩
theorem gst_set {rl : List Nat} {sg : Nat → Option Nat} {ls : List (Nat × Value)} {h : aH} : ∀ {vs : List AV} {xs : List Value} {i : Nat} {v : AV} {x : Value}, gst rl sg ls h vs xs → xs[i]? = some x → gv rl sg ls h v x → gst rl sg ls h (vs.set i v) xs
  | [], [], _, _, _, _, _, _ => trivial
  | _ :: _, _ :: _, 0, _, _, g, hx, gx => by cases hx; exact ⟨gx, g.2⟩
  | _ :: vs, _ :: xs, i + 1, _, _, g, hx, gx => ⟨g.1, gst_set (i := i) g.2 (by simpa using hx) gx⟩
theorem gst_get2 {rl : List Nat} {sg : Nat → Option Nat} {ls : List (Nat × Value)} {h : aH} : ∀ {vs : List AV} {xs : List Value} {i : Nat} {v : AV}, gst rl sg ls h vs xs → vs[i]? = some v → ∃ x, xs[i]? = some x ∧ gv rl sg ls h v x
  | v :: vs, x :: xs, 0, _, g, hv => by cases hv; exact ⟨x, rfl, g.1⟩
  | _ :: vs, _ :: xs, i + 1, _, g, hv => by
    obtain ⟨x, hx, gx⟩ := gst_get2 (i := i) g.2 (by simpa using hv)
    exact ⟨x, by simpa using hx, gx⟩
abbrev OT : Type := List (List AV × OV × List (Nat × Int × Int))
def addR (i : Nat) (lo hi : Int) (o : OT) : OT := o.map fun q => (q.1, q.2.1, (i, lo, hi) :: q.2.2)
section JN
variable {E : ET} {rl : List Nat} {sh : List (Nat × Nat)} {CL : CT}
theorem SMOK_join (hmono : MONO CL) {mid : Nat} {as : List AV} {ov : OV} {o1 o2 : OT} {M1 M2 : MD} (i : Nat) (lo t hi : Int) (hi1 : as[i]? = some (0, 0, lo, hi)) (s1 : SMOK E rl sh CL (mid, as.set i (0, 0, lo, t), ov, o1, M1)) (s2 : SMOK E rl sh CL (mid, as.set i (0, 0, t + 1, hi), ov, o2, M2)) :
    SMOK E rl sh CL (mid, as, ov, addR i lo t o1 ++ addR i (t + 1) hi o2, M1 ++ M2) := by
  intro xs h hX ga hG hov
  obtain ⟨x, hx, gx⟩ := gst_get2 ga hi1
  obtain ⟨w, rfl, b1, b2, -⟩ := gx
  have b1 : lo ≤ w.toInt := b1
  have b2 : w.toInt ≤ hi := b2
  by_cases hc : w.toInt ≤ t
  · have g1 : gst rl (fun _ => none) [] h (as.set i (0, 0, lo, t)) xs := gst_set ga hx ⟨w, rfl, b1, hc, trivial⟩
    refine hmono _ _ _ _ _ _ _ (fun v h' hq => ?_) (s1 xs h hX g1 hG hov)
    obtain ⟨q1, q2, o, hm, q3, q4, q5⟩ := hq
    refine ⟨q1, q2.mono (msub_of fun q hq => List.mem_append_left _ hq), (o.1, o.2.1, (i, lo, t) :: o.2.2), List.mem_append_left _ (List.mem_map.mpr ⟨o, hm, rfl⟩), q3, q4, fun q hq => ?_⟩
    rcases List.mem_cons.mp hq with rfl | hq
    · exact ⟨w.toInt, Or.inl ⟨w, hx, rfl⟩, b1, hc⟩
    · exact q5 q hq
  · have g1 : gst rl (fun _ => none) [] h (as.set i (0, 0, t + 1, hi)) xs := gst_set ga hx ⟨w, rfl, by show t + 1 ≤ w.toInt; omega, b2, trivial⟩
    refine hmono _ _ _ _ _ _ _ (fun v h' hq => ?_) (s2 xs h hX g1 hG hov)
    obtain ⟨q1, q2, o, hm, q3, q4, q5⟩ := hq
    refine ⟨q1, q2.mono (msub_of fun q hq => List.mem_append_right _ hq), (o.1, o.2.1, (i, t + 1, hi) :: o.2.2), List.mem_append_right _ (List.mem_map.mpr ⟨o, hm, rfl⟩), q3, q4, fun q hq => ?_⟩
    rcases List.mem_cons.mp hq with rfl | hq
    · exact ⟨w.toInt, Or.inl ⟨w, hx, rfl⟩, by show t + 1 ≤ w.toInt; omega, b2⟩
    · exact q5 q hq
/-- more is allowed -/
theorem SMOK_wk (hmono : MONO CL) {mid : Nat} {as : List AV} {ov : OV} {o1 o2 : OT} {M1 M2 : MD} (ho : ∀ q ∈ o1, q ∈ o2) (hM : msub M1 M2 = true) (s1 : SMOK E rl sh CL (mid, as, ov, o1, M1)) : SMOK E rl sh CL (mid, as, ov, o2, M2) := by
  intro xs h hX ga hG hov
  refine hmono _ _ _ _ _ _ _ (fun v h' hq => ?_) (s1 xs h hX ga hG hov)
  obtain ⟨q1, q2, o, hm, q3⟩ := hq
  exact ⟨q1, q2.mono hM, o, ho o hm, q3⟩
/-- for narrower arguments -/
theorem SMOK_na (hE : EOK E rl (fun _ => none)) {mid : Nat} {as as' : List AV} {ov ov' : OV} {o1 : OT} {M1 : MD} (ha : avles as' as = true) (hp : as.all plainV = true) (hl : low ov = true) (hov2 : ovle E ov' ov = true) (s1 : SMOK E rl sh CL (mid, as, ov, o1, M1)) : SMOK E rl sh CL (mid, as', ov', o1, M1) :=
  fun xs h hX ga hG hov => s1 xs h hX (avles_ok hE ga ha hp) hG (ovle_ok hE hG hov hl hov2)
end JN
