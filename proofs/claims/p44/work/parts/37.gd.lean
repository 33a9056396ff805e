/-! A CONCRETE HEAP IS IN ORDER -/
def rng (a b : Nat) (f : Nat → Bool) : Bool := (List.range (b + 1 - a)).all fun i => f (a + i)
theorem rng_ok {a b : Nat} {f : Nat → Bool} (h : rng a b f = true) {k : Nat} (h1 : a ≤ k) (h2 : k ≤ b) : f k = true := by
  have := List.all_eq_true.mp h (k - a) (List.mem_range.mpr (by omega))
  rw [show a + (k - a) = k by omega] at this
  exact this
def gdB (E : ET) (rl : List Nat) (c : cH) : Bool := rl.zipIdx.all fun q =>
  decide (shG c.2.1 q.2 = some (eS E q.1)) && (eG E q.1).all (fun g => rng g.1 g.2.1 fun k => ile g.2.2.1 (rI c.2.2.1 q.2 k).toInt && ile (rI c.2.2.1 q.2 k).toInt g.2.2.2) &&
  (eR E q.1).all fun g => rng g.1 g.2.1 fun k => match rR c.2.2.2 q.2 k with
    | some b => decide (rl[b]? = some g.2.2)
    | none => false
theorem gdB_ok {E : ET} {rl : List Nat} {c : cH} {h : aH} (hr : REL c h) (hb : gdB E rl c = true) : GD E rl h.1 h := by
  have key : ∀ (a r : Nat), rl[a]? = some r → _ := fun a r ha => List.all_eq_true.mp hb (r, a) (List.mem_zipIdx_iff_getElem?.mpr ha)
  refine ⟨rfl, fun a r ha => ?_, fun a r ha q hq k h1 h2 => ?_, fun a r ha q hq k h1 h2 => ?_⟩
  · have z := key a r ha
    simp only [Bool.and_eq_true] at z
    exact hr.2.1 _ _ (of_decide_eq_true z.1.1)
  · have z := key a r ha
    simp only [Bool.and_eq_true] at z
    have y := List.all_eq_true.mp z.1.2 q hq
    have w := rng_ok y h1 h2
    rw [Bool.and_eq_true] at w
    rw [hr.2.2.1 a k]
    exact ⟨ile_t w.1, ile_t w.2⟩
  · have z := key a r ha
    simp only [Bool.and_eq_true] at z
    have w := rng_ok (List.all_eq_true.mp z.2 q hq) h1 h2
    rw [hr.2.2.2.2.1 a k]
    split at w
    · rename_i b hb2
      exact ⟨b, hb2, of_decide_eq_true w⟩
    · cases w
/-- roles that are said to have one cell have one at most -/
def eokB (E : ET) (rl : List Nat) : Bool := (List.range rl.length).all fun a => match rl[a]? with
  | some r => !(eO E r) || (List.range rl.length).all fun b => Nat.beq a b || !(decide (rl[b]? = some r))
  | none => true
theorem eokB_ok {E : ET} {rl : List Nat} (h : eokB E rl = true) : EOK E rl (fun _ => none) := by
  refine ⟨fun r a b hr ha hb => ?_, fun r a _ h => by cases h⟩
  unfold isr at ha hb
  by_cases h5 : r < 500
  · rw [if_pos h5] at ha hb
    have la := (List.getElem?_eq_some_iff.mp ha).1
    have lb := (List.getElem?_eq_some_iff.mp hb).1
    have z := List.all_eq_true.mp h a (List.mem_range.mpr la)
    rw [ha] at z
    simp only [hr, Bool.not_true, Bool.false_or] at z
    have y := List.all_eq_true.mp z b (List.mem_range.mpr lb)
    rw [hb] at y
    simpa using y
  · rw [if_neg h5] at ha
    cases ha
def elB (E : ET) : Bool := E.2.2.1.all fun l => l.all fun z => Nat.blt z.2.2 500
theorem elB_ok {E : ET} (h : elB E = true) : ELow E := by
  intro r z hz
  unfold eR at hz
  rw [List.getD_eq_getElem?_getD] at hz
  cases hg : E.2.2.1[bse r]? with
  | none => rw [hg] at hz; exact absurd hz List.not_mem_nil
  | some l =>
    rw [hg] at hz
    have y := List.all_eq_true.mp (List.all_eq_true.mp h l (List.mem_of_getElem? hg)) z hz
    exact Nat.le_of_ble_eq_true y
