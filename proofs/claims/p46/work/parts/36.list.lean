/-! MANY METHODS AT ONCE: what is said, which of those before it are called (the last one is 0), its depth, its fuel, where its paths meet -/
abbrev LE : Type := SM × List Nat × Nat × Nat × List (Bool × Nat) × List CE
/-- those that are called -/
def calL (done : List LE) (e : LE) : List SM := e.2.1.filterMap fun j => (done[j]?).map fun q => q.1
/-- is the receiver named: where its role has more cells than one -/
def slfL (E : ET) (sm : SM) : Bool := match sm.2.1 with
  | (2, r, _) :: _ => !(eO E r)
  | _ => false
def chkL (E : ET) : List LE → List LE → Bool
  | _, [] => true
  | done, e :: t => Nat.blt 0 e.2.2.1 && (e.2.1.all fun j => match done[j]? with
      | some q => Nat.blt q.2.2.1 e.2.2.1
      | none => true) && (calL done e).all smwf && (match mtab[e.1.1]? with
      | some mi => chk E (calL done e) mi (slfL E e.1) e.1 e.2.2.2.2.2 e.2.2.2.2.1 e.2.2.2.1
      | none => false) && chkL E (e :: done) t
theorem chk1_ok {E : ET} {rl : List Nat} {sh : List (Nat × Nat)} (hE : EOK E rl (fun _ => none)) (hL : ELow E) {SP : CT} (hSP : MONO SP) {done : List LE} {e : LE} (c2 : Nat.blt 0 e.2.2.1 = true) (c3 : (e.2.1.all fun j => match done[j]? with
      | some q => Nat.blt q.2.2.1 e.2.2.1
      | none => true) = true) (c4 : (calL done e).all smwf = true) (c5 : (match mtab[e.1.1]? with
      | some mi => chk E (calL done e) mi (slfL E e.1) e.1 e.2.2.2.2.2 e.2.2.2.2.1 e.2.2.2.1
      | none => false) = true) (hd : ∀ e ∈ done, SMOK E rl sh (CLd SP e.2.2.1) e.1) : SMOK E rl sh (CLd SP e.2.2.1) e.1 := by
  split at c5
  rotate_left
  · cases c5
  rename_i mi hmi
  have c2 : 0 < e.2.2.1 := Nat.le_of_ble_eq_true c2
  obtain ⟨d, hd1⟩ : ∃ d, e.2.2.1 = d + 1 := ⟨e.2.2.1 - 1, by omega⟩
  rw [hd1]
  refine chk_ok hE hL (sms := calL done e) (fun sm hm => List.all_eq_true.mp c4 sm hm) (fun sm hm => ?_) (MONO_CLd hSP d) hmi c5
  obtain ⟨j, hj, hj2⟩ := List.mem_filterMap.mp hm
  have z := List.all_eq_true.mp c3 j hj
  cases hdj : done[j]? with
  | none => rw [hdj] at hj2; cases hj2
  | some q =>
    rw [hdj] at hj2 z
    have z : q.2.2.1 < e.2.2.1 := Nat.le_of_ble_eq_true z
    have : q.1 = sm := Option.some.inj hj2
    rw [← this]
    exact SMOK_le (by omega) (hd q (List.mem_of_getElem? hdj))
theorem chkL_ok {E : ET} {rl : List Nat} {sh : List (Nat × Nat)} (hE : EOK E rl (fun _ => none)) (hL : ELow E) {SP : CT} (hSP : MONO SP) (l : List LE) : ∀ (done : List LE), chkL E done l = true → (∀ e ∈ done, SMOK E rl sh (CLd SP e.2.2.1) e.1) → ∀ e ∈ l, SMOK E rl sh (CLd SP e.2.2.1) e.1 := by
  induction l with
  | nil => intro _ _ _ e he; exact absurd he List.not_mem_nil
  | cons e t ih =>
    intro done hc hd e' he'
    unfold chkL at hc
    simp only [Bool.and_eq_true] at hc
    obtain ⟨⟨⟨⟨c2, c3⟩, c4⟩, c5⟩, c6⟩ := hc
    have hs := chk1_ok hE hL hSP c2 c3 c4 c5 hd
    rcases List.mem_cons.mp he' with rfl | he'
    · exact hs
    · refine ih (e :: done) c6 (fun q hq => ?_) e' he'
      rcases List.mem_cons.mp hq with rfl | hq
      · exact hs
      · exact hd q hq
