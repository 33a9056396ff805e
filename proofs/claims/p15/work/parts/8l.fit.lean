/-! THE RULE: both ways, one answer -/
theorem rule_fit {h h' : aH} {u v : Nat} {rv : Option Value} (hn : 0 ≤ gi h 1 1 ∧ gi h 1 1 ≤ 80) (hd : (gi h 1 1 = 0 ∧ rv = some (.int (I 0)) ∧ aR h' 0 4 = some u ∧ aR h' 0 5 = some v ∧ gi h' u 1 = 0) ∨ (gi h 1 1 ≠ 0 ∧ ∃ (p : Int) (q s : List Int) (d : Nat) (c : Nat → Bool) (w : Bool), GoR (txF (gi h 2) (min (gi h 1 1) 40)) (0, [], [], 0, fun _ => false, true) (p, q, s, d, c, w) ∧ mstp (txF (gi h 2) (min (gi h 1 1) 40)) (p, q, s, d, c, w) = none ∧ (0 ≤ p ∧ p ≤ min (gi h 1 1) 40) ∧ (((cfl (gi h 1 1) 40 (!w && decide (d = 0), p)) ≠ -1 ∧ rv = some (.int (I (-1 - (cfl (gi h 1 1) 40 (!w && decide (d = 0), p))))) ∧ aR h' 0 4 = some u ∧ aR h' 0 5 = some v ∧ gi h' u 1 = gi h u 1 ∧ ∀ j, gi h' (u + 1) j = gi h (u + 1) j) ∨ ((cfl (gi h 1 1) 40 (!w && decide (d = 0), p)) = -1 ∧ rv = some (.int (I 0)) ∧ aR h' 0 4 = some v ∧ aR h' 0 5 = some u ∧ cdL h' v (gi h' v 1).toNat = q ++ ngs (popS 1 s))))) :
    ∃ e : Int, rv = some (.int (I e)) ∧ r32 e ∧ (gi h 1 1 = 0 → e = 0 ∧ aR h' 0 4 = some u ∧ aR h' 0 5 = some v ∧ gi h' u 1 = 0) ∧
      (gi h 1 1 ≠ 0 → (∀ a, (txF (gi h 2) (min (gi h 1 1) 40)) a ≤ 255) → ∀ (ok : Bool) (z : Int) (L : List Int), PR (txF (gi h 2) (min (gi h 1 1) 40)) 0 0 0 ok z L → (0 ≤ z ∧ z ≤ min (gi h 1 1) 40) → e = fltF (gi h 1 1) 40 (ok, z) ∧
        (fltF (gi h 1 1) 40 (ok, z) < 0 → aR h' 0 4 = some u ∧ aR h' 0 5 = some v ∧ gi h' u 1 = gi h u 1 ∧ ∀ j, gi h' (u + 1) j = gi h (u + 1) j) ∧
        (fltF (gi h 1 1) 40 (ok, z) = 0 → aR h' 0 4 = some v ∧ aR h' 0 5 = some u ∧ cdL h' v (gi h' v 1).toNat = L)) := by
  rcases hd with ⟨n0, rfl, a1, a2, a3⟩ | ⟨n0, p, q, s, d, c, w, hgo, hst, hp, hd⟩
  · exact ⟨0, rfl, by omega, fun _ => ⟨rfl, a1, a2, a3⟩, fun z => absurd n0 z⟩
  · have key : ∀ (ok : Bool) (z : Int) (L : List Int), (∀ a, (txF (gi h 2) (min (gi h 1 1) 40)) a ≤ 255) → PR (txF (gi h 2) (min (gi h 1 1) 40)) 0 0 0 ok z L → (!w && decide (d = 0)) = ok ∧ p = z ∧ (ok = true → q ++ ngs (popS 1 s) = L) := by
      intro ok z L h255 hpr
      obtain ⟨k1, k2, k3⟩ := pr_all h255 hpr hgo hst
      refine ⟨?_, k1, fun y => (k2 y).2.2⟩
      cases ok with
      | true =>
        obtain ⟨y1, y2, -⟩ := k2 rfl
        have y1 : w = false := y1
        have y2 : d = 0 := y2
        rw [y1, y2]; rfl
      | false =>
        have y := k3 rfl
        have y : w = true ∨ 0 < d := y
        rcases y with y | y
        · rw [y]; rfl
        · rw [decide_eq_false (show ¬ d = 0 by omega), Bool.and_false]
    have cb : -1 ≤ (cfl (gi h 1 1) 40 (!w && decide (d = 0), p)) ∧ (cfl (gi h 1 1) 40 (!w && decide (d = 0), p)) ≤ 40 := by unfold cfl; (try dsimp only); (repeat' split) <;> omega
    rcases hd with ⟨c1, rfl, b1, b2, b3, b4⟩ | ⟨c1, rfl, b1, b2, b3⟩
    · refine ⟨_, rfl, by omega, fun z => absurd z n0, fun _ h255 ok z L hpr hz => ?_⟩
      obtain ⟨k1, k2, k3⟩ := key ok z L h255 hpr
      rw [k1, k2] at c1 ⊢
      have f1 := cfl_flt (n := (gi h 1 1)) (most := 40) (r := (ok, z)) (by omega) hn.1 hz.1 hz.2
      have f2 := fltF_lt (n := (gi h 1 1)) (most := 40) (r := (ok, z)) (by omega) hn.1 hz.1 hz.2 c1
      exact ⟨f1.2 c1, fun _ => ⟨b1, b2, b3, b4⟩, fun y => by omega⟩
    · refine ⟨_, rfl, by omega, fun z => absurd z n0, fun _ h255 ok z L hpr hz => ?_⟩
      obtain ⟨k1, k2, k3⟩ := key ok z L h255 hpr
      rw [k1, k2] at c1
      have f1 := cfl_flt (n := (gi h 1 1)) (most := 40) (r := (ok, z)) (by omega) hn.1 hz.1 hz.2
      have f0 := f1.1.mp c1
      have ot := (fltF_0 (n := (gi h 1 1)) (most := 40) (r := (ok, z)) (by omega) hz.1 f0).1
      exact ⟨f0.symm, fun y => by omega, fun _ => ⟨b1, b2, by rw [b3]; exact k3 ot⟩⟩
/-- what stands in a rule's code -/
def cdP (x : Int) : Prop := (0 ≤ x ∧ x ≤ 999) ∨ x = -256 ∨ (x = -60 ∨ x = -62 ∨ x = -61 ∨ x = -43 ∨ x = -45 ∨ x = -42 ∨ x = -47) ∨ (x = -108 ∨ x = -112 ∨ x = -120 ∨ x = -110)
theorem cdP_op {s : Int} (h : 1 ≤ rkI s ∧ rkI s ≤ 3) : cdP (-s) := by
  refine Or.inr (Or.inr (Or.inl ?_))
  unfold rkI at h
  (repeat' split at h) <;> omega
theorem cdP_ask {s : Int} (h : askI s) : cdP (-s) := by
  refine Or.inr (Or.inr (Or.inr ?_))
  unfold askI at h
  omega
theorem cdP_app {A B : List Int} (ha : ∀ x ∈ A, cdP x) (hb : ∀ x ∈ B, cdP x) : ∀ x ∈ A ++ B, cdP x := fun x hx => (List.mem_append.mp hx).elim (ha x) (hb x)
theorem cdP_one {y : Int} (h : cdP y) : ∀ x ∈ [y], cdP x := fun x hx => by rw [List.mem_singleton.mp hx]; exact h
theorem pr_cd {f : Int → Int} {m d : Nat} {p q : Int} {ok : Bool} {L : List Int} (h : PR f m d p ok q L) : ok = true → ∀ x ∈ L, cdP x := by
  refine h (fun m d p ok q L => ok = true → ∀ x ∈ L, cdP x) ⟨?_, ?_, ?_, ?_, ?_, ?_, ?_, ?_, ?_, ?_, ?_, ?_, ?_⟩
  · intro d p q ok L _ ih hk
    exact cdP_app (ih hk) (cdP_one (Or.inr (Or.inl rfl)))
  · intro d p hp _
    exact cdP_one (Or.inl (nm_999 hp))
  · intro d p hp _
    exact cdP_one (cdP_ask hp)
  · intro d p _ _ _ _ hk; cases hk
  · intro d p q L _ _ _ hk; cases hk
  · intro d p q L _ _ _ _ hk; cases hk
  · intro d p q L _ _ ih _ _
    exact ih rfl
  · intro r d p q L _ _ hk; cases hk
  · intro r d p q q' ok L L' hr i1 i2 hk
    exact cdP_app (i1 rfl) (i2 hk)
  · intro r d p _ _ _ x hx
    exact absurd hx List.not_mem_nil
  · intro r d p q L _ _ _ hk; cases hk
  · intro d p q L hr ih _
    exact cdP_app (ih rfl) (cdP_one (cdP_op (by omega)))
  · intro r d p q q' ok L L' h0 h1 hr i1 i2 hk
    exact cdP_app (cdP_app (i1 rfl) (cdP_one (cdP_op (by omega)))) (i2 hk)
