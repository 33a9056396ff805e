/-! SHIPS AND TEXTS, the same of both -/
theorem mpL_eq {h h' : aH} {n : Nat} (h3 : ∀ j, j < n → gi h' 173 j = gi h 173 j ∧ gi h' 174 j = gi h 174 j) : mpL h' n = mpL h n := by
  unfold mpL
  exact List.map_congr_left fun j hj => by rw [(h3 j (List.mem_range.mp hj)).1, (h3 j (List.mem_range.mp hj)).2]
theorem txF_eq {t t' : Nat → Int} {n m : Int} (h : ∀ j : Nat, (j : Int) < n → t j = t' j) : txF t (min n m) = txF t' (min n m) := funext fun a => by
  unfold txF
  split
  · exact h _ (by omega)
  · rfl
