/-! THE CELLS OF THE WORLD, one store at a time -/
theorem enS_obj (cy : Nat → ClassId) (ad : Nat → Nat) (h : aH) (a ci n : Nat) : enS cy ad h a (100 + ci, n) = .inr (ci, (List.range n).map (fun k => wv ad h a k (fkd ci k))) := by
  unfold enS
  rw [if_neg (by show ¬ 100 + ci < 100; omega)]
  simp only [Nat.add_sub_cancel_left]
theorem enS_arr (cy : Nat → ClassId) (ad : Nat → Nat) (h : aH) (a : Nat) {t n : Nat} (ht : t < 100) : enS cy ad h a (t, n) = .inl (cy t, n, arc ad h a t) := if_pos ht
theorem rng_get {α : Type} (f : Nat → α) {n k : Nat} (h : k < n) : ((List.range n).map f)[k]? = some (f k) := by rw [List.getElem?_map, List.getElem?_range h]; rfl
theorem rng_set {α : Type} {f g : Nat → α} {n k : Nat} {x : α} (hk : g k = x) (ho : ∀ j, j ≠ k → g j = f j) : ((List.range n).map f).set k x = (List.range n).map g := by
  apply List.ext_getElem?
  intro j
  by_cases hj : j < n
  · rw [rng_get g hj]
    by_cases e : k = j
    · subst e
      rw [List.getElem?_set_self (by simpa using hj), hk]
    · rw [List.getElem?_set_ne e, rng_get f hj, ho j (fun q => e q.symm)]
  · rw [List.getElem?_eq_none (by simp; omega), List.getElem?_eq_none (by simp; omega)]
theorem wd_sI_obj {cy : Nat → ClassId} {ad : Nat → Nat} {h : aH} {a ci n k : Nat} {v : Int32} (hs : h.1[a]? = some (100 + ci, n)) (hk : fkd ci k ≠ 1 ∧ fkd ci k ≠ 2) :
    (wd cy ad h).set a (ad a, .inr (ci, ((List.range n).map (fun k => wv ad h a k (fkd ci k))).set k (.int v))) = wd cy ad (sI h a k v) := by
  refine wd_set hs rfl ?_ (fun i s' hi => enS_congr (up_n hi) rfl rfl)
  rw [enS_obj, rng_set (g := fun k' => wv ad (sI h a k v) a k' (fkd ci k'))]
  · unfold wv
    have e : aI (sI h a k v) a k = v := by simp [aI, sI, up_s, upd]
    split
    · rename_i q; exact absurd q hk.1
    · rename_i q; exact absurd q hk.2
    · rw [e]
  · intro j hj
    have e : aI (sI h a k v) a j = aI h a j := by simp [aI, sI, up_s, upd, hj]
    unfold wv
    rw [e]
    rfl
theorem wd_sJ_obj {cy : Nat → ClassId} {ad : Nat → Nat} {h : aH} {a ci n k : Nat} {v : Int64} (hs : h.1[a]? = some (100 + ci, n)) (hk : fkd ci k = 1) :
    (wd cy ad h).set a (ad a, .inr (ci, ((List.range n).map (fun k => wv ad h a k (fkd ci k))).set k (.long v))) = wd cy ad (sJ h a k v) := by
  refine wd_set hs rfl ?_ (fun i s' hi => enS_congr rfl (up_n hi) rfl)
  rw [enS_obj, rng_set (g := fun k' => wv ad (sJ h a k v) a k' (fkd ci k'))]
  · have e : aJ (sJ h a k v) a k = v := by simp [aJ, sJ, up_s, vp_updL]
    rw [hk]
    show Value.long _ = _
    rw [e]
  · intro j hj
    have e : aJ (sJ h a k v) a j = aJ h a j := by simp [aJ, sJ, up_s, vp_updL, hj]
    unfold wv
    rw [e]
    rfl
theorem wd_sR_obj {cy : Nat → ClassId} {ad : Nat → Nat} {h : aH} {a ci n k : Nat} {v : Nat} (hs : h.1[a]? = some (100 + ci, n)) (hk : fkd ci k = 2) :
    (wd cy ad h).set a (ad a, .inr (ci, ((List.range n).map (fun k => wv ad h a k (fkd ci k))).set k (.ref (ad v)))) = wd cy ad (sR h a k (some v)) := by
  refine wd_set hs rfl ?_ (fun i s' hi => enS_congr rfl rfl (up_n hi))
  rw [enS_obj, rng_set (g := fun k' => wv ad (sR h a k (some v)) a k' (fkd ci k'))]
  · have e : aR (sR h a k (some v)) a k = some v := by simp [aR, sR, up_s, va_up]
    rw [hk]
    show va_rf _ = _
    rw [e]
    rfl
  · intro j hj
    have e : aR (sR h a k (some v)) a j = aR h a j := by simp [aR, sR, up_s, va_up, hj]
    unfold wv
    rw [e]
    rfl
theorem wd_sI_arr {cy : Nat → ClassId} {ad : Nat → Nat} {h : aH} {a t n k : Nat} {v : Int32} (hs : h.1[a]? = some (t, n)) (ht : t = 0 ∨ t = 2 ∨ t = 3) :
    (wd cy ad h).set a (ad a, .inl (cy t, n, .inl (upd (aI h a) k v))) = wd cy ad (sI h a k v) := by
  refine wd_set hs rfl ?_ (fun i s' hi => enS_congr (up_n hi) rfl rfl)
  rw [enS_arr _ _ _ _ (by omega)]
  have e : aI (sI h a k v) a = upd (aI h a) k v := up_s
  rcases ht with rfl | rfl | rfl <;> simp [arc, e]
theorem wd_sJ_arr {cy : Nat → ClassId} {ad : Nat → Nat} {h : aH} {a n k : Nat} {v : Int64} (hs : h.1[a]? = some (1, n)) :
    (wd cy ad h).set a (ad a, .inl (cy 1, n, .inr (.inl (vp_updL (aJ h a) k v)))) = wd cy ad (sJ h a k v) := by
  refine wd_set hs rfl ?_ (fun i s' hi => enS_congr rfl (up_n hi) rfl)
  rw [enS_arr _ _ _ _ (by omega)]
  have e : aJ (sJ h a k v) a = vp_updL (aJ h a) k v := up_s
  simp [arc, e]
theorem wd_sR_arr {cy : Nat → ClassId} {ad : Nat → Nat} {h : aH} {a n k v : Nat} (hs : h.1[a]? = some (4, n)) :
    (wd cy ad h).set a (ad a, .inl (cy 4, n, .inr (.inr (.inr (.inr (va_up (fun k => (aR h a k).map ad) k (some (ad v)))))))) = wd cy ad (sR h a k (some v)) := by
  refine wd_set hs rfl ?_ (fun i s' hi => enS_congr rfl rfl (up_n hi))
  rw [enS_arr _ _ _ _ (by omega)]
  have e : aR (sR h a k (some v)) a = va_up (aR h a) k (some v) := up_s
  simp only [arc, e, if_neg (show ¬ (4 : Nat) = 1 by decide), if_pos (Nat.le_refl 4)]
  congr 7
  funext j
  by_cases hj : j = k
  · subst hj; simp [va_up]
  · simp [va_up, hj]
theorem wd_sC {cy : Nat → ClassId} {ad : Nat → Nat} {h : aH} {a0 a n sp dp z : Nat} (hs : h.1[a]? = some (0, n)) :
    (wd cy ad h).set a (ad a, .inl (cy 0, n, .inl (va_cpy (aI h a0) (aI h a) sp dp z))) = wd cy ad (sC h a0 sp a dp z) := by
  refine wd_set hs rfl ?_ (fun i s' hi => enS_congr (up_n hi) rfl rfl)
  rw [enS_arr _ _ _ _ (by omega)]
  have e : aI (sC h a0 sp a dp z) a = va_cpy (aI h a0) (aI h a) sp dp z := up_s
  simp [arc, e]
theorem RV_sI {h : aH} {a k : Nat} {v : Int32} (hv : RV h) : RV (sI h a k v) := hv
theorem RV_sJ {h : aH} {a k : Nat} {v : Int64} (hv : RV h) : RV (sJ h a k v) := hv
theorem RV_sC {h : aH} {a0 a sp dp z : Nat} (hv : RV h) : RV (sC h a0 sp a dp z) := hv
theorem RV_sR {h : aH} {a k v : Nat} (hv : RV h) (hlt : v < h.1.length) : RV (sR h a k (some v)) := by
  intro b j x hx
  show x < h.1.length
  by_cases e : b = a
  · subst e
    by_cases e2 : j = k
    · subst e2
      simp [aR, sR, up_s, va_up] at hx
      omega
    · have : aR h b j = some x := by simpa [aR, sR, up_s, va_up, e2] using hx
      exact hv b j x this
  · have : aR h b j = some x := by simpa [aR, sR, up_n e] using hx
    exact hv b j x this
/-- array classes of arrays that are there -/
def va_AOA (t : FieldType) (U : State) : Prop := (Jvm.Cond.arrayOver (.array t)).before #[] U = true
theorem va_AOA.use {t : FieldType} {A : Array Value} {U : State} (h : va_AOA t U) : (Jvm.Cond.arrayOver (.array t)).before A U = true := h
theorem va_AOA.of {t : FieldType} {A : Array Value} {U : State} (h : (Jvm.Cond.arrayOver (.array t)).before A U = true) : va_AOA t U := h
theorem va_AOA.moved {t : FieldType} {u U : State} (hvm : u.vm.Alike U.vm) (h : va_AOA t u) : va_AOA t U :=
  (Cond.arrayOver_setVmC (args := #[]) (s := u) hvm (.array t)).trans h
