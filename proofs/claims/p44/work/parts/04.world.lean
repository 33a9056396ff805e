/-! THE ABSTRACT HEAP AS A WORLD OF THE KIT -/
def wv (ad : Nat → Nat) (h : aH) (a k t : Nat) : Value := match t with
  | 1 => .long (aJ h a k)
  | 2 => va_rf ((aR h a k).map ad)
  | _ => .int (aI h a k)
/-- the fields' kinds -/
def fkt : List (List Nat) := [[2,2,2,2,2,3], [2,0,0,2,2], [0,2,2], [2,0], [2,0,2,0], [2,0,0,0,3], [0,0,0,2,2], [0,2,2], [0,0,0,0,0,2,2,2,2], [2,0,0,0,3,3], [2,2,2,2,2,2,2,2,2,0,2,2,2,2,2,2,2], [0,0,2,0,0,0,0,0,0,2,2,2,2,2,2,2,2,0,0,0,0,2,0,2,2,0,0,2,2,0,2,0,0,2,2,0,2,2,2,1,1,2,0,2,2,2,2,2,0,0,2,2,2]]
def fkd (ci k : Nat) : Nat := (fkt.getD ci []).getD k 0
def arc (ad : Nat → Nat) (h : aH) (i t : Nat) : ((Nat → Int32) ⊕ (Nat → Int64) ⊕ (Nat → UInt32) ⊕ (Nat → UInt64) ⊕ (Nat → Option Nat)) :=
  if t = 1 then .inr (.inl (aJ h i)) else if 4 ≤ t then .inr (.inr (.inr (.inr (fun k => (aR h i k).map ad)))) else .inl (aI h i)
def enS (cy : Nat → ClassId) (ad : Nat → Nat) (h : aH) (i : Nat) (s : Nat × Nat) : va_E :=
  if s.1 < 100 then .inl (cy s.1, s.2, arc ad h i s.1) else .inr (s.1 - 100, (List.range s.2).map (fun k => wv ad h i k (fkd (s.1 - 100) k)))
def wd (cy : Nat → ClassId) (ad : Nat → Nat) (h : aH) : va_W := (List.range h.1.length).map (fun i => (ad i, enS cy ad h i (h.1.getD i (0, 0))))
theorem wd_get {cy : Nat → ClassId} {ad : Nat → Nat} {h : aH} {i : Nat} {s : Nat × Nat} (hs : h.1[i]? = some s) : (wd cy ad h)[i]? = some (ad i, enS cy ad h i s) := by
  have hi : i < h.1.length := (List.getElem?_eq_some_iff.mp hs).1
  unfold wd
  rw [List.getElem?_map, List.getElem?_range hi]
  simp [List.getD_eq_getElem?_getD, hs]
theorem wd_len (cy : Nat → ClassId) (ad : Nat → Nat) (h : aH) : (wd cy ad h).length = h.1.length := by simp [wd]
/-- one entry anew -/
theorem wd_set {cy : Nat → ClassId} {ad : Nat → Nat} {h h' : aH} {a : Nat} {s : Nat × Nat} {e : va_E} (hs : h.1[a]? = some s) (h1 : h'.1 = h.1) (he : enS cy ad h' a s = e) (ho : ∀ i s', i ≠ a → enS cy ad h' i s' = enS cy ad h i s') :
    (wd cy ad h).set a (ad a, e) = wd cy ad h' := by
  have ha : a < h.1.length := (List.getElem?_eq_some_iff.mp hs).1
  apply List.ext_getElem?
  intro j
  by_cases hj : j < h.1.length
  · have hsj : h.1[j]? = some h.1[j] := List.getElem?_eq_getElem hj
    have hsj' : h'.1[j]? = some h.1[j] := by rw [h1]; exact hsj
    rw [wd_get hsj']
    by_cases e2 : a = j
    · subst e2
      rw [List.getElem?_set_self (by rw [wd_len]; exact ha)]
      have : h.1[a] = s := by rw [hsj] at hs; exact Option.some.inj hs
      rw [this, he]
    · rw [List.getElem?_set_ne e2, wd_get hsj, ho j _ (fun q => e2 q.symm)]
  · rw [List.getElem?_eq_none (by rw [List.length_set, wd_len]; omega), List.getElem?_eq_none (by rw [wd_len, h1]; omega)]
theorem up_s {α : Type} {f : Nat → α} {k : Nat} {v : α} : a_up f k v k = v := if_pos rfl
theorem up_n {α : Type} {f : Nat → α} {k j : Nat} {v : α} (h : j ≠ k) : a_up f k v j = f j := if_neg h
/-- entries depend on their own rows alone -/
theorem enS_congr {cy : Nat → ClassId} {ad : Nat → Nat} {h h' : aH} {i : Nat} {s : Nat × Nat} (hI : aI h' i = aI h i) (hJ : aJ h' i = aJ h i) (hR : aR h' i = aR h i) : enS cy ad h' i s = enS cy ad h i s := by
  unfold enS arc wv
  simp only [hI, hJ, hR]
/-- references are of cells that are there -/
def RV (h : aH) : Prop := ∀ a k b, aR h a k = some b → b < h.1.length
theorem enS_ad {cy : Nat → ClassId} {ad ad' : Nat → Nat} {h : aH} {i : Nat} {s : Nat × Nat} (hv : RV h) (hd : ∀ j, j < h.1.length → ad' j = ad j) : enS cy ad' h i s = enS cy ad h i s := by
  have e : ∀ k, (aR h i k).map ad' = (aR h i k).map ad := fun k => by
    cases hk : aR h i k with
    | none => rfl
    | some b => simp [hd b (hv i k b hk)]
  unfold enS arc wv
  simp only [e]
theorem wd_ad {cy : Nat → ClassId} {ad ad' : Nat → Nat} {h : aH} (hv : RV h) (hd : ∀ j, j < h.1.length → ad' j = ad j) : wd cy ad' h = wd cy ad h := by
  unfold wd
  apply List.map_congr_left
  intro i hi
  rw [List.mem_range] at hi
  rw [hd i hi, enS_ad hv hd]
theorem nO_len (h : aH) (s : Nat × Nat) : (nO h s).1.length = h.1.length + 1 := by simp [nO]
theorem nO_RV {h : aH} {s : Nat × Nat} (hv : RV h) : RV (nO h s) := by
  intro a k b hb
  rw [nO_len]
  by_cases e : a = h.1.length
  · subst e
    simp [aR, nO, up_s] at hb
  · have : aR (nO h s) a k = aR h a k := by simp [aR, nO, up_n e]
    rw [this] at hb
    have := hv a k b hb
    omega
def dfv (t : Nat) : Value := match t with
  | 1 => .long 0
  | 2 => .null
  | _ => .int 0
/-- what a new cell is -/
def enN (cy : Nat → ClassId) (s : Nat × Nat) : va_E :=
  if s.1 < 100 then .inl (cy s.1, s.2, if s.1 = 1 then .inr (.inl (fun _ => 0)) else if 4 ≤ s.1 then .inr (.inr (.inr (.inr (fun _ => none)))) else .inl (fun _ => 0)) else .inr (s.1 - 100, (List.range s.2).map (fun k => dfv (fkd (s.1 - 100) k)))
theorem wd_nO {cy : Nat → ClassId} {ad : Nat → Nat} {h : aH} {s : Nat × Nat} (hv : RV h) (q : Nat) : wd cy (a_up ad h.1.length q) (nO h s) = wd cy ad h ++ [(q, enN cy s)] := by
  have hs : ∀ i, i < h.1.length → (nO h s).1.getD i (0, 0) = h.1.getD i (0, 0) := fun i hi => by
    simp [nO, List.getD_eq_getElem?_getD, List.getElem?_append_left hi]
  have e1 : wd cy (a_up ad h.1.length q) (nO h s) = (List.range (h.1.length + 1)).map (fun i => (a_up ad h.1.length q i, enS cy (a_up ad h.1.length q) (nO h s) i ((nO h s).1.getD i (0, 0)))) := by
    unfold wd
    rw [nO_len]
  rw [e1, List.range_succ, List.map_append]
  congr 1
  · unfold wd
    apply List.map_congr_left
    intro i hi
    rw [List.mem_range] at hi
    rw [hs i hi, up_n (Nat.ne_of_lt hi), enS_congr (h := h), enS_ad hv]
    · intro j hj
      exact up_n (Nat.ne_of_lt hj)
    · simp [aI, nO, up_n (Nat.ne_of_lt hi)]
    · simp [aJ, nO, up_n (Nat.ne_of_lt hi)]
    · simp [aR, nO, up_n (Nat.ne_of_lt hi)]
  · have hg : (nO h s).1.getD h.1.length (0, 0) = s := by simp [nO, List.getD_eq_getElem?_getD]
    simp only [List.map_cons, List.map_nil, hg, up_s]
    have eI : aI (nO h s) h.1.length = fun _ => 0 := by simp [aI, nO, up_s]
    have eJ : aJ (nO h s) h.1.length = fun _ => 0 := by simp [aJ, nO, up_s]
    have eR : aR (nO h s) h.1.length = fun _ => none := by simp [aR, nO, up_s]
    congr 2
    unfold enS enN arc wv
    simp only [eI, eJ, eR, Option.map_none, va_rf]
    rfl
theorem wv_cv (ad : Nat → Nat) (h : aH) (a k t : Nat) : wv ad h a k t = cv ad (fv h a k t) := by
  unfold wv fv
  match t with
  | 0 => rfl
  | 1 => rfl
  | 2 => show va_rf _ = cv ad (va_rf _); cases aR h a k <;> rfl
  | t + 3 => rfl
theorem cv_rf (ad : Nat → Nat) (r : Option Nat) : cv ad (va_rf r) = va_rf (r.map ad) := by cases r <;> rfl
theorem cv_cat (ad : Nat → Nat) (v : Value) : (cv ad v).category = v.category := by cases v <;> rfl
theorem cv_ok {ad ad' : Nat → Nat} {h : aH} {v : Value} (hv : okv h v = true) (hd : ∀ j, j < h.1.length ∨ 1000000 ≤ j → ad' j = ad j) : cv ad' v = cv ad v := by
  cases v with
  | ref a =>
    simp only [okv, Bool.or_eq_true, decide_eq_true_eq] at hv
    exact congrArg Value.ref (hd a hv)
  | _ => rfl
theorem cvs_ok {ad ad' : Nat → Nat} {h : aH} {st : List Value} (hv : (st.all fun v => okv h v) = true) (hd : ∀ j, j < h.1.length ∨ 1000000 ≤ j → ad' j = ad j) : st.map (cv ad') = st.map (cv ad) :=
  List.map_congr_left fun v h9 => cv_ok (List.all_eq_true.mp hv v h9) hd
def cvl (ad : Nat → Nat) (ls : List (Nat × Value)) : List (Nat × Value) := ls.map fun q => (q.1, cv ad q.2)
theorem cvl_ok {ad ad' : Nat → Nat} {h : aH} {ls : List (Nat × Value)} (hv : (ls.all fun q => okv h q.2) = true) (hd : ∀ j, j < h.1.length ∨ 1000000 ≤ j → ad' j = ad j) : cvl ad' ls = cvl ad ls :=
  List.map_congr_left fun q h9 => by rw [cv_ok (List.all_eq_true.mp hv q h9) hd]
theorem cvl_filter (ad : Nat → Nat) (f : Nat → Nat → Bool) (ls : List (Nat × Value)) : (cvl ad ls).filter (fun q => f q.1 q.2.category) = cvl ad (ls.filter (fun q => f q.1 q.2.category)) := by
  unfold cvl
  rw [List.filter_map]
  congr 1
  apply List.filter_congr
  intro q _
  simp [cv_cat]
theorem cvl_so1 (ad : Nat → Nat) (ls : List (Nat × Value)) (i : Nat) (v : Value) : (i, cv ad v) :: (cvl ad ls).filter (fun q => !(q.1 == i) && !(q.1 + 1 == i && q.2.category == 2)) = cvl ad (so1 ls i v) :=
  congrArg (fun l => (i, cv ad v) :: l) (cvl_filter ad (fun a b => !(a == i) && !(a + 1 == i && b == 2)) ls)
theorem cvl_so2 (ad : Nat → Nat) (ls : List (Nat × Value)) (i : Nat) (v : Value) : (i, cv ad v) :: (cvl ad ls).filter (fun q => !(q.1 == i) && (!(q.1 == i + 1) && !(q.1 + 1 == i && q.2.category == 2))) = cvl ad (so2 ls i v) :=
  congrArg (fun l => (i, cv ad v) :: l) (cvl_filter ad (fun a b => !(a == i) && (!(a == i + 1) && !(a + 1 == i && b == 2))) ls)
theorem lk_at {ad : Nat → Nat} : ∀ {ls : List (Nat × Value)} {i : Nat} {v : Value}, lk ls i = some v → ∃ k : Nat, (cvl ad ls)[k]? = some (i, cv ad v) := by
  intro ls
  induction ls with
  | nil => intro i v h; cases h
  | cons q r ih =>
    intro i v h
    unfold lk at h
    by_cases e : q.1 = i
    · rw [if_pos e] at h
      cases h
      exact ⟨0, by simp [cvl, ← e]⟩
    · rw [if_neg e] at h
      obtain ⟨k, hk⟩ := ih h
      exact ⟨k + 1, by simpa [cvl] using hk⟩
theorem catsum_cv (ad : Nat → Nat) (st : List Value) : catsum (st.map (cv ad)) = catsum st := by
  unfold catsum
  rw [List.map_map]
  congr 1
  apply List.map_congr_left
  intro v _
  exact cv_cat ad v
