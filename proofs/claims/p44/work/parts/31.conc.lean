/-! CONCRETE RUNS: the makers of things -/
/-- how many cells, their shapes, ints and references that were written, the newest first -/
abbrev cH : Type := Nat × List (Nat × Nat × Nat) × List (Nat × Nat × Int32) × List (Nat × Nat × Nat)
def shG (l : List (Nat × Nat × Nat)) (a : Nat) : Option (Nat × Nat) := match l with
  | [] => none
  | q :: t => if Nat.beq q.1 a then some q.2 else shG t a
def rI (l : List (Nat × Nat × Int32)) (a k : Nat) : Int32 := match l with
  | [] => 0
  | q :: t => if Nat.beq q.1 a && Nat.beq q.2.1 k then q.2.2 else rI t a k
def rR (l : List (Nat × Nat × Nat)) (a k : Nat) : Option Nat := match l with
  | [] => none
  | q :: t => if Nat.beq q.1 a && Nat.beq q.2.1 k then some q.2.2 else rR t a k
/-- a heap is as the concrete one says -/
def REL (c : cH) (h : aH) : Prop := h.1.length = c.1 ∧ (∀ a s, shG c.2.1 a = some s → h.1[a]? = some s) ∧ (∀ a k, aI h a k = rI c.2.2.1 a k) ∧ (∀ a k, aJ h a k = 0) ∧ (∀ a k, aR h a k = rR c.2.2.2 a k) ∧ (∀ q ∈ c.2.2.1, q.1 < c.1) ∧ (∀ q ∈ c.2.2.2, q.1 < c.1)
theorem rI_fresh : ∀ {l : List (Nat × Nat × Int32)} {n k : Nat}, (∀ q ∈ l, q.1 < n) → rI l n k = 0
  | [], _, _, _ => rfl
  | q :: t, n, k, h => by
    unfold rI
    have : q.1 ≠ n := by have := h q List.mem_cons_self; omega
    rw [if_neg (by simp [this])]
    exact rI_fresh fun q hq => h q (List.mem_cons_of_mem _ hq)
theorem rR_fresh : ∀ {l : List (Nat × Nat × Nat)} {n k : Nat}, (∀ q ∈ l, q.1 < n) → rR l n k = none
  | [], _, _, _ => rfl
  | q :: t, n, k, h => by
    unfold rR
    have : q.1 ≠ n := by have := h q List.mem_cons_self; omega
    rw [if_neg (by simp [this])]
    exact rR_fresh fun q hq => h q (List.mem_cons_of_mem _ hq)
theorem rR_cons {q : Nat × Nat × Nat} {t : List (Nat × Nat × Nat)} {a k : Nat} : rR (q :: t) a k = if Nat.beq q.1 a && Nat.beq q.2.1 k then some q.2.2 else rR t a k := rfl
theorem REL.okv {c : cH} {h : aH} (hr : REL c h) {b : Nat} (hb : b < c.1) : b < h.1.length := by rw [hr.1]; exact hb
theorem REL.new {c : cH} {h : aH} (hr : REL c h) (s : Nat × Nat) : REL (c.1 + 1, (c.1, s) :: c.2.1, c.2.2.1, c.2.2.2) (nO h s) := by
  obtain ⟨r1, r2, r3, r4, r5, r6, r7⟩ := hr
  refine ⟨?_, ?_, ?_, ?_, ?_, ?_, ?_⟩
  · show (h.1 ++ [s]).length = _
    rw [List.length_append, r1]; rfl
  · intro a s' ha
    have ha : shG ((c.1, s) :: c.2.1) a = some s' := ha
    unfold shG at ha
    show (h.1 ++ [s])[a]? = some s'
    split at ha
    · rename_i e
      cases ha
      rw [← Nat.beq_eq.mp e, ← r1, List.getElem?_append_right (Nat.le_refl _), Nat.sub_self]
      rfl
    · have := r2 a s' ha
      rw [List.getElem?_append_left (List.getElem?_eq_some_iff.mp this).1]
      exact this
  · intro a k
    show a_up h.2.1 h.1.length (fun _ => 0) a k = rI c.2.2.1 a k
    by_cases e : a = h.1.length
    · rw [e, up_s, r1, rI_fresh r6]
    · rw [up_n e]; exact r3 a k
  · intro a k
    show a_up h.2.2.1 h.1.length (fun _ => 0) a k = 0
    by_cases e : a = h.1.length
    · rw [e, up_s]
    · rw [up_n e]; exact r4 a k
  · intro a k
    show a_up h.2.2.2 h.1.length (fun _ => none) a k = rR c.2.2.2 a k
    by_cases e : a = h.1.length
    · rw [e, up_s, r1, rR_fresh r7]
    · rw [up_n e]; exact r5 a k
  · intro q hq; exact Nat.lt_succ_of_lt (r6 q hq)
  · intro q hq; exact Nat.lt_succ_of_lt (r7 q hq)
theorem REL.wI {c : cH} {h : aH} (hr : REL c h) {a : Nat} (ha : a < c.1) (k : Nat) (v : Int32) : REL (c.1, c.2.1, (a, k, v) :: c.2.2.1, c.2.2.2) (sI h a k v) := by
  obtain ⟨r1, r2, r3, r4, r5, r6, r7⟩ := hr
  refine ⟨r1, r2, ?_, r4, r5, ?_, r7⟩
  · intro b j
    show a_up h.2.1 a (upd (h.2.1 a) k v) b j = rI ((a, k, v) :: c.2.2.1) b j
    unfold rI
    by_cases e : b = a
    · subst e
      rw [up_s]
      unfold upd
      by_cases e2 : j = k
      · subst e2
        rw [if_pos rfl, if_pos (by simp)]
      · rw [if_neg e2, if_neg (by simp; omega)]
        exact r3 b j
    · rw [up_n e, if_neg (by simp; intro e3; exact absurd e3.symm e)]
      exact r3 b j
  · intro q hq
    rcases List.mem_cons.mp hq with rfl | hq
    · exact ha
    · exact r6 q hq
theorem REL.wR {c : cH} {h : aH} (hr : REL c h) {a : Nat} (ha : a < c.1) (k v : Nat) : REL (c.1, c.2.1, c.2.2.1, (a, k, v) :: c.2.2.2) (sR h a k (some v)) := by
  obtain ⟨r1, r2, r3, r4, r5, r6, r7⟩ := hr
  refine ⟨r1, r2, r3, r4, ?_, r6, ?_⟩
  · intro b j
    show a_up h.2.2.2 a (va_up (h.2.2.2 a) k (some v)) b j = rR ((a, k, v) :: c.2.2.2) b j
    unfold rR
    by_cases e : b = a
    · subst e
      rw [up_s]
      unfold va_up
      by_cases e2 : j = k
      · subst e2
        rw [if_pos rfl, if_pos (by simp)]
      · rw [if_neg e2, if_neg (by simp; omega)]
        exact r5 b j
    · rw [up_n e, if_neg (by simp; intro e3; exact absurd e3.symm e)]
      exact r5 b j
  · intro q hq
    rcases List.mem_cons.mp hq with rfl | hq
    · exact ha
    · exact r7 q hq
/-- the rows of a new T[n][m] -/
def cNs (c : cH) (s : Nat × Nat) : Nat → cH
  | 0 => c
  | i + 1 => ((cNs c s i).1 + 1, ((cNs c s i).1, s) :: (cNs c s i).2.1, c.2.2.1, c.2.2.2)
def cRs (a b : Nat) : Nat → List (Nat × Nat × Nat)
  | 0 => []
  | i + 1 => (a, i, b + i) :: cRs a b i
theorem cNs_len (c : cH) (s : Nat × Nat) : ∀ n, (cNs c s n).1 = c.1 + n
  | 0 => rfl
  | n + 1 => by show (cNs c s n).1 + 1 = _; rw [cNs_len c s n]; omega
theorem cNs_i (c : cH) (s : Nat × Nat) : ∀ n, (cNs c s n).2.2 = c.2.2
  | 0 => rfl
  | n + 1 => rfl
theorem REL.rows {c : cH} {h : aH} (hr : REL c h) (s : Nat × Nat) : ∀ n, REL (cNs c s n) (nOs h s n)
  | 0 => hr
  | n + 1 => by
    have := (REL.rows hr s n).new s
    rw [cNs_i] at this
    exact this
theorem rR_cRs {a b : Nat} {l : List (Nat × Nat × Nat)} : ∀ (n x k : Nat), rR (cRs a b n ++ l) x k = if x = a ∧ k < n then some (b + k) else rR l x k
  | 0, x, k => by rw [if_neg (by omega)]; rfl
  | n + 1, x, k => by
    show rR ((a, n, b + n) :: (cRs a b n ++ l)) x k = _
    rw [rR_cons]
    by_cases e : x = a
    · subst e
      by_cases e2 : k = n
      · subst e2
        rw [if_pos (by simp), if_pos ⟨rfl, by omega⟩]
      · rw [if_neg (by simp; omega), rR_cRs n]
        by_cases e3 : k < n
        · rw [if_pos ⟨rfl, e3⟩, if_pos ⟨rfl, by omega⟩]
        · rw [if_neg (by omega), if_neg (by omega)]
    · rw [if_neg (by simp; intro e3; exact absurd e3.symm e), rR_cRs n, if_neg (by omega), if_neg (by omega)]
theorem cRs_mem {a b : Nat} : ∀ {n : Nat} {q : Nat × Nat × Nat}, q ∈ cRs a b n → q.1 = a
  | n + 1, q, h => by
    rcases List.mem_cons.mp h with rfl | h
    · rfl
    · exact cRs_mem h
theorem REL.newM {c : cH} {h : aH} (hr : REL c h) (t0 t1 n m : Nat) :
    REL ((cNs (c.1 + 1, (c.1, (t0, n)) :: c.2.1, c.2.2) (t1, m) n).1, (cNs (c.1 + 1, (c.1, (t0, n)) :: c.2.1, c.2.2) (t1, m) n).2.1, c.2.2.1, cRs c.1 (c.1 + 1) n ++ c.2.2.2) (nM h t0 t1 n m) := by
  have g := (hr.new (t0, n)).rows (t1, m) n
  have gl := cNs_len (c.1 + 1, (c.1, (t0, n)) :: c.2.1, c.2.2) (t1, m) n
  have gi := cNs_i (c.1 + 1, (c.1, (t0, n)) :: c.2.1, c.2.2) (t1, m) n
  obtain ⟨r1, r2, r3, r4, r5, r6, r7⟩ := g
  refine ⟨r1, r2, ?_, r4, ?_, ?_, ?_⟩
  · intro a k
    refine (r3 a k).trans ?_
    show rI (cNs (c.1 + 1, (c.1, (t0, n)) :: c.2.1, c.2.2.1, c.2.2.2) (t1, m) n).2.2.1 a k = rI c.2.2.1 a k
    rw [show (cNs (c.1 + 1, (c.1, (t0, n)) :: c.2.1, c.2.2.1, c.2.2.2) (t1, m) n).2.2.1 = c.2.2.1 from congrArg Prod.fst gi]
  · intro a k
    show a_up (nOs (nO h (t0, n)) (t1, m) n).2.2.2 h.1.length (fun i => if i < n then some (h.1.length + 1 + i) else none) a k = _
    rw [rR_cRs]
    have e9 : rR (cNs (c.1 + 1, (c.1, (t0, n)) :: c.2.1, c.2.2.1, c.2.2.2) (t1, m) n).2.2.2 a k = rR c.2.2.2 a k := by
      rw [show (cNs (c.1 + 1, (c.1, (t0, n)) :: c.2.1, c.2.2.1, c.2.2.2) (t1, m) n).2.2.2 = c.2.2.2 from congrArg Prod.snd gi]
    by_cases e : a = h.1.length
    · subst e
      rw [up_s]
      rw [hr.1]
      split
      · rename_i h9; rw [if_pos ⟨rfl, h9⟩]
      · rename_i h9; rw [if_neg (by omega), rR_fresh hr.2.2.2.2.2.2]
    · rw [up_n e, if_neg (by rw [← hr.1]; omega), ← e9]
      exact r5 a k
  · intro q hq
    have := hr.2.2.2.2.2.1 q hq
    show q.1 < (cNs _ _ _).1
    rw [gl]
    show q.1 < c.1 + 1 + n
    omega
  · intro q hq
    show q.1 < (cNs _ _ _).1
    rw [gl]
    show q.1 < c.1 + 1 + n
    rcases List.mem_append.mp hq with hq | hq
    · rw [cRs_mem hq]; omega
    · have := hr.2.2.2.2.2.2 q hq
      omega
def okc (c : cH) (v : Value) : Bool := match v with
  | .ref a => Nat.blt a c.1 || Nat.ble 1000000 a
  | _ => true
theorem okc_ok {c : cH} {h : aH} (hr : REL c h) {v : Value} (hv : okc c v = true) : okv h v = true := by
  cases v
  case ref a =>
    have hv : (Nat.blt a c.1 || Nat.ble 1000000 a) = true := hv
    show (decide (a < h.1.length) || decide (1000000 ≤ a)) = true
    rw [hr.1]
    simpa [Nat.blt_eq, Nat.ble_eq] using hv
  all_goals rfl
theorem okcs_ok {c : cH} {h : aH} (hr : REL c h) {l : List Value} (hv : l.all (okc c) = true) : (l.all fun v => okv h v) = true :=
  List.all_eq_true.mpr fun v hm => okc_ok hr (List.all_eq_true.mp hv v hm)
theorem okcl_ok {c : cH} {h : aH} (hr : REL c h) {l : List (Nat × Value)} (hv : (l.all fun q => okc c q.2) = true) : (l.all fun q => okv h q.2) = true :=
  List.all_eq_true.mpr fun v hm => okc_ok hr (List.all_eq_true.mp hv v hm)
/-- what a concrete run says: its answer, the heap, the cells and slots it took -/
abbrev cO : Type := Option (Option Value × cH × Nat × Nat)
abbrev cS : Type := Option (Nat × List (Nat × Value) × List Value × cH × Nat × Nat)
def cD (cd : ClassFile.Cond) (x y : Int32) : Bool := match cd with
  | .eq => decide (x = y)
  | .ne => decide (¬ x = y)
  | .lt => decide (x < y)
  | .ge => decide (y ≤ x)
  | .gt => decide (y < x)
  | .le => decide (x ≤ y)
theorem cD_ok {cd : ClassFile.Cond} {x y : Int32} : cD cd x y = true ↔ icd cd x y := by
  cases cd <;> exact decide_eq_true_iff
