/-! ORDERS AS THE CLASS HAS THEM -/
def insO (x : Int × Int) : List (Int × Int) → List (Int × Int)
  | [] => [x]
  | y :: t => if y.1 ≤ x.1 then y :: insO x t else x :: y :: t
theorem insO_c (x y : Int × Int) (t : List (Int × Int)) : insO x (y :: t) = if y.1 ≤ x.1 then y :: insO x t else x :: y :: t := rfl
def srtF (C : List (Int × Int)) (q : Int × Int × Int) : List (Int × Int) := insO (q.1, q.2.1) C
def srt (L : List (Int × Int × Int)) : List (Int × Int) := L.foldl srtF []
def SRT (L : List (Int × Int)) : Prop := L.Pairwise fun a b => a.1 ≤ b.1
theorem srt_snoc (L : List (Int × Int × Int)) (q : Int × Int × Int) : srt (L ++ [q]) = insO (q.1, q.2.1) (srt L) := by
  unfold srt
  rw [List.foldl_append]
  rfl
theorem ins_mem {x y : Int × Int} : ∀ {L : List (Int × Int)}, y ∈ insO x L → y = x ∨ y ∈ L
  | [], h => Or.inl (List.mem_singleton.mp h)
  | z :: t, h => by
    unfold insO at h
    split at h
    · rcases List.mem_cons.mp h with h | h
      · exact Or.inr (h ▸ List.mem_cons_self)
      · rcases ins_mem h with h | h
        · exact Or.inl h
        · exact Or.inr (List.mem_cons_of_mem _ h)
    · exact List.mem_cons.mp h
theorem ins_len (x : Int × Int) : ∀ L : List (Int × Int), (insO x L).length = L.length + 1
  | [] => rfl
  | z :: t => by
    unfold insO
    split
    · rw [List.length_cons, ins_len x t, List.length_cons]
    · rfl
theorem ins_SRT {x : Int × Int} : ∀ {L : List (Int × Int)}, SRT L → SRT (insO x L)
  | [], _ => List.pairwise_singleton _ _
  | z :: t, h => by
    obtain ⟨h1, h2⟩ := List.pairwise_cons.mp h
    unfold insO
    split
    · rename_i c
      refine List.pairwise_cons.mpr ⟨fun a ha => ?_, ins_SRT h2⟩
      rcases ins_mem ha with rfl | ha
      · exact c
      · exact h1 a ha
    · rename_i c
      refine List.pairwise_cons.mpr ⟨fun a ha => ?_, h⟩
      rcases List.mem_cons.mp ha with rfl | ha
      · omega
      · have := h1 a ha; omega
theorem srt_go : ∀ (L : List (Int × Int × Int)) {C : List (Int × Int)}, SRT C → SRT (L.foldl srtF C) ∧ (L.foldl srtF C).length = C.length + L.length
  | [], C, h => ⟨h, rfl⟩
  | q :: t, C, h => by
    obtain ⟨a, b⟩ := srt_go t (C := srtF C q) (ins_SRT h)
    refine ⟨a, ?_⟩
    show (t.foldl srtF (srtF C q)).length = _
    rw [b, show (srtF C q).length = C.length + 1 from ins_len _ _, List.length_cons]
    omega
theorem srt_SRT (L : List (Int × Int × Int)) : SRT (srt L) := (srt_go L List.Pairwise.nil).1
theorem srt_len (L : List (Int × Int × Int)) : (srt L).length = L.length := by
  have := (srt_go L List.Pairwise.nil).2
  rw [List.length_nil, Nat.zero_add] at this
  exact this
theorem ins_all {x : Int × Int} {M : List (Int × Int)} (h : ∀ y ∈ M, x.1 < y.1) : insO x M = x :: M := by
  cases M with
  | nil => rfl
  | cons y t =>
    unfold insO
    rw [if_neg (by have := h y List.mem_cons_self; omega)]
theorem ins_end {x : Int × Int} : ∀ {M : List (Int × Int)}, (∀ y ∈ M, y.1 ≤ x.1) → insO x M = M ++ [x]
  | [], _ => rfl
  | y :: t, h => by
    unfold insO
    rw [if_pos (h y List.mem_cons_self), ins_end fun z hz => h z (List.mem_cons_of_mem _ hz)]
    rfl
theorem ins_at {x : Int × Int} : ∀ {A B : List (Int × Int)}, (∀ y ∈ A, y.1 ≤ x.1) → (∀ y ∈ B, x.1 < y.1) → insO x (A ++ B) = A ++ x :: B
  | [], B, _, h => ins_all h
  | y :: t, B, h, hb => by
    show (if y.1 ≤ x.1 then y :: insO x (t ++ B) else x :: y :: (t ++ B)) = _
    rw [if_pos (h y List.mem_cons_self), ins_at (fun z hz => h z (List.mem_cons_of_mem _ hz)) hb]
    rfl
theorem ins_flt {p : Int → Bool} {x : Int × Int} : ∀ {L : List (Int × Int)}, SRT L → (insO x L).filter (fun q => p q.1) = if p x.1 = true then insO x (L.filter fun q => p q.1) else L.filter fun q => p q.1
  | [], _ => by
    show [x].filter _ = _
    cases c : p x.1 with
    | true => rw [List.filter_cons_of_pos (p := fun q : Int × Int => p q.1) c]; rfl
    | false => rw [List.filter_cons_of_neg (p := fun q : Int × Int => p q.1) (by rw [c]; exact Bool.noConfusion)]; rfl
  | y :: t, h => by
    obtain ⟨h1, h2⟩ := List.pairwise_cons.mp h
    rw [insO_c]
    by_cases c : y.1 ≤ x.1
    · rw [if_pos c]
      cases cy : p y.1 with
      | true =>
        rw [List.filter_cons_of_pos (p := fun q : Int × Int => p q.1) cy, List.filter_cons_of_pos (p := fun q : Int × Int => p q.1) cy, ins_flt h2]
        split
        · show _ = if y.1 ≤ x.1 then y :: insO x _ else _
          rw [if_pos c]
        · rfl
      | false =>
        rw [List.filter_cons_of_neg (p := fun q : Int × Int => p q.1) (by rw [cy]; exact Bool.noConfusion), List.filter_cons_of_neg (p := fun q : Int × Int => p q.1) (by rw [cy]; exact Bool.noConfusion), ins_flt h2]
    · rw [if_neg c]
      have hall : ∀ z ∈ (y :: t).filter (fun q => p q.1), x.1 < z.1 := fun z hz => by
        rcases List.mem_cons.mp (List.mem_filter.mp hz).1 with rfl | hz
        · omega
        · have := h1 z hz; omega
      cases cx : p x.1 with
      | true => rw [List.filter_cons_of_pos (p := fun q : Int × Int => p q.1) cx, if_pos rfl, ins_all hall]
      | false => rw [List.filter_cons_of_neg (p := fun q : Int × Int => p q.1) (by rw [cx]; exact Bool.noConfusion), if_neg Bool.noConfusion]
theorem srt_flt {p : Int → Bool} : ∀ (L : List (Int × Int × Int)) {C : List (Int × Int)}, SRT C → (L.filter fun q => p q.1).foldl srtF (C.filter fun q => p q.1) = (L.foldl srtF C).filter fun q => p q.1
  | [], C, _ => rfl
  | q :: t, C, h => by
    have e := ins_flt (p := p) (x := (q.1, q.2.1)) h
    show _ = (t.foldl srtF (srtF C q)).filter _
    rw [← srt_flt t (C := srtF C q) (ins_SRT h)]
    cases c : p q.1 with
    | true =>
      rw [List.filter_cons_of_pos (p := fun q : Int × Int × Int => p q.1) c]
      show (t.filter _).foldl srtF (srtF (C.filter _) q) = _
      congr 1
      have e : (srtF C q).filter (fun q => p q.1) = if p q.1 = true then insO (q.1, q.2.1) (C.filter fun q => p q.1) else C.filter fun q => p q.1 := e
      rw [e, if_pos c]
      rfl
    | false =>
      rw [List.filter_cons_of_neg (p := fun q : Int × Int × Int => p q.1) (by rw [c]; exact Bool.noConfusion)]
      congr 1
      have e : (srtF C q).filter (fun q => p q.1) = if p q.1 = true then insO (q.1, q.2.1) (C.filter fun q => p q.1) else C.filter fun q => p q.1 := e
      rw [e, if_neg (by rw [c]; exact Bool.noConfusion)]
theorem srt_f (p : Int → Bool) (L : List (Int × Int × Int)) : srt (L.filter fun q => p q.1) = (srt L).filter fun q => p q.1 := srt_flt L (C := []) List.Pairwise.nil
theorem tw_f {n : Int} : ∀ {L : List (Int × Int)}, SRT L → L.takeWhile (fun q => decide (q.1 ≤ n)) = L.filter (fun q => decide (q.1 ≤ n)) ∧ L.dropWhile (fun q => decide (q.1 ≤ n)) = L.filter (fun q => !decide (q.1 ≤ n))
  | [], _ => ⟨rfl, rfl⟩
  | y :: t, h => by
    obtain ⟨h1, h2⟩ := List.pairwise_cons.mp h
    by_cases c : y.1 ≤ n
    · have d : decide (y.1 ≤ n) = true := decide_eq_true c
      obtain ⟨i1, i2⟩ := tw_f (n := n) h2
      constructor
      · rw [List.takeWhile_cons_of_pos (p := fun q : Int × Int => decide (q.1 ≤ n)) d, List.filter_cons_of_pos (p := fun q : Int × Int => decide (q.1 ≤ n)) d, i1]
      · rw [List.dropWhile_cons_of_pos (p := fun q : Int × Int => decide (q.1 ≤ n)) d, List.filter_cons_of_neg (p := fun q : Int × Int => !decide (q.1 ≤ n)) (by simp only [d]; decide), i2]
    · have d : ¬ decide (y.1 ≤ n) = true := by simp only [decide_eq_true_eq]; exact c
      have hf : ∀ z ∈ y :: t, ¬ z.1 ≤ n := fun z hz => by
        rcases List.mem_cons.mp hz with rfl | hz
        · exact c
        · have := h1 z hz; omega
      constructor
      · rw [List.takeWhile_cons_of_neg (p := fun q : Int × Int => decide (q.1 ≤ n)) d]
        exact (List.filter_eq_nil_iff.mpr fun z hz => by simp only [decide_eq_true_eq]; exact hf z hz).symm
      · rw [List.dropWhile_cons_of_neg (p := fun q : Int × Int => decide (q.1 ≤ n)) d]
        exact (List.filter_eq_self.mpr fun z hz => by rw [decide_eq_false (hf z hz)]; rfl).symm
theorem srt_same {d : Int} : ∀ (L : List (Int × Int × Int)) {C : List (Int × Int)}, (∀ q ∈ L, q.1 = d) → (∀ y ∈ C, y.1 = d) → L.foldl srtF C = C ++ L.map fun q => (q.1, q.2.1)
  | [], C, _, _ => (List.append_nil C).symm
  | q :: t, C, h, hc => by
    have hq := h q List.mem_cons_self
    have e : srtF C q = C ++ [(q.1, q.2.1)] := ins_end fun y hy => by rw [hc y hy]; exact Int.le_of_eq hq.symm
    show t.foldl srtF (srtF C q) = _
    rw [e, srt_same t (fun z hz => h z (List.mem_cons_of_mem _ hz)) (fun y hy => by
      rcases List.mem_append.mp hy with hy | hy
      · exact hc y hy
      · rw [List.mem_singleton.mp hy]; exact hq), List.append_assoc]
    rfl
def cpt (l : Int) (q : Int × Int) : Int := max 0 (min 8 (l + q.2))
abbrev CWS := Int × Int × Int × Int × List (Int × Int) × (Nat → Int) × (Nat → Int)
/-- a state of the reference's as the class has it -/
def cvW (w : WS) : CWS := (w.1, w.2.1, w.2.2.1, w.2.2.2.1, srt w.2.2.2.2.1, w.2.2.2.2.2.1, w.2.2.2.2.2.2)
/-- what is so of orders under way -/
def OKW (w : WS) : Prop := (∀ q ∈ w.2.2.2.2.1, (w.1 < q.1 ∧ q.1 ≤ w.1 + 12) ∧ q.2.2 ≤ w.2.2.2.1 ∧ -1 ≤ q.2.1 ∧ q.2.1 ≤ 1) ∧ (w.2.2.2.2.1.Pairwise fun a b => a.2.2 < b.2.2) ∧ w.2.2.2.2.1.length ≤ 12 ∧ w.2.2.2.1 ≤ w.1
/-- a step, as the class goes it -/
def ctT (w : CWS) : List (Int × Int) := w.2.2.2.2.1.takeWhile fun q => decide (q.1 ≤ w.1 + 1)
def ctD (w : CWS) : List (Int × Int) := w.2.2.2.2.1.dropWhile fun q => decide (q.1 ≤ w.1 + 1)
theorem st_due {w : WS} (ok : OKW w) : (ctT (cvW w)).foldl cpt w.2.1 = stL w ∧ ctD (cvW w) = srt (w.2.2.2.2.1.filter fun q => !decide (q.1 = w.1 + 1)) := by
  obtain ⟨i1, i2⟩ := tw_f (n := w.1 + 1) (srt_SRT w.2.2.2.2.1)
  have c1 : (w.2.2.2.2.1.filter fun q => decide (q.1 ≤ w.1 + 1)) = w.2.2.2.2.1.filter fun q => decide (q.1 = w.1 + 1) := List.filter_congr fun q hq => decide_eq_decide.mpr (by have := (ok.1 q hq).1.1; omega)
  have c2 : (w.2.2.2.2.1.filter fun q => !decide (q.1 ≤ w.1 + 1)) = w.2.2.2.2.1.filter fun q => !decide (q.1 = w.1 + 1) := List.filter_congr fun q hq => by rw [decide_eq_decide.mpr (show q.1 ≤ w.1 + 1 ↔ q.1 = w.1 + 1 by have := (ok.1 q hq).1.1; omega)]
  constructor
  · show ((srt w.2.2.2.2.1).takeWhile fun q => decide (q.1 ≤ w.1 + 1)).foldl cpt w.2.1 = _
    rw [i1, ← srt_f (fun z => decide (z ≤ w.1 + 1)), c1]
    unfold srt
    rw [srt_same (d := w.1 + 1) _ (fun q hq => of_decide_eq_true (List.mem_filter.mp hq).2) (fun y hy => absurd hy List.not_mem_nil), List.nil_append, List.foldl_map]
    rfl
  · show ((srt w.2.2.2.2.1).dropWhile fun q => decide (q.1 ≤ w.1 + 1)) = _
    rw [i2, ← srt_f (fun z => !decide (z ≤ w.1 + 1)), c2]
theorem OKW_eq {w w' : WS} (ok : OKW w) (h0 : w'.1 = w.1) (h1 : w'.2.2.2.1 = w.2.2.2.1) (h2 : w'.2.2.2.2.1 = w.2.2.2.2.1) : OKW w' := by
  unfold OKW
  rw [h0, h1, h2]
  exact ok
theorem OKW_st {ml ln : Nat → Int} {nr : Nat} {ms : Int} {ea : Nat → Int} {w : WS} (ok : OKW w) : OKW (stW ml ln nr ms ea w) := by
  obtain ⟨o1, o2, o3, o4⟩ := ok
  refine ⟨fun q hq => ?_, ?_, ?_, ?_⟩
  · obtain ⟨m1, m2⟩ := List.mem_filter.mp hq
    have a := o1 q m1
    have b : ¬ q.1 = w.1 + 1 := fun z => by rw [decide_eq_true z] at m2; cases m2
    exact ⟨⟨by show w.1 + 1 < q.1; omega, by show q.1 ≤ w.1 + 1 + 12; omega⟩, a.2⟩
  · exact o2.filter _
  · exact Nat.le_trans (List.length_filter_le _ _) o3
  · show w.2.2.2.1 ≤ w.1 + 1; omega
theorem OKW_gv {d v x : Int} {w : WS} (ok : OKW w) (hd : 1 ≤ d ∧ d ≤ 12) (hv : -1 ≤ v ∧ v ≤ 1) (hg : gvR x w = 0) : OKW (gvW d v w) := by
  obtain ⟨o1, o2, o3, o4⟩ := ok
  unfold gvR at hg
  have g1 : ¬ w.2.2.2.1 = w.1 := fun z => by (repeat' split at hg) <;> omega
  have g2 : ¬ w.2.2.2.2.1.length = 12 := fun z => by (repeat' split at hg) <;> omega
  refine ⟨fun q hq => ?_, ?_, ?_, ?_⟩
  · rcases List.mem_append.mp hq with hq | hq
    · have := o1 q hq
      exact ⟨this.1, by show q.2.2 ≤ w.1; omega, this.2.2⟩
    · rw [List.mem_singleton.mp hq]
      exact ⟨⟨by show w.1 < w.1 + d; omega, by show w.1 + d ≤ w.1 + 12; omega⟩, Int.le_refl _, hv⟩
  · refine List.pairwise_append.mpr ⟨o2, List.pairwise_singleton _ _, fun a ha b hb => ?_⟩
    rw [List.mem_singleton.mp hb]
    have := o1 a ha
    show a.2.2 < w.1
    omega
  · show (w.2.2.2.2.1 ++ [_]).length ≤ 12
    rw [List.length_append, List.length_singleton]
    omega
  · exact Int.le_refl _
theorem go_mem {x : Int × Int} : ∀ {L : List (Int × Int × Int)} {C : List (Int × Int)}, x ∈ L.foldl srtF C → x ∈ C ∨ ∃ q ∈ L, x = (q.1, q.2.1)
  | [], C, h => Or.inl h
  | q :: t, C, h => by
    rcases go_mem (L := t) (C := srtF C q) h with h | ⟨y, h1, h2⟩
    · rcases ins_mem h with h | h
      · exact Or.inr ⟨q, List.mem_cons_self, h⟩
      · exact Or.inl h
    · exact Or.inr ⟨y, List.mem_cons_of_mem _ h1, h2⟩
theorem srt_mem {x : Int × Int} {L : List (Int × Int × Int)} (h : x ∈ srt L) : ∃ q ∈ L, x = (q.1, q.2.1) := (go_mem h).resolve_left List.not_mem_nil
/-- the class's state is the reference's -/
def STR (ms : Int) (x : CWS) (w : WS) : Prop := OKW w ∧ x.1 = w.1 ∧ x.2.1 = w.2.1 ∧ x.2.2.1 = w.2.2.1 ∧ x.2.2.2.1 = w.2.2.2.1 ∧ x.2.2.2.2.1 = srt w.2.2.2.2.1 ∧ ∀ m : Nat, (m : Int) < ms → x.2.2.2.2.2.1 m = w.2.2.2.2.2.1 m ∧ x.2.2.2.2.2.2 m = w.2.2.2.2.2.2 m
theorem STR.mono {ms ms' : Int} {x : CWS} {w : WS} (h : STR ms x w) (hm : ms' ≤ ms) : STR ms' x w := ⟨h.1, h.2.1, h.2.2.1, h.2.2.2.1, h.2.2.2.2.1, h.2.2.2.2.2.1, fun m hx => h.2.2.2.2.2.2 m (by omega)⟩
