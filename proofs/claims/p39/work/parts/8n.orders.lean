/-! ORDERS AS THE CLASS HAS THEM -/
noncomputable def insO (x : Int × Int) : List (Int × Int) → List (Int × Int)
  | [] => [x]
  | y :: t => if y.1 ≤ x.1 then y :: insO x t else x :: y :: t
noncomputable def srtF (C : List (Int × Int)) (q : Int × Int × Int) : List (Int × Int) := insO (q.1, q.2.1) C
noncomputable def srt (L : List (Int × Int × Int)) : List (Int × Int) := L.foldl srtF []
noncomputable abbrev CWS := Int × Int × Int × Int × List (Int × Int) × (Nat → Int) × (Nat → Int)
/-- what is so of orders under way -/
noncomputable def OKW (w : WS) : Prop := (∀ q ∈ w.2.2.2.2.1, (w.1 < q.1 ∧ q.1 ≤ w.1 + 12) ∧ q.2.2 ≤ w.2.2.2.1 ∧ -1 ≤ q.2.1 ∧ q.2.1 ≤ 1) ∧ (w.2.2.2.2.1.Pairwise fun a b => a.2.2 < b.2.2) ∧ w.2.2.2.2.1.length ≤ 12 ∧ w.2.2.2.1 ≤ w.1
/-- the class's state is the reference's -/
noncomputable def STR (ms : Int) (x : CWS) (w : WS) : Prop := OKW w ∧ x.1 = w.1 ∧ x.2.1 = w.2.1 ∧ x.2.2.1 = w.2.2.1 ∧ x.2.2.2.1 = w.2.2.2.1 ∧ x.2.2.2.2.1 = srt w.2.2.2.2.1 ∧ ∀ m : Nat, (m : Int) < ms → x.2.2.2.2.2.1 m = w.2.2.2.2.2.1 m ∧ x.2.2.2.2.2.2 m = w.2.2.2.2.2.2 m
theorem STR.mono {ms ms' : Int} {x : CWS} {w : WS} (h : STR ms x w) (hm : ms' ≤ ms) : STR ms' x w := ⟨h.1, h.2.1, h.2.2.1, h.2.2.2.1, h.2.2.2.2.1, h.2.2.2.2.2.1, fun m hx => h.2.2.2.2.2.2 m (by omega)⟩
