section
/-! ORDERED: the class's answer is the reference's -/
theorem cwF_ext {f g : Int → Int} {last : Int} (h : ∀ k, 0 ≤ k → k ≤ last → f k = g k) (h0 : 0 ≤ last) : ∀ (d : Nat) (l : Int), (d : Int) ≤ last → cwF f last d l = cwF g last d l
  | 0, l, _ => by
    show (if f last = -1 ∨ f last = l then (1 : Int) else 0) = if g last = -1 ∨ g last = l then 1 else 0
    rw [h last h0 (Int.le_refl _)]
  | d + 1, l, hd => by
    have ih := cwF_ext h h0 d
    show (if f (last - (d + 1)) = -1 ∨ f (last - (d + 1)) = l then s3 (cwF f last d) l 2 else 0) = if g (last - (d + 1)) = -1 ∨ g (last - (d + 1)) = l then s3 (cwF g last d) l 2 else 0
    rw [h (last - (d + 1)) (by omega) (by omega), s3_ext fun q _ _ => ih q (by omega)]
theorem snF_none {st la : Nat → Int} {k : Int} : ∀ n : Nat, (∀ i, i < n → st i ≠ k) → snF st la k n = -1
  | 0, _ => rfl
  | n + 1, h => by
    show (if st n = k then la n else snF st la k n) = -1
    rw [if_neg (h n (by omega))]
    exact snF_none n fun i hi => h i (by omega)
theorem snF_hit {st la : Nat → Int} {k : Int} : ∀ n : Nat, (∀ i, i < n → 0 ≤ la i) → (∃ i, i < n ∧ st i = k) → 0 ≤ snF st la k n
  | 0, _, ⟨i, hi, _⟩ => absurd hi (by omega)
  | n + 1, h, ⟨i, hi, e⟩ => by
    show 0 ≤ if st n = k then la n else snF st la k n
    by_cases c : st n = k
    · rw [if_pos c]; exact h n (by omega)
    · rw [if_neg c]
      exact snF_hit n (fun j hj => h j (by omega)) ⟨i, by have : i ≠ n := fun z => c (z ▸ e); omega, e⟩
theorem lsF_le {st : Nat → Int} : ∀ n i : Nat, i < n → st i ≤ lsF st n
  | 0, i, hi => absurd hi (by omega)
  | n + 1, i, hi => by
    show st i ≤ max (lsF st n) (st n)
    by_cases c : i = n
    · subst c; omega
    · have := lsF_le (st := st) n i (by omega); omega
theorem lsF_at {st : Nat → Int} : ∀ n : Nat, 0 < n → (∀ i, i < n → 0 ≤ st i) → ∃ i, i < n ∧ st i = lsF st n
  | 0, h, _ => absurd h (by omega)
  | n + 1, _, h => by
    show ∃ i, i < n + 1 ∧ st i = max (lsF st n) (st n)
    by_cases c : 0 < n ∧ st n < lsF st n
    · obtain ⟨i, hi, e⟩ := lsF_at n c.1 fun i hi => h i (by omega)
      exact ⟨i, by omega, by omega⟩
    · refine ⟨n, by omega, ?_⟩
      have := h n (by omega)
      by_cases d : 0 < n
      · omega
      · obtain rfl : n = 0 := by omega
        show st 0 = max (-1) (st 0)
        omega
theorem ls_lc {st la f : Nat → Int} {n : Nat} (h0 : 0 < n) (hs : ∀ i, i < n → 0 ≤ st i ∧ st i ≤ 24) (hl : ∀ i, i < n → 0 ≤ la i) (hf : ∀ k : Nat, k ≤ 24 → f k = snF st la k n) : lcF f 24 = lsF st n := by
  obtain ⟨-, b2, b3⟩ := lsF_b n hs
  have b3 := b3 h0
  refine lcF_eq b3 ?_ 24 b2 fun k a b => ?_
  · rw [hf _ (by omega), show (((lsF st n).toNat : Nat) : Int) = lsF st n by omega]
    have := snF_hit n hl (lsF_at n h0 fun i hi => (hs i hi).1)
    omega
  · rw [hf k b]
    exact snF_none n fun i hi z => by have := lsF_le (st := st) n i hi; omega
end
section
/-! THE RULE: two ways of reading, the same codes -/
/-- where the class is: place, what came, what waits, depth, compared, wants a thing -/
noncomputable abbrev RdS := Int × List Int × List Int × Nat × (Nat → Bool) × Bool
noncomputable def rkI (s : Int) : Nat := if s = 60 ∨ s = 62 ∨ s = 61 then 1 else if s = 43 ∨ s = 45 then 2 else if s = 42 ∨ s = 47 then 3 else if s = 256 then 4 else 0
noncomputable def popS (r : Nat) : List Int → List Int
  | [] => []
  | s :: t => if r ≤ rkI s then s :: popS r t else []
noncomputable def rstS (r : Nat) : List Int → List Int
  | [] => []
  | s :: t => if r ≤ rkI s then rstS r t else s :: t
noncomputable def ngs (l : List Int) : List Int := l.map fun s => -s
noncomputable abbrev askI (s : Int) : Prop := s = 108 ∨ s = 112 ∨ s = 120 ∨ s = 110
noncomputable def upB (c : Nat → Bool) (d : Nat) (v : Bool) (i : Nat) : Bool := if i = d then v else c i
/-- a thing is taken -/
noncomputable def mthg (f : Int → Int) (p : Int) (o s : List Int) (d : Nat) (c : Nat → Bool) : Option RdS :=
  if 48 ≤ f p ∧ f p ≤ 57 then some ((nmF f 3 p).2, o ++ [(nmF f 3 p).1], s, d, c, false)
  else if askI (f p) then some (p + 1, o ++ [-(f p)], s, d, c, false)
  else if f p = 45 then some (p + 1, o, 256 :: s, d, c, true)
  else if f p = 40 ∧ d < 4 then some (p + 1, o, 40 :: s, d + 1, upB c (d + 1) false, true) else none
/-- an operator, or ) -/
noncomputable def mopr (f : Int → Int) (p : Int) (o s : List Int) (d : Nat) (c : Nat → Bool) : Option RdS :=
  if f p = 41 ∧ 0 < d then some (p + 1, o ++ ngs (popS 1 s), (rstS 1 s).tail, d - 1, c, false)
  else if rkI (f p) = 0 ∨ (rkI (f p) = 1 ∧ c d = true) then none
  else some (p + 1, o ++ ngs (popS (rkI (f p)) s), f p :: rstS (rkI (f p)) s, d, if rkI (f p) = 1 then upB c d true else c, true)
noncomputable def mstp (f : Int → Int) (x : RdS) : Option RdS := if x.2.2.2.2.2 = true then mthg f x.1 x.2.1 x.2.2.1 x.2.2.2.1 x.2.2.2.2.1 else mopr f x.1 x.2.1 x.2.2.1 x.2.2.2.1 x.2.2.2.2.1
noncomputable def mitr (f : Int → Int) : Nat → RdS → Option RdS
  | 0, x => some x
  | n + 1, x => (mstp f x).bind (mitr f n)
noncomputable def GoR (f : Int → Int) (x y : RdS) : Prop := ∃ n, mitr f n x = some y
theorem GoR.rf {f : Int → Int} (x : RdS) : GoR f x x := ⟨0, rfl⟩
theorem GoR.st {f : Int → Int} {x y z : RdS} (e : mstp f x = some y) (h : GoR f y z) : GoR f x z := by
  obtain ⟨n, h⟩ := h
  refine ⟨n + 1, ?_⟩
  show (mstp f x).bind (mitr f n) = _
  rw [e]
  exact h
theorem mitr_tr {f : Int → Int} {z : RdS} : ∀ (n : Nat) {x y : RdS}, mitr f n x = some y → GoR f y z → GoR f x z
  | 0, x, y, h, g => by cases h; exact g
  | n + 1, x, y, h, g => by
    have h : (mstp f x).bind (mitr f n) = some y := h
    cases e : mstp f x with
    | none => rw [e] at h; cases h
    | some w =>
      rw [e] at h
      exact GoR.st e (mitr_tr n h g)
theorem GoR.tr {f : Int → Int} {x y z : RdS} (h : GoR f x y) (g : GoR f y z) : GoR f x z := by
  obtain ⟨n, h⟩ := h
  exact mitr_tr n h g
theorem GoR.one {f : Int → Int} {x y : RdS} (e : mstp f x = some y) : GoR f x y := .st e (.rf _)
/-- it ends where it can't go on -/
noncomputable def FLR (f : Int → Int) (x : RdS) (q : Int) : Prop := ∃ y, GoR f x y ∧ mstp f y = none ∧ y.1 = q ∧ (y.2.2.2.2.2 = true ∨ 0 < y.2.2.2.1)
theorem FLR.pre {f : Int → Int} {x y : RdS} {q : Int} (g : GoR f x y) (h : FLR f y q) : FLR f x q := by
  obtain ⟨z, h1, h2⟩ := h
  exact ⟨z, g.tr h1, h2⟩
end
