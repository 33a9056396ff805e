/-! THE RULE: two ways of reading, the same codes -/
/-- where the class is: place, what came, what waits, depth, compared, wants a thing -/
abbrev RdS := Int × List Int × List Int × Nat × (Nat → Bool) × Bool
def rkI (s : Int) : Nat := if s = 60 ∨ s = 62 ∨ s = 61 then 1 else if s = 43 ∨ s = 45 then 2 else if s = 42 ∨ s = 47 then 3 else if s = 256 then 4 else 0
def popS (r : Nat) : List Int → List Int
  | [] => []
  | s :: t => if r ≤ rkI s then s :: popS r t else []
def rstS (r : Nat) : List Int → List Int
  | [] => []
  | s :: t => if r ≤ rkI s then rstS r t else s :: t
def ngs (l : List Int) : List Int := l.map fun s => -s
abbrev askI (s : Int) : Prop := s = 108 ∨ s = 112 ∨ s = 120 ∨ s = 110
def upB (c : Nat → Bool) (d : Nat) (v : Bool) (i : Nat) : Bool := if i = d then v else c i
/-- a thing is taken -/
def mthg (f : Int → Int) (p : Int) (o s : List Int) (d : Nat) (c : Nat → Bool) : Option RdS :=
  if 48 ≤ f p ∧ f p ≤ 57 then some ((nmF f 3 p).2, o ++ [(nmF f 3 p).1], s, d, c, false)
  else if askI (f p) then some (p + 1, o ++ [-(f p)], s, d, c, false)
  else if f p = 45 then some (p + 1, o, 256 :: s, d, c, true)
  else if f p = 40 ∧ d < 4 then some (p + 1, o, 40 :: s, d + 1, upB c (d + 1) false, true) else none
/-- an operator, or ) -/
def mopr (f : Int → Int) (p : Int) (o s : List Int) (d : Nat) (c : Nat → Bool) : Option RdS :=
  if f p = 41 ∧ 0 < d then some (p + 1, o ++ ngs (popS 1 s), (rstS 1 s).tail, d - 1, c, false)
  else if rkI (f p) = 0 ∨ (rkI (f p) = 1 ∧ c d = true) then none
  else some (p + 1, o ++ ngs (popS (rkI (f p)) s), f p :: rstS (rkI (f p)) s, d, if rkI (f p) = 1 then upB c d true else c, true)
def mstp (f : Int → Int) (x : RdS) : Option RdS := if x.2.2.2.2.2 = true then mthg f x.1 x.2.1 x.2.2.1 x.2.2.2.1 x.2.2.2.2.1 else mopr f x.1 x.2.1 x.2.2.1 x.2.2.2.1 x.2.2.2.2.1
def mitr (f : Int → Int) : Nat → RdS → Option RdS
  | 0, x => some x
  | n + 1, x => (mstp f x).bind (mitr f n)
def GoR (f : Int → Int) (x y : RdS) : Prop := ∃ n, mitr f n x = some y
theorem GoR.rf {f : Int → Int} (x : RdS) : GoR f x x := ⟨0, rfl⟩
theorem GoR.st {f : Int → Int} {x y z : RdS} (e : mstp f x = some y) (h : GoR f y z) : GoR f x z := by
  obtain ⟨n, h⟩ := h
  refine ⟨n + 1, ?_⟩
  show (mstp f x).bind (mitr f n) = _
  rw [e]
  exact h
theorem mitr_tr {f : Int → Int} {z : RdS} : ∀ (n : Nat) {x y : RdS}, mitr f n x = some y → GoR f y z → GoR f x z
  | 0, x, y, h, g => by cases h; exact g
  | n + 1, x, y, h, g => by
    have h : (mstp f x).bind (mitr f n) = some y := h
    cases e : mstp f x with
    | none => rw [e] at h; cases h
    | some w =>
      rw [e] at h
      exact GoR.st e (mitr_tr n h g)
theorem GoR.tr {f : Int → Int} {x y z : RdS} (h : GoR f x y) (g : GoR f y z) : GoR f x z := by
  obtain ⟨n, h⟩ := h
  exact mitr_tr n h g
theorem GoR.one {f : Int → Int} {x y : RdS} (e : mstp f x = some y) : GoR f x y := .st e (.rf _)
theorem mitr_det {f : Int → Int} {y z : RdS} (hy : mstp f y = none) (hz : mstp f z = none) : ∀ (n m : Nat) {x : RdS}, mitr f n x = some y → mitr f m x = some z → y = z
  | 0, 0, x, h, g => by cases h; cases g; rfl
  | 0, m + 1, x, h, g => by
    cases h
    have g : (mstp f y).bind (mitr f m) = some z := g
    rw [hy] at g; cases g
  | n + 1, 0, x, h, g => by
    cases g
    have h : (mstp f z).bind (mitr f n) = some y := h
    rw [hz] at h; cases h
  | n + 1, m + 1, x, h, g => by
    have h : (mstp f x).bind (mitr f n) = some y := h
    have g : (mstp f x).bind (mitr f m) = some z := g
    cases e : mstp f x with
    | none => rw [e] at h; cases h
    | some w =>
      rw [e] at h g
      exact mitr_det hy hz n m h g
/-- from here the end is the same, whichever way -/
theorem GoR.det {f : Int → Int} {x y z : RdS} (h : GoR f x y) (hy : mstp f y = none) (g : GoR f x z) (hz : mstp f z = none) : y = z := by
  obtain ⟨n, h⟩ := h
  obtain ⟨m, g⟩ := g
  exact mitr_det hy hz n m h g
/-- how the reference reads: 3 a thing, 0 .. 2 what binds so much, 4 .. 6 its loop; codes as the class has them -/
def PRc (f : Int → Int) (R : Nat → Nat → Int → Bool → Int → List Int → Prop) : Prop :=
  (∀ (d : Nat) (p q : Int) (ok : Bool) (L : List Int), f p = 45 → R 3 d (p + 1) ok q L → R 3 d p ok q (L ++ [-256])) ∧
  (∀ (d : Nat) (p : Int), (48 ≤ f p ∧ f p ≤ 57) → R 3 d p true (nmF f 3 p).2 [(nmF f 3 p).1]) ∧
  (∀ (d : Nat) (p : Int), askI (f p) → R 3 d p true (p + 1) [-(f p)]) ∧
  (∀ (d : Nat) (p : Int), f p ≠ 45 → ¬ (48 ≤ f p ∧ f p ≤ 57) → ¬ askI (f p) → ¬ (f p = 40 ∧ d < 4) → R 3 d p false p []) ∧
  (∀ (d : Nat) (p q : Int) (L : List Int), f p = 40 → d < 4 → R 0 (d + 1) (p + 1) false q L → R 3 d p false q L) ∧
  (∀ (d : Nat) (p q : Int) (L : List Int), f p = 40 → d < 4 → R 0 (d + 1) (p + 1) true q L → f q ≠ 41 → R 3 d p false q L) ∧
  (∀ (d : Nat) (p q : Int) (L : List Int), f p = 40 → d < 4 → R 0 (d + 1) (p + 1) true q L → f q = 41 → R 3 d p true (q + 1) L) ∧
  (∀ (r d : Nat) (p q : Int) (L : List Int), r < 3 → R (r + 1) d p false q L → R r d p false q L) ∧
  (∀ (r d : Nat) (p q q' : Int) (ok : Bool) (L L' : List Int), r < 3 → R (r + 1) d p true q L → R (4 + r) d q ok q' L' → R r d p ok q' (L ++ L')) ∧
  (∀ (r d : Nat) (p : Int), r < 3 → rkI (f p) ≠ r + 1 → R (4 + r) d p true p []) ∧
  (∀ (r d : Nat) (p q : Int) (L : List Int), r < 3 → rkI (f p) = r + 1 → R (r + 1) d (p + 1) false q L → R (4 + r) d p false q L) ∧
  (∀ (d : Nat) (p q : Int) (L : List Int), rkI (f p) = 1 → R 1 d (p + 1) true q L → R 4 d p true q (L ++ [-(f p)])) ∧
  (∀ (r d : Nat) (p q q' : Int) (ok : Bool) (L L' : List Int), 1 ≤ r → r < 3 → rkI (f p) = r + 1 → R (r + 1) d (p + 1) true q L → R (4 + r) d q ok q' L' → R (4 + r) d p ok q' (L ++ [-(f p)] ++ L'))
def PR (f : Int → Int) (m d : Nat) (p : Int) (ok : Bool) (q : Int) (L : List Int) : Prop := ∀ R : Nat → Nat → Int → Bool → Int → List Int → Prop, PRc f R → R m d p ok q L
theorem PR_neg {f : Int → Int} {d : Nat} {p q : Int} {ok : Bool} {L : List Int} (h0 : f p = 45) (h1 : PR f 3 d (p + 1) ok q L) : PR f 3 d p ok q (L ++ [-256]) := fun R hR => hR.1 _ _ _ _ _ h0 (h1 R hR)
theorem PR_num {f : Int → Int} {d : Nat} {p : Int} (h0 : (48 ≤ f p ∧ f p ≤ 57)) : PR f 3 d p true (nmF f 3 p).2 [(nmF f 3 p).1] := fun R hR => hR.2.1 _ _ h0
theorem PR_ask {f : Int → Int} {d : Nat} {p : Int} (h0 : askI (f p)) : PR f 3 d p true (p + 1) [-(f p)] := fun R hR => hR.2.2.1 _ _ h0
theorem PR_no {f : Int → Int} {d : Nat} {p : Int} (h0 : f p ≠ 45) (h1 : ¬ (48 ≤ f p ∧ f p ≤ 57)) (h2 : ¬ askI (f p)) (h3 : ¬ (f p = 40 ∧ d < 4)) : PR f 3 d p false p [] := fun R hR => hR.2.2.2.1 _ _ h0 h1 h2 h3
theorem PR_brF {f : Int → Int} {d : Nat} {p q : Int} {L : List Int} (h0 : f p = 40) (h1 : d < 4) (h2 : PR f 0 (d + 1) (p + 1) false q L) : PR f 3 d p false q L := fun R hR => hR.2.2.2.2.1 _ _ _ _ h0 h1 (h2 R hR)
theorem PR_brN {f : Int → Int} {d : Nat} {p q : Int} {L : List Int} (h0 : f p = 40) (h1 : d < 4) (h2 : PR f 0 (d + 1) (p + 1) true q L) (h3 : f q ≠ 41) : PR f 3 d p false q L := fun R hR => hR.2.2.2.2.2.1 _ _ _ _ h0 h1 (h2 R hR) h3
theorem PR_brT {f : Int → Int} {d : Nat} {p q : Int} {L : List Int} (h0 : f p = 40) (h1 : d < 4) (h2 : PR f 0 (d + 1) (p + 1) true q L) (h3 : f q = 41) : PR f 3 d p true (q + 1) L := fun R hR => hR.2.2.2.2.2.2.1 _ _ _ _ h0 h1 (h2 R hR) h3
theorem PR_rkF {f : Int → Int} {r d : Nat} {p q : Int} {L : List Int} (h0 : r < 3) (h1 : PR f (r + 1) d p false q L) : PR f r d p false q L := fun R hR => hR.2.2.2.2.2.2.2.1 _ _ _ _ _ h0 (h1 R hR)
theorem PR_rkT {f : Int → Int} {r d : Nat} {p q q' : Int} {ok : Bool} {L L' : List Int} (h0 : r < 3) (h1 : PR f (r + 1) d p true q L) (h2 : PR f (4 + r) d q ok q' L') : PR f r d p ok q' (L ++ L') := fun R hR => hR.2.2.2.2.2.2.2.2.1 _ _ _ _ _ _ _ _ h0 (h1 R hR) (h2 R hR)
theorem PR_lpE {f : Int → Int} {r d : Nat} {p : Int} (h0 : r < 3) (h1 : rkI (f p) ≠ r + 1) : PR f (4 + r) d p true p [] := fun R hR => hR.2.2.2.2.2.2.2.2.2.1 _ _ _ h0 h1
theorem PR_lpF {f : Int → Int} {r d : Nat} {p q : Int} {L : List Int} (h0 : r < 3) (h1 : rkI (f p) = r + 1) (h2 : PR f (r + 1) d (p + 1) false q L) : PR f (4 + r) d p false q L := fun R hR => hR.2.2.2.2.2.2.2.2.2.2.1 _ _ _ _ _ h0 h1 (h2 R hR)
theorem PR_lpC {f : Int → Int} {d : Nat} {p q : Int} {L : List Int} (h0 : rkI (f p) = 1) (h1 : PR f 1 d (p + 1) true q L) : PR f 4 d p true q (L ++ [-(f p)]) := fun R hR => hR.2.2.2.2.2.2.2.2.2.2.2.1 _ _ _ _ h0 (h1 R hR)
theorem PR_lpM {f : Int → Int} {r d : Nat} {p q q' : Int} {ok : Bool} {L L' : List Int} (h0 : 1 ≤ r) (h1 : r < 3) (h2 : rkI (f p) = r + 1) (h3 : PR f (r + 1) d (p + 1) true q L) (h4 : PR f (4 + r) d q ok q' L') : PR f (4 + r) d p ok q' (L ++ [-(f p)] ++ L') := fun R hR => hR.2.2.2.2.2.2.2.2.2.2.2.2 _ _ _ _ _ _ _ _ h0 h1 h2 (h3 R hR) (h4 R hR)
theorem ngs_a (a b : List Int) : ngs (a ++ b) = ngs a ++ ngs b := List.map_append
theorem pop_a {r : Nat} {s : List Int} (hs : ∀ x, s.head? = some x → rkI x < r) : ∀ {pd : List Int}, (∀ x ∈ pd, r ≤ rkI x) → popS r (pd ++ s) = pd ∧ rstS r (pd ++ s) = s
  | [], _ => by
    cases s with
    | nil => exact ⟨rfl, rfl⟩
    | cons x t =>
      have := hs x rfl
      constructor
      · show (if r ≤ rkI x then _ else []) = []
        rw [if_neg (by omega)]
      · show (if r ≤ rkI x then _ else x :: t) = x :: t
        rw [if_neg (by omega)]
  | y :: pd, h => by
    have hy := h y List.mem_cons_self
    obtain ⟨i1, i2⟩ := pop_a hs (pd := pd) fun x hx => h x (List.mem_cons_of_mem _ hx)
    constructor
    · show (if r ≤ rkI y then y :: popS r (pd ++ s) else []) = _
      rw [if_pos hy, i1]
    · show (if r ≤ rkI y then rstS r (pd ++ s) else _) = _
      rw [if_pos hy, i2]
def blkS (s : List Int) (r : Nat) : Prop := ∀ x, s.head? = some x → rkI x ≤ r
/-- it ends where it can't go on -/
def FLR (f : Int → Int) (x : RdS) (q : Int) : Prop := ∃ y, GoR f x y ∧ mstp f y = none ∧ y.1 = q ∧ (y.2.2.2.2.2 = true ∨ 0 < y.2.2.2.1)
theorem FLR.pre {f : Int → Int} {x y : RdS} {q : Int} (g : GoR f x y) (h : FLR f y q) : FLR f x q := by
  obtain ⟨z, h1, h2⟩ := h
  exact ⟨z, g.tr h1, h2⟩
/-- what is so of a thing that is taken -/
def SpT (f : Int → Int) (d : Nat) (p : Int) (ok : Bool) (q : Int) (L : List Int) : Prop := ∀ (o s : List Int) (c : Nat → Bool), (ok = true → ∃ (o' pd : List Int) (c' : Nat → Bool), GoR f (p, o, s, d, c, true) (q, o', pd ++ s, d, c', false) ∧ o' ++ ngs pd = o ++ L ∧ (∀ x ∈ pd, 4 ≤ rkI x) ∧ ∀ i, i ≤ d → c' i = c i) ∧ (ok = false → FLR f (p, o, s, d, c, true) q)
def nxR (f : Int → Int) (r d : Nat) (q : Int) (c : Nat → Bool) : Prop := (∀ j, r ≤ j → j < 3 → rkI (f q) ≠ j + 1) ∨ (r = 0 ∧ c d = true ∧ rkI (f q) ≠ 2 ∧ rkI (f q) ≠ 3)
def SpR (f : Int → Int) (r d : Nat) (p : Int) (ok : Bool) (q : Int) (L : List Int) : Prop := ∀ (o s : List Int) (c : Nat → Bool), blkS s r → (r = 0 → c d = false) → (ok = true → ∃ (o' pd : List Int) (c' : Nat → Bool), GoR f (p, o, s, d, c, true) (q, o', pd ++ s, d, c', false) ∧ o' ++ ngs pd = o ++ L ∧ (∀ x ∈ pd, r + 1 ≤ rkI x) ∧ (∀ i, i < d → c' i = c i) ∧ (1 ≤ r → c' d = c d) ∧ nxR f r d q c') ∧ (ok = false → FLR f (p, o, s, d, c, true) q)
def SpL (f : Int → Int) (r d : Nat) (p : Int) (ok : Bool) (q : Int) (L : List Int) : Prop := ∀ (o s p0 : List Int) (c : Nat → Bool), blkS s r → (r = 0 → c d = false) → (∀ x ∈ p0, r + 1 ≤ rkI x) → (∀ j, r < j → j < 3 → rkI (f p) ≠ j + 1) → (ok = true → ∃ (o' pd : List Int) (c' : Nat → Bool), GoR f (p, o, p0 ++ s, d, c, false) (q, o', pd ++ s, d, c', false) ∧ o' ++ ngs pd = o ++ ngs p0 ++ L ∧ (∀ x ∈ pd, r + 1 ≤ rkI x) ∧ (∀ i, i < d → c' i = c i) ∧ (1 ≤ r → c' d = c d) ∧ nxR f r d q c') ∧ (ok = false → FLR f (p, o, p0 ++ s, d, c, false) q)
/-- what binds more, or a thing, as an operand -/
def SpU (f : Int → Int) (r d : Nat) (p : Int) (ok : Bool) (q : Int) (L : List Int) : Prop := ∀ (o s : List Int) (c : Nat → Bool), blkS s (r + 1) → (ok = true → ∃ (o' pd : List Int) (c' : Nat → Bool), GoR f (p, o, s, d, c, true) (q, o', pd ++ s, d, c', false) ∧ o' ++ ngs pd = o ++ L ∧ (∀ x ∈ pd, r + 2 ≤ rkI x) ∧ (∀ i, i ≤ d → c' i = c i) ∧ (∀ j, r < j → j < 3 → rkI (f q) ≠ j + 1)) ∧ (ok = false → FLR f (p, o, s, d, c, true) q)
theorem SpU_of {f : Int → Int} {r d : Nat} {p : Int} {ok : Bool} {q : Int} {L : List Int} (hr : r < 3) (ht : r + 1 = 3 → SpT f d p ok q L) (hx : r + 1 < 3 → SpR f (r + 1) d p ok q L) : SpU f r d p ok q L := by
  intro o s c hb
  by_cases e : r + 1 = 3
  · obtain ⟨a1, a2⟩ := ht e o s c
    refine ⟨fun z => ?_, a2⟩
    obtain ⟨o', pd, c', g, g1, g2, g3⟩ := a1 z
    exact ⟨o', pd, c', g, g1, fun x hx => by have := g2 x hx; omega, g3, fun j h1 h2 => by omega⟩
  · obtain ⟨a1, a2⟩ := hx (by omega) o s c hb (fun z => by omega)
    refine ⟨fun z => ?_, a2⟩
    obtain ⟨o', pd, c', g, g1, g2, g3, g4, g5⟩ := a1 z
    refine ⟨o', pd, c', g, g1, fun x hx => by have := g2 x hx; omega, fun i hi => ?_, ?_⟩
    · by_cases e2 : i = d
      · rw [e2]; exact g4 (by omega)
      · exact g3 i (by omega)
    · rcases g5 with g5 | g5
      · exact fun j h1 h2 => g5 j (by omega) h2
      · exact absurd g5.1 (by omega)
/-- an operator is taken -/
theorem op_st {f : Int → Int} {r d : Nat} {p : Int} {o s p0 : List Int} {c : Nat → Bool} (hr : r < 3) (hk : rkI (f p) = r + 1) (hb : blkS s r) (hc : r = 0 → c d = false) (hp : ∀ x ∈ p0, r + 1 ≤ rkI x) : mstp f (p, o, p0 ++ s, d, c, false) = some (p + 1, o ++ ngs p0, f p :: s, d, if r = 0 then upB c d true else c, true) := by
  have hx := pop_a (r := r + 1) (s := s) (fun x hx => by have := hb x hx; omega) hp
  show mopr f p o (p0 ++ s) d c = _
  unfold mopr
  have h41 : f p ≠ 41 := fun z => by rw [z] at hk; have : rkI 41 = 0 := rfl; omega
  rw [if_neg (fun z => h41 z.1), hk, if_neg (fun z => by
    rcases z with z | z
    · omega
    · have := hc (by omega); rw [this] at z; exact absurd z.2 (by decide)), hx.1, hx.2]
  by_cases e : r = 0
  · rw [if_pos (by omega), if_pos e]
  · rw [if_neg (by omega), if_neg e]
theorem rk_le {f : Int → Int} {q : Int} (hf : ∀ p, f p ≤ 255) : rkI (f q) ≤ 3 := by
  have := hf q
  unfold rkI
  split
  · omega
  · split
    · omega
    · split
      · omega
      · rw [if_neg (by omega)]; omega
theorem nx_none {f : Int → Int} {d : Nat} {q : Int} {o s : List Int} {c : Nat → Bool} (hf : ∀ p, f p ≤ 255) (h : nxR f 0 d q c) (h41 : f q ≠ 41 ∨ d = 0) : mstp f (q, o, s, d, c, false) = none := by
  show mopr f q o s d c = none
  unfold mopr
  have := rk_le (q := q) hf
  rw [if_neg (fun z => by rcases h41 with h | h; exact h z.1; omega), if_pos]
  rcases h with h | h
  · have a := h 0 (by omega) (by omega)
    have b := h 1 (by omega) (by omega)
    have e := h 2 (by omega) (by omega)
    omega
  · by_cases z : rkI (f q) = 0
    · exact Or.inl z
    · exact Or.inr ⟨by omega, h.2.1⟩
theorem pr_sp {f : Int → Int} (hf : ∀ p, f p ≤ 255) {m d : Nat} {p q : Int} {ok : Bool} {L : List Int} (h : PR f m d p ok q L) : (m = 3 → SpT f d p ok q L) ∧ (m < 3 → SpR f m d p ok q L) ∧ (∀ r, m = 4 + r → r < 3 → SpL f r d p ok q L) := by
  refine h (fun m d p ok q L => (m = 3 → SpT f d p ok q L) ∧ (m < 3 → SpR f m d p ok q L) ∧ (∀ r, m = 4 + r → r < 3 → SpL f r d p ok q L)) ⟨?_, ?_, ?_, ?_, ?_, ?_, ?_, ?_, ?_, ?_, ?_, ?_, ?_⟩
  · intro d p q ok L h1 ih
    refine ⟨fun _ o s c => ?_, fun z => absurd z (by omega), fun r z => absurd z (by omega)⟩
    have e1 : mstp f (p, o, s, d, c, true) = some (p + 1, o, 256 :: s, d, c, true) := by
      show mthg f p o s d c = _
      unfold mthg
      rw [if_neg (by omega), if_neg (by unfold askI; omega), if_pos h1]
    obtain ⟨a1, a2⟩ := ih.1 rfl o (256 :: s) c
    refine ⟨fun z => ?_, fun z => (a2 z).pre (.one e1)⟩
    obtain ⟨o', pd, c', g, g1, g2, g3⟩ := a1 z
    refine ⟨o', pd ++ [256], c', ?_, ?_, fun x hx => ?_, g3⟩
    · rw [List.append_assoc]; exact .st e1 g
    · rw [ngs_a, ← List.append_assoc, g1, List.append_assoc]; rfl
    · rcases List.mem_append.mp hx with hx | hx
      · exact g2 x hx
      · rw [List.mem_singleton.mp hx]; decide
  · intro d p h1
    refine ⟨fun _ o s c => ⟨fun _ => ⟨_, [], c, .one ?_, List.append_nil _, fun x hx => absurd hx List.not_mem_nil, fun _ _ => rfl⟩, nofun⟩, fun z => absurd z (by omega), fun r z => absurd z (by omega)⟩
    show mthg f p o s d c = _
    unfold mthg
    rw [if_pos h1]
    rfl
  · intro d p h1
    refine ⟨fun _ o s c => ⟨fun _ => ⟨_, [], c, .one ?_, List.append_nil _, fun x hx => absurd hx List.not_mem_nil, fun _ _ => rfl⟩, nofun⟩, fun z => absurd z (by omega), fun r z => absurd z (by omega)⟩
    show mthg f p o s d c = _
    unfold mthg
    rw [if_neg (by unfold askI at h1; omega), if_pos h1]
    rfl
  · intro d p h1 h2 h3 h4
    refine ⟨fun _ o s c => ⟨nofun, fun _ => ⟨_, .rf _, ?_, rfl, Or.inl rfl⟩⟩, fun z => absurd z (by omega), fun r z => absurd z (by omega)⟩
    show mthg f p o s d c = _
    unfold mthg
    rw [if_neg h2, if_neg h3, if_neg h1, if_neg h4]
  · intro d p q L h1 h2 ih
    refine ⟨fun _ o s c => ⟨nofun, fun _ => ?_⟩, fun z => absurd z (by omega), fun r z => absurd z (by omega)⟩
    have e1 : mstp f (p, o, s, d, c, true) = some (p + 1, o, 40 :: s, d + 1, upB c (d + 1) false, true) := by
      show mthg f p o s d c = _
      unfold mthg
      rw [if_neg (by omega), if_neg (by unfold askI; omega), if_neg (by omega), if_pos ⟨h1, h2⟩]
    exact ((ih.2.1 (by omega) o (40 :: s) (upB c (d + 1) false) (fun x hx => by cases hx; exact Nat.le_refl 0) (fun _ => if_pos rfl)).2 rfl).pre (.one e1)
  · intro d p q L h1 h2 ih h3
    refine ⟨fun _ o s c => ⟨nofun, fun _ => ?_⟩, fun z => absurd z (by omega), fun r z => absurd z (by omega)⟩
    have e1 : mstp f (p, o, s, d, c, true) = some (p + 1, o, 40 :: s, d + 1, upB c (d + 1) false, true) := by
      show mthg f p o s d c = _
      unfold mthg
      rw [if_neg (by omega), if_neg (by unfold askI; omega), if_neg (by omega), if_pos ⟨h1, h2⟩]
    obtain ⟨o', pd, c', g, g1, g2, g3, g4, g5⟩ := (ih.2.1 (by omega) o (40 :: s) (upB c (d + 1) false) (fun x hx => by cases hx; exact Nat.le_refl 0) (fun _ => if_pos rfl)).1 rfl
    exact ⟨_, .st e1 g, nx_none hf g5 (Or.inl h3), rfl, Or.inr (Nat.succ_pos d)⟩
  · intro d p q L h1 h2 ih h3
    refine ⟨fun _ o s c => ⟨fun _ => ?_, nofun⟩, fun z => absurd z (by omega), fun r z => absurd z (by omega)⟩
    have e1 : mstp f (p, o, s, d, c, true) = some (p + 1, o, 40 :: s, d + 1, upB c (d + 1) false, true) := by
      show mthg f p o s d c = _
      unfold mthg
      rw [if_neg (by omega), if_neg (by unfold askI; omega), if_neg (by omega), if_pos ⟨h1, h2⟩]
    obtain ⟨o', pd, c', g, g1, g2, g3, g4, g5⟩ := (ih.2.1 (by omega) o (40 :: s) (upB c (d + 1) false) (fun x hx => by cases hx; exact Nat.le_refl 0) (fun _ => if_pos rfl)).1 rfl
    have hx := pop_a (r := 1) (s := 40 :: s) (fun x hx => by cases hx; exact Nat.one_pos) g2
    refine ⟨o' ++ ngs pd, [], c', .st e1 (g.tr (.one ?_)), by rw [g1]; exact List.append_nil _, fun x hx => absurd hx List.not_mem_nil, fun i hi => ?_⟩
    · show mopr f q o' (pd ++ 40 :: s) (d + 1) c' = _
      unfold mopr
      rw [if_pos ⟨h3, Nat.succ_pos d⟩, hx.1, hx.2]
      rfl
    · rw [g3 i (by omega)]
      exact if_neg (by omega)
  · intro r d p q L h1 ih
    refine ⟨fun z => absurd z (by omega), fun _ o s c hb hc => ⟨nofun, fun _ => ?_⟩, fun r' z => absurd z (by omega)⟩
    exact (SpU_of h1 (fun e => ih.1 e) (fun e => ih.2.1 e) o s c (fun x hx => by have := hb x hx; omega)).2 rfl
  · intro r d p q q' ok L L' h1 ih1 ih2
    refine ⟨fun z => absurd z (by omega), fun _ o s c hb hc => ?_, fun r' z => absurd z (by omega)⟩
    obtain ⟨o1, pd1, c1, g, g1, g2, g3, g4⟩ := (SpU_of h1 (fun e => ih1.1 e) (fun e => ih1.2.1 e) o s c (fun x hx => by have := hb x hx; omega)).1 rfl
    obtain ⟨a1, a2⟩ := ih2.2.2 r rfl h1 o1 s pd1 c1 hb (fun z => by rw [g3 d (Nat.le_refl d)]; exact hc z) (fun x hx => by have := g2 x hx; omega) g4
    refine ⟨fun z => ?_, fun z => (a2 z).pre g⟩
    obtain ⟨o', pd, c', k, k1, k2, k3, k4, k5⟩ := a1 z
    exact ⟨o', pd, c', g.tr k, by rw [k1, g1, List.append_assoc], k2, fun i hi => (k3 i hi).trans (g3 i (by omega)), fun z => (k4 z).trans (g3 d (Nat.le_refl d)), k5⟩
  · intro r d p h1 h2
    refine ⟨fun z => absurd z (by omega), fun z => absurd z (by omega), fun r' z hr o s p0 c hb hc hp hn => ?_⟩
    obtain rfl : r' = r := by omega
    refine ⟨fun _ => ⟨o, p0, c, .rf _, (List.append_nil _).symm, hp, fun _ _ => rfl, fun _ => rfl, Or.inl fun j h3 h4 => ?_⟩, nofun⟩
    by_cases e : j = r'
    · rw [e]; exact h2
    · exact hn j (by omega) h4
  · intro r d p q L h1 h2 ih
    refine ⟨fun z => absurd z (by omega), fun z => absurd z (by omega), fun r' z hr o s p0 c hb hc hp hn => ?_⟩
    obtain rfl : r' = r := by omega
    refine ⟨nofun, fun _ => ?_⟩
    exact ((SpU_of h1 (fun e => ih.1 e) (fun e => ih.2.1 e) (o ++ ngs p0) (f p :: s) _ (fun x hx => by cases hx; omega)).2 rfl).pre (.one (op_st h1 h2 hb hc hp))
  · intro d p q L h2 ih
    refine ⟨fun z => absurd z (by omega), fun z => absurd z (by omega), fun r' z hr o s p0 c hb hc hp hn => ?_⟩
    obtain rfl : r' = 0 := by omega
    refine ⟨fun _ => ?_, nofun⟩
    obtain ⟨o', pd, c', g, g1, g2, g3, g4⟩ := (SpU_of (r := 0) (by omega) (fun e => by omega) (fun e => ih.2.1 e) (o ++ ngs p0) (f p :: s) (upB c d true) (fun x hx => by cases hx; omega)).1 rfl
    refine ⟨o', pd ++ [f p], c', ?_, ?_, fun x hx => ?_, fun i hi => ?_, fun z => absurd z (by omega), Or.inr ⟨rfl, ?_, g4 1 (by omega) (by omega), g4 2 (by omega) (by omega)⟩⟩
    · rw [List.append_assoc]
      exact .st (op_st (by omega) h2 hb hc hp) g
    · rw [ngs_a, ← List.append_assoc, g1, ← List.append_assoc]; rfl
    · rcases List.mem_append.mp hx with hx | hx
      · have := g2 x hx; omega
      · rw [List.mem_singleton.mp hx]; omega
    · rw [g3 i (by omega)]; exact if_neg (by omega)
    · rw [g3 d (Nat.le_refl d)]; exact if_pos rfl
  · intro r d p q q' ok L L' h0 h1 h2 ih1 ih2
    refine ⟨fun z => absurd z (by omega), fun z => absurd z (by omega), fun r' z hr o s p0 c hb hc hp hn => ?_⟩
    obtain rfl : r' = r := by omega
    obtain ⟨o1, pd1, c1, g, g1, g2, g3, g4⟩ := (SpU_of h1 (fun e => ih1.1 e) (fun e => ih1.2.1 e) (o ++ ngs p0) (f p :: s) c (fun x hx => by cases hx; omega)).1 rfl
    have e1 := op_st (o := o) h1 h2 hb hc hp
    rw [if_neg (by omega)] at e1
    obtain ⟨a1, a2⟩ := ih2.2.2 r' rfl h1 o1 s (pd1 ++ [f p]) c1 hb (fun z => absurd z (by omega)) (fun x hx => by
      rcases List.mem_append.mp hx with hx | hx
      · have := g2 x hx; omega
      · rw [List.mem_singleton.mp hx]; omega) g4
    rw [List.append_assoc] at a1 a2
    refine ⟨fun z => ?_, fun z => (a2 z).pre (.st e1 g)⟩
    obtain ⟨o', pd, c', k, k1, k2, k3, k4, k5⟩ := a1 z
    refine ⟨o', pd, c', .st e1 (g.tr k), ?_, k2, fun i hi => (k3 i hi).trans (g3 i (by omega)), fun z => (k4 z).trans (g3 d (Nat.le_refl d)), k5⟩
    rw [k1, ngs_a, ← List.append_assoc o1, g1, List.append_assoc (o ++ ngs p0) L, List.append_assoc]
    rfl
/-- the whole: the reference's reading, and where the class ends -/
theorem pr_all {f : Int → Int} (hf : ∀ p, f p ≤ 255) {q : Int} {ok : Bool} {L : List Int} (h : PR f 0 0 0 ok q L) {y : RdS} (g : GoR f (0, [], [], 0, fun _ => false, true) y) (hy : mstp f y = none) : y.1 = q ∧ (ok = true → y.2.2.2.2.2 = false ∧ y.2.2.2.1 = 0 ∧ y.2.1 ++ ngs (popS 1 y.2.2.1) = L) ∧ (ok = false → y.2.2.2.2.2 = true ∨ 0 < y.2.2.2.1) := by
  have hs := (pr_sp hf h).2.1 (by omega) [] [] (fun _ => false) (fun x hx => by cases hx) (fun _ => rfl)
  cases ok with
  | true =>
    obtain ⟨o', pd, c', k, k1, k2, k3, k4, k5⟩ := hs.1 rfl
    have e := GoR.det g hy k (nx_none hf k5 (Or.inr rfl))
    rw [e]
    refine ⟨rfl, fun _ => ⟨rfl, rfl, ?_⟩, nofun⟩
    show o' ++ ngs (popS 1 (pd ++ [])) = L
    rw [(pop_a (r := 1) (s := []) (fun x hx => by cases hx) k2).1, k1]
    rfl
  | false =>
    obtain ⟨z, k, k1, k2, k3⟩ := hs.2 rfl
    have e := GoR.det g hy k k1
    rw [e]
    exact ⟨k2, nofun, fun _ => k3⟩
