/-! ORDERED: the class's answer is the reference's -/
theorem cwF_ext {f g : Int → Int} {last : Int} (h : ∀ k, 0 ≤ k → k ≤ last → f k = g k) (h0 : 0 ≤ last) : ∀ (d : Nat) (l : Int), (d : Int) ≤ last → cwF f last d l = cwF g last d l
  | 0, l, _ => by
    show (if f last = -1 ∨ f last = l then (1 : Int) else 0) = if g last = -1 ∨ g last = l then 1 else 0
    rw [h last h0 (Int.le_refl _)]
  | d + 1, l, hd => by
    have ih := cwF_ext h h0 d
    show (if f (last - (d + 1)) = -1 ∨ f (last - (d + 1)) = l then s3 (cwF f last d) l 2 else 0) = if g (last - (d + 1)) = -1 ∨ g (last - (d + 1)) = l then s3 (cwF g last d) l 2 else 0
    rw [h (last - (d + 1)) (by omega) (by omega), s3_ext fun q _ _ => ih q (by omega)]
theorem snF_none {st la : Nat → Int} {k : Int} : ∀ n : Nat, (∀ i, i < n → st i ≠ k) → snF st la k n = -1
  | 0, _ => rfl
  | n + 1, h => by
    show (if st n = k then la n else snF st la k n) = -1
    rw [if_neg (h n (by omega))]
    exact snF_none n fun i hi => h i (by omega)
theorem snF_hit {st la : Nat → Int} {k : Int} : ∀ n : Nat, (∀ i, i < n → 0 ≤ la i) → (∃ i, i < n ∧ st i = k) → 0 ≤ snF st la k n
  | 0, _, ⟨i, hi, _⟩ => absurd hi (by omega)
  | n + 1, h, ⟨i, hi, e⟩ => by
    show 0 ≤ if st n = k then la n else snF st la k n
    by_cases c : st n = k
    · rw [if_pos c]; exact h n (by omega)
    · rw [if_neg c]
      exact snF_hit n (fun j hj => h j (by omega)) ⟨i, by have : i ≠ n := fun z => c (z ▸ e); omega, e⟩
theorem lsF_le {st : Nat → Int} : ∀ n i : Nat, i < n → st i ≤ lsF st n
  | 0, i, hi => absurd hi (by omega)
  | n + 1, i, hi => by
    show st i ≤ max (lsF st n) (st n)
    by_cases c : i = n
    · subst c; omega
    · have := lsF_le (st := st) n i (by omega); omega
theorem lsF_at {st : Nat → Int} : ∀ n : Nat, 0 < n → (∀ i, i < n → 0 ≤ st i) → ∃ i, i < n ∧ st i = lsF st n
  | 0, h, _ => absurd h (by omega)
  | n + 1, _, h => by
    show ∃ i, i < n + 1 ∧ st i = max (lsF st n) (st n)
    by_cases c : 0 < n ∧ st n < lsF st n
    · obtain ⟨i, hi, e⟩ := lsF_at n c.1 fun i hi => h i (by omega)
      exact ⟨i, by omega, by omega⟩
    · refine ⟨n, by omega, ?_⟩
      have := h n (by omega)
      by_cases d : 0 < n
      · omega
      · obtain rfl : n = 0 := by omega
        show st 0 = max (-1) (st 0)
        omega
theorem ls_lc {st la f : Nat → Int} {n : Nat} (h0 : 0 < n) (hs : ∀ i, i < n → 0 ≤ st i ∧ st i ≤ 24) (hl : ∀ i, i < n → 0 ≤ la i) (hf : ∀ k : Nat, k ≤ 24 → f k = snF st la k n) : lcF f 24 = lsF st n := by
  obtain ⟨-, b2, b3⟩ := lsF_b n hs
  have b3 := b3 h0
  refine lcF_eq b3 ?_ 24 b2 fun k a b => ?_
  · rw [hf _ (by omega), show (((lsF st n).toNat : Nat) : Int) = lsF st n by omega]
    have := snF_hit n hl (lsF_at n h0 fun i hi => (hs i hi).1)
    omega
  · rw [hf k b]
    exact snF_none n fun i hi z => by have := lsF_le (st := st) n i hi; omega
theorem ord_eq {sh : List (Nat × Nat)} {h : aH} (hG : GD gE gRL sh h) (hc : ∀ k : Nat, k ≤ 24 → gi h 134 k = snF (gi h 193) (gi h 194) k (gi h 171 42).toNat) (hn : 0 < gi h 171 42) : sMn (fun k => snF (gi h 193) (gi h 194) k (gi h 171 42).toNat) (lsF (gi h 193) (gi h 171 42).toNat) (lsF (gi h 193) (gi h 171 42).toNat).toNat 4 = min 1000000 (cwF (fun k : Int => gi h 134 k.toNat) (lcF (gi h 134) 24) (lcF (gi h 134) 24).toNat 4) := by
  have gn := gri 0 12 hG (a := 171) (r := 54) (k := 42) rfl rfl
  have hs : ∀ i, i < (gi h 171 42).toNat → 0 ≤ gi h 193 i ∧ gi h 193 i ≤ 24 := fun i hi => grn 0 24 hG (a := 193) (r := 76) rfl rfl (by omega)
  have hl : ∀ i, i < (gi h 171 42).toNat → 0 ≤ gi h 194 i ∧ gi h 194 i ≤ 8 := fun i hi => grn 0 8 hG (a := 194) (r := 77) rfl rfl (by omega)
  obtain ⟨-, b2, b3⟩ := lsF_b (gi h 171 42).toNat hs
  have b3 := b3 (by omega)
  rw [ls_lc (by omega) hs (fun i hi => (hl i hi).1) hc]
  rw [cw_mn (f := fun k => snF (gi h 193) (gi h 194) k (gi h 171 42).toNat) (fun k => (snF_b _ hl).1) _ _ _ (Or.inr ⟨by omega, rfl⟩)]
  congr 1
  refine cwF_ext (fun k k0 k1 => ?_) b3 _ _ (by omega)
  show snF (gi h 193) (gi h 194) k (gi h 171 42).toNat = gi h 134 k.toNat
  rw [hc _ (by omega), show ((k.toNat : Nat) : Int) = k by omega]
