/-! EVERY ROW, all together -/
section AIZ
variable {E : ET} {rl : List Nat} {sg : Nat → Option Nat} {sh : List (Nat × Nat)} {M : MD} {h0 : aH} {ρ : Nat → Int}
def MONO (CL : CT) : Prop := ∀ (mid : Nat) (as : List Value) (h : aH) (mc ms : Nat) (Q Q' : QT), (∀ v h', Q v h' → Q' v h') → CL mid as h mc ms Q → CL mid as h mc ms Q'
/-- what references name is a plain role -/
def ELow (E : ET) : Prop := ∀ r, ∀ z ∈ eR E r, z.2.2 < 500
theorem fnd_ok {sms : List SM} {mid : Nat} {as : List AV} {o : OV} {sm : SM} (h : fnd E sms mid as o = some sm) : sm ∈ sms ∧ sm.1 = mid ∧ avles as sm.2.1 = true ∧ ovle E o sm.2.2.1 = true := by
  have h1 := List.mem_of_find?_eq_some h
  have h2 := List.find?_some h
  simp only [Bool.and_eq_true, Nat.beq_eq] at h2
  exact ⟨h1, h2.1.1, h2.1.2, h2.2⟩
theorem gR_low (hL : ELow E) {r a b q : Nat} (h : gR (eR E r) a b = some q) : q < 500 := by
  obtain ⟨z, h1, -, -, h4⟩ := gR_ok h
  rw [← h4]; exact hL r z h1
theorem ile_f {a b : Int} (h : ¬ ile a b = true) : b < a := by
  have : ¬ a ≤ b := fun q => h (decide_eq_true q)
  omega
theorem mx_ok {u v : Int32} {a b c d : Int} (h1 : a ≤ u.toInt) (h2 : u.toInt ≤ b) (h3 : c ≤ v.toInt) (h4 : v.toInt ≤ d) : (if ile a c then c else a) ≤ (if u < v then v else u).toInt ∧ (if u < v then v else u).toInt ≤ (if ile b d then d else b) := by
  by_cases e : u < v
  · rw [if_pos e]
    have e' := Int32.lt_iff_toInt_lt.mp e
    constructor
    · split
      · exact h3
      · omega
    · split
      · exact h4
      · rename_i q; have := ile_f q; omega
  · rw [if_neg e]
    have e' : v.toInt ≤ u.toInt := by have := mt Int32.lt_iff_toInt_lt.mpr e; omega
    constructor
    · split
      · omega
      · exact h1
    · split
      · rename_i q; have := ile_t q; omega
      · exact h2
theorem mn_ok {u v : Int32} {a b c d : Int} (h1 : a ≤ u.toInt) (h2 : u.toInt ≤ b) (h3 : c ≤ v.toInt) (h4 : v.toInt ≤ d) : (if ile a c then a else c) ≤ (if v < u then v else u).toInt ∧ (if v < u then v else u).toInt ≤ (if ile b d then b else d) := by
  by_cases e : v < u
  · rw [if_pos e]
    have e' := Int32.lt_iff_toInt_lt.mp e
    constructor
    · split
      · rename_i q; have := ile_t q; omega
      · exact h3
    · split
      · omega
      · exact h4
  · rw [if_neg e]
    have e' : u.toInt ≤ v.toInt := by have := mt Int32.lt_iff_toInt_lt.mpr e; omega
    constructor
    · split
      · exact h1
      · rename_i q; have := ile_f q; omega
    · split
      · exact h2
      · omega
theorem ab_ok {u : Int32} {a b : Int} (h0 : ile (i0 + 1) a = true) (h1 : a ≤ u.toInt) (h2 : u.toInt ≤ b) : (absI a b).1 ≤ (if 0 ≤ u then u else 0 - u).toInt ∧ (if 0 ≤ u then u else 0 - u).toInt ≤ (absI a b).2 := by
  have h0' := ile_t h0
  have z : (0 : Int32).toInt = 0 := rfl
  have key : (0 ≤ u.toInt ∧ (if 0 ≤ u then u else 0 - u).toInt = u.toInt) ∨ (u.toInt < 0 ∧ (if 0 ≤ u then u else 0 - u).toInt = - u.toInt) := by
    by_cases e : 0 ≤ u
    · left
      rw [if_pos e]
      have e' := Int32.le_iff_toInt_le.mp e
      rw [z] at e'
      exact ⟨e', rfl⟩
    · right
      rw [if_neg e]
      have e' : u.toInt < 0 := by have := mt Int32.le_iff_toInt_le.mpr e; rw [z] at this; omega
      refine ⟨e', ?_⟩
      rw [Int32.toInt_sub, z]
      have e1 : (0 - u.toInt).bmod (2 ^ 32) = 0 - u.toInt := bm32 (by have : i0 ≤ 0 := by decide
                                                                      omega) (by have : i1 = -(i0 + 1) := by decide
                                                                                 omega)
      rw [e1]; omega
  generalize (if 0 ≤ u then u else 0 - u).toInt = w at key ⊢
  unfold absI
  split
  · rename_i q
    have q := ile_t q
    exact ⟨by show a ≤ w; omega, by show w ≤ b; omega⟩
  · rename_i q
    have q := ile_f (by simpa using q)
    split
    · rename_i r
      have r := ile_t r
      exact ⟨by show -b ≤ w; omega, by show w ≤ -a; omega⟩
    · rename_i r
      have r := ile_f (by simpa using r)
      refine ⟨by show 0 ≤ w; omega, ?_⟩
      show w ≤ if ile (-a) b then b else -a
      split
      · rename_i t; have t := ile_t t; omega
      · rename_i t; have t := ile_f (by simpa using t); omega
end AIZ
