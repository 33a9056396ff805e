/-! THE CHECKER IS RIGHT -/
/-- the cells: rl, the role of each; sg, the named ones -/
def isr (rl : List Nat) (sg : Nat → Option Nat) (r a : Nat) : Prop := if r < 500 then rl[a]? = some r else sg r = some a
/-- the tables fit the cells -/
def EOK (E : ET) (rl : List Nat) (sg : Nat → Option Nat) : Prop := (∀ r a b, eO E r = true → isr rl sg r a → isr rl sg r b → a = b) ∧ ∀ r a, 500 ≤ r → sg r = some a → rl[a]? = some (r - 500) ∧ r < 1000
/-- a heap is in order -/
def GD (E : ET) (rl : List Nat) (sh : List (Nat × Nat)) (h : aH) : Prop :=
  h.1 = sh ∧ (∀ (a r : Nat), rl[a]? = some r → sh[a]? = some (eS E r)) ∧
  (∀ (a r : Nat), rl[a]? = some r → ∀ q ∈ eG E r, ∀ k, q.1 ≤ k → k ≤ q.2.1 → q.2.2.1 ≤ (aI h a k).toInt ∧ (aI h a k).toInt ≤ q.2.2.2) ∧
  (∀ (a r : Nat), rl[a]? = some r → ∀ q ∈ eR E r, ∀ k, q.1 ≤ k → k ≤ q.2.1 → ∃ b, aR h a k = some b ∧ rl[b]? = some q.2.2)
/-- what isn't named for writing stays -/
def FRM (rl : List Nat) (M : MD) (h h' : aH) : Prop :=
  (∀ a k, (∀ r, rl[a]? = some r → mHas M 0 r k = false) → aI h' a k = aI h a k) ∧ (∀ a k, (∀ r, rl[a]? = some r → mHas M 1 r k = false) → aJ h' a k = aJ h a k) ∧ (∀ a k, (∀ r, rl[a]? = some r → mHas M 2 r k = false) → aR h' a k = aR h a k)
theorem FRM.rf {rl : List Nat} {M : MD} {h : aH} : FRM rl M h h := ⟨fun _ _ _ => rfl, fun _ _ _ => rfl, fun _ _ _ => rfl⟩
theorem FRM.trans {rl : List Nat} {M : MD} {h h1 h2 : aH} (a : FRM rl M h h1) (b : FRM rl M h1 h2) : FRM rl M h h2 :=
  ⟨fun q k z => (b.1 q k z).trans (a.1 q k z), fun q k z => (b.2.1 q k z).trans (a.2.1 q k z), fun q k z => (b.2.2 q k z).trans (a.2.2 q k z)⟩
theorem msub_has {M M' : MD} (h : msub M M' = true) {w r k : Nat} (hn : mHas M' w r k = false) : mHas M w r k = false := by
  cases hc : mHas M w r k with
  | false => rfl
  | true =>
    exfalso
    obtain ⟨q, hq, hq2⟩ := List.any_eq_true.mp hc
    obtain ⟨q', hq', hq3⟩ := List.any_eq_true.mp (List.all_eq_true.mp h q hq)
    have : mHas M' w r k = true := List.any_eq_true.mpr ⟨q', hq', by
      simp only [Bool.and_eq_true, Nat.beq_eq, Nat.ble_eq] at hq2 hq3 ⊢
      omega⟩
    rw [hn] at this
    cases this
theorem FRM.mono {rl : List Nat} {M M' : MD} {h h' : aH} (hs : msub M M' = true) (a : FRM rl M h h') : FRM rl M' h h' :=
  ⟨fun q k z => a.1 q k (fun r hr => msub_has hs (z r hr)), fun q k z => a.2.1 q k (fun r hr => msub_has hs (z r hr)), fun q k z => a.2.2 q k (fun r hr => msub_has hs (z r hr))⟩
section AI
variable {E : ET} {rl : List Nat} {sg : Nat → Option Nat} {sh : List (Nat × Nat)}
/-- where a number comes from -/
def gp (rl : List Nat) (sg : Nat → Option Nat) (ls : List (Nat × Value)) (h : aH) (p : Nat) (x : Int) : Prop :=
  if p = 0 then True else if p < 1000 then ∃ y : Int32, lk ls (p - 1) = some (.int y) ∧ y.toInt = x else ∀ a, isr rl sg ((p - 1000) / 10000) a → (aI h a ((p - 1000) % 10000)).toInt = x
def gv (rl : List Nat) (sg : Nat → Option Nat) (ls : List (Nat × Value)) (h : aH) (v : AV) (x : Value) : Prop := match v.1 with
  | 0 => ∃ z : Int32, x = .int z ∧ v.2.2.1 ≤ z.toInt ∧ z.toInt ≤ v.2.2.2 ∧ gp rl sg ls h v.2.1 z.toInt
  | 1 => ∃ z : Int64, x = .long z ∧ v.2.2.1 ≤ z.toInt ∧ z.toInt ≤ v.2.2.2 ∧ gp rl sg ls h v.2.1 z.toInt
  | 2 => ∃ a, x = .ref a ∧ isr rl sg v.2.1 a
  | 3 => ∃ b, x = .ref (1000000 + b) ∧ b < 6 ∧ (v.2.1 = 99 ∨ v.2.1 = b)
  | _ => False
def gst (rl : List Nat) (sg : Nat → Option Nat) (ls : List (Nat × Value)) (h : aH) : List AV → List Value → Prop
  | [], [] => True
  | v :: vs, x :: xs => gv rl sg ls h v x ∧ gst rl sg ls h vs xs
  | _, _ => False
def gls (rl : List Nat) (sg : Nat → Option Nat) (l : List (Nat × AV)) (ls : List (Nat × Value)) (h : aH) : Prop := ∀ q ∈ l, ∃ x, lk ls q.1 = some x ∧ gv rl sg ls h (noP q.2) x
def gov (rl : List Nat) (sg : Nat → Option Nat) (o : OV) (h : aH) : Prop := ∀ q ∈ o, ∀ a, isr rl sg q.1 a → q.2.2.1 ≤ (aI h a q.2.1).toInt ∧ (aI h a q.2.1).toInt ≤ q.2.2.2
def gdl (ρ : Nat → Int) (dl : List (Nat × Int)) (ls : List (Nat × Value)) : Prop := ∀ q ∈ dl, ∃ x : Int32, lk ls q.1 = some (.int x) ∧ x.toInt = ρ q.1 + q.2
/-- the state is as the checker says -/
def IV (E : ET) (rl : List Nat) (sg : Nat → Option Nat) (sh : List (Nat × Nat)) (M : MD) (h0 : aH) (ρ : Nat → Int) (S : AS) (ls : List (Nat × Value)) (st : List Value) (h : aH) : Prop :=
  GD E rl sh h ∧ FRM rl M h0 h ∧ gls rl sg S.1 ls h ∧ gst rl sg ls h S.2.1 st ∧ gov rl sg S.2.2.1 h ∧ gdl ρ S.2.2.2 ls
theorem ile_t {a b : Int} (h : ile a b = true) : a ≤ b := of_decide_eq_true h
theorem i32_lo (x : Int32) : i0 ≤ x.toInt := Int32.le_toInt x
theorem i32_hi (x : Int32) : x.toInt ≤ i1 := by have := Int32.toInt_lt x; unfold i1; omega
theorem i64_lo (x : Int64) : j0 ≤ x.toInt := Int64.le_toInt x
theorem i64_hi (x : Int64) : x.toInt ≤ j1 := by have := Int64.toInt_lt x; unfold j1; omega
/-- what a table says of ints read -/
theorem gI_ok {h : aH} {a : Nat} : ∀ {g : List (Nat × Nat × Int × Int)} {i j k : Nat}, (∀ q ∈ g, ∀ k, q.1 ≤ k → k ≤ q.2.1 → q.2.2.1 ≤ (aI h a k).toInt ∧ (aI h a k).toInt ≤ q.2.2.2) → i ≤ k → k ≤ j → (gI g i j).1 ≤ (aI h a k).toInt ∧ (aI h a k).toInt ≤ (gI g i j).2
  | [], _, _, k, _, _, _ => ⟨i32_lo _, i32_hi _⟩
  | q :: t, i, j, k, hg, h1, h2 => by
    unfold gI
    split
    · rename_i hc
      simp only [Bool.and_eq_true, Nat.ble_eq] at hc
      exact hg q List.mem_cons_self k (by omega) (by omega)
    · exact gI_ok (fun q hq => hg q (List.mem_cons_of_mem _ hq)) h1 h2
theorem isr_rl (hE : EOK E rl sg) {r a : Nat} (h : isr rl sg r a) : rl[a]? = some (bse r) := by
  unfold isr at h
  unfold bse
  split at h
  · rename_i hr; rw [if_pos hr]; exact h
  · rename_i hr; rw [if_neg hr]; exact (hE.2 r a (by omega) h).1
theorem ovG_ok {o : OV} {h : aH} {r k a : Nat} {d : Int × Int} (hr : isr rl sg r a) (hd : d.1 ≤ (aI h a k).toInt ∧ (aI h a k).toInt ≤ d.2) : gov rl sg o h → (ovG o r k d).1 ≤ (aI h a k).toInt ∧ (aI h a k).toInt ≤ (ovG o r k d).2 := by
  induction o with
  | nil => intro _; exact hd
  | cons q t ih =>
    intro hg
    unfold ovG
    split
    · rename_i hc
      simp only [Bool.and_eq_true, Nat.beq_eq] at hc
      have := hg q List.mem_cons_self a (by rw [hc.1]; exact hr)
      rw [hc.2] at this
      exact this
    · exact ih (fun q hq => hg q (List.mem_cons_of_mem _ hq))
/-- what is read of one cell -/
theorem rd_ok {h : aH} {o : OV} {r k a : Nat} (hE : EOK E rl sg) (hG : GD E rl sh h) (ho : gov rl sg o h) (hr : isr rl sg r a) : (ovG o r k (gI (eG E r) k k)).1 ≤ (aI h a k).toInt ∧ (aI h a k).toInt ≤ (ovG o r k (gI (eG E r) k k)).2 := by
  refine ovG_ok hr ?_ ho
  have e : eG E r = eG E (bse r) := by
    unfold eG bse
    split <;> rename_i hc
    · rfl
    · by_cases h5 : r - 500 < 500
      · rw [if_pos h5]
      · exfalso
        unfold isr at hr
        rw [if_neg hc] at hr
        have := (hE.2 r a (by omega) hr).2
        omega
  rw [e]
  exact gI_ok (hG.2.2.1 a _ (isr_rl hE hr)) (Nat.le_refl _) (Nat.le_refl _)
end AI
