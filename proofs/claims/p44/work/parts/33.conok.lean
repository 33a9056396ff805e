/-! CONCRETE RUNS are runs -/
theorem cx_ok {CL : CT} {cc : Nat → List Value → cH → cO} (hcc : CCOK CL cc) {ac : AC} {ret : Option FieldType} {Q : QT} {K : KT} (hK : CLO CL ac ret Q K) : ∀ (n : Nat) (cur : AC) (pc : Nat) (ls : List (Nat × Value)) (st : List Value) (c : cH) (rv : Option Value) (c' : cH) (uc us : Nat), cx cc ac ret n cur ls st c = some (rv, c', uc, us) → (∀ q ∈ cur, q ∈ ac) → (∀ q t, cur = q :: t → q.1 = pc) →
    ∀ (h : aH) (bc bs : Nat), REL c h → uc ≤ bc → us ≤ bs → (∀ h', REL c' h' → Q rv h') → K pc ls st h bc bs := by
  intro n
  induction n with
  | zero => intro cur pc ls st c rv c' uc us hx; cases hx
  | succ n ih =>
    intro cur pc ls st c rv c' uc us hx hsub hpc h bc bs hr h1 h2 hq
    unfold cx at hx
    split at hx
    · cases hx
    · rename_i pc' i r1 r2 r3 t
      have e : pc' = pc := hpc _ _ rfl
      subst e
      refine hK _ _ _ _ _ _ ⟨i, r1, r2, r3, hsub _ List.mem_cons_self, ?_⟩
      split at hx
      · split at hx
        · rename_i hc
          rw [Bool.and_eq_true] at hc
          cases hx
          exact ⟨List.isEmpty_iff.mp hc.1, Option.isNone_iff_eq_none.mp hc.2, hq h hr⟩
        · cases hx
      · split at hx
        · cases hx
        · rename_i pc2 ls2 st2 c2 a b hs
          split at hx
          · cases hx
          · rename_i rv3 c3 uc3 us3 hx2
            cases hx
            obtain ⟨n1, n2⟩ := nxt_ok (ac := ac) (pc := pc2) hsub
            refine cs1_ok hcc hs hr (by omega) (by omega) fun h' hr' => ?_
            exact ih _ _ _ _ _ _ _ _ _ hx2 n1 n2 h' _ _ hr' (by omega) (by omega) hq
theorem ccD_ok {SP : CT} (fuel : Nat) : ∀ d, CCOK (CLd SP d) (ccD fuel d)
  | 0 => fun _ _ _ _ _ _ _ h => by cases h
  | d + 1 => fun mid as c rv c' a b hx h Q hr hq => by
    unfold ccD at hx
    split at hx
    · rename_i mi hmi
      split at hx
      · rename_i hc
        refine Or.inr ⟨mi, hmi, Nat.ble_eq.mp hc, fun K hK => ?_⟩
        exact cx_ok (ccD_ok fuel d) hK _ _ _ _ _ _ _ _ _ _ hx dropTo_ok.1 dropTo_ok.2 h a b hr (Nat.le_refl _) (Nat.le_refl _) hq
      · cases hx
    · cases hx
