/-! ROWS THAT STORE, READ CELLS, CALL -/
section AIY
variable {E : ET} {rl : List Nat} {sg : Nat → Option Nat} {sh : List (Nat × Nat)} {M : MD} {h0 : aH} {ρ : Nat → Int}
theorem gdl_so1 {dl : List (Nat × Int)} {ls : List (Nat × Value)} {i : Nat} {v : Value} (h : gdl ρ dl ls) : gdl ρ (dK dl i) (so1 ls i v) := by
  intro q hq
  obtain ⟨hm, hf⟩ := List.mem_filter.mp hq
  obtain ⟨x, e, e2⟩ := h q hm
  have h1 : q.1 ≠ i := fun z => by rw [Nat.beq_eq.mpr z] at hf; cases hf
  exact ⟨x, lk_so1 e h1 (Or.inl rfl), e2⟩
theorem sv_ok {S : AS} {ls : List (Nat × Value)} {st : List Value} {h : aH} {i k n pc : Nat} {l : List (Nat × AS)} (hv : IV E rl sg sh M h0 ρ S ls st h) (hx : sv S i k n pc = some l) (hk : k ≤ 2) (hk1 : k = 1 → ∀ q ∈ S.2.2.2, q.1 ≠ i + 1) :
    ∃ v st' S', st = v :: st' ∧ (pc + n, S') ∈ l ∧ (k = 0 → ∃ u, v = .int u) ∧ (k = 1 → ∃ u, v = .long u) ∧ (k = 2 → ∃ u, v = .ref u) ∧ IV E rl sg sh M h0 ρ S' (if k = 1 then so2 ls i v else so1 ls i v) st' h := by
  obtain ⟨a1, a2, a3, a4, a5, a6⟩ := hv
  unfold sv at hx
  split at hx
  · rename_i w r he
    split at hx
    · rename_i hc
      cases hx
      rw [he] at a4
      obtain ⟨v, rs, rfl, g1, g2⟩ := gst_c a4
      refine ⟨v, rs, _, rfl, List.mem_singleton.mpr rfl, ?_, ?_, ?_, ?_⟩
      · rintro rfl
        have : Nat.beq w.1 0 = true := by simpa using hc
        obtain ⟨u, hu, -⟩ := k0 g1 this
        exact ⟨u, hu⟩
      · rintro rfl
        have : Nat.beq w.1 1 = true := by simpa using hc
        obtain ⟨u, hu, -⟩ := k1 g1 this
        exact ⟨u, hu⟩
      · rintro rfl
        obtain ⟨kk, p, z⟩ := w
        simp only [Bool.or_eq_true, Bool.and_eq_true, Nat.beq_eq] at hc
        rcases hc with rfl | ⟨-, rfl⟩
        · obtain ⟨u, hu, -⟩ := g1; exact ⟨u, hu⟩
        · obtain ⟨u, hu, -⟩ := g1; exact ⟨_, hu⟩
      · by_cases h1 : k = 1
        · subst h1
          rw [if_pos rfl]
          have hb : Nat.beq 1 1 = true := rfl
          simp only [hb, if_true]
          refine ⟨a1, a2, gls_aso2 a3 g1, gst_kL2 (fun j y h8 h9 e => lk_so2 e h8 h9 (Or.inl rfl)) g2, a5, fun q hq => ?_⟩
          obtain ⟨hm, hf⟩ := List.mem_filter.mp hq
          obtain ⟨x, e, e2⟩ := a6 q hm
          have h8 : q.1 ≠ i := fun z => by rw [Nat.beq_eq.mpr z] at hf; cases hf
          exact ⟨x, lk_so2 e h8 (hk1 rfl q hm) (Or.inl rfl), e2⟩
        · rw [if_neg h1]
          have hb : Nat.beq k 1 = false := by cases hq : Nat.beq k 1; rfl; exact absurd (Nat.beq_eq.mp hq) h1
          simp only [hb, if_false, Bool.false_eq_true]
          exact ⟨a1, a2, gls_aso1 a3 g1, gst_kL (fun j y h8 e => lk_so1 e h8 (Or.inl rfl)) g2, a5, gdl_so1 a6⟩
    · cases hx
  · cases hx
theorem iix {lo hi x : Int} {n : Nat} (h1 : lo ≤ x) (h2 : x ≤ hi) (h3 : ile 0 lo = true) (h4 : ile hi ((n : Int) - 1) = true) : (x.toNat : Int) = x ∧ lo.toNat ≤ x.toNat ∧ x.toNat ≤ hi.toNat ∧ x.toNat < n := by
  have a := ile_t h3
  have b := ile_t h4
  omega
theorem vin_of {x : Int32} {n : Nat} (h1 : 0 ≤ x.toInt) (h2 : x.toInt.toNat < n) : vp_in x n ∧ x.toNatClampNeg = x.toInt.toNat := by
  refine ⟨?_, rfl⟩
  unfold vp_in
  rintro (h | h)
  · have : x.toInt < (0 : Int32).toInt := Int32.lt_iff_toInt_lt.mp h
    simp at this
    omega
  · have : x.toNatClampNeg = x.toInt.toNat := rfl
    omega
/-- an array's place -/
theorem ac1_ok (hE : EOK E rl sg) {o : OV} {vs : List AV} {st : List Value} {t : Nat} {f : Nat → Nat → Nat → List AV → Option (List (Nat × AS))} {l : List (Nat × AS)} {ls : List (Nat × Value)} {h : aH} (hG : GD E rl sh h) (hx : ac1 E o vs t f = some l) (g : gst rl sg ls h vs st) :
    ∃ r a b rest c x st', st = .int x :: .ref c :: st' ∧ f r a b rest = some l ∧ isr rl sg r c ∧ (∃ n, h.1[c]? = some (t, n) ∧ vp_in x n) ∧ a ≤ x.toNatClampNeg ∧ x.toNatClampNeg ≤ b ∧ gst rl sg ls h rest st' := by
  unfold ac1 at hx
  split at hx
  · rename_i i r z rest
    split at hx
    · rename_i hc
      simp only [Bool.and_eq_true] at hc
      obtain ⟨⟨⟨h1, h2⟩, h3⟩, h4⟩ := hc
      obtain ⟨v, rs, rfl, g1, g2⟩ := gst_c g
      obtain ⟨w, rs, rfl, g3, g4⟩ := gst_c g2
      obtain ⟨x, rfl, b1, b2, -⟩ := k0 g1 h1
      obtain ⟨c, rfl, hr⟩ := g3
      have q := iix b1 b2 h3 h4
      have hs := shp hE hG hr
      have w := vin_of (x := x) (n := (eS E r).2) (by have := ile_t h3; omega) q.2.2.2
      refine ⟨r, _, _, rest, c, x, rs, rfl, hx, hr, ⟨(eS E r).2, ?_, w.1⟩, ?_, ?_, g4⟩
      · rw [hs, ← Nat.beq_eq.mp h2]
      · rw [w.2]; exact q.2.1
      · rw [w.2]; exact q.2.2.1
    · cases hx
  · cases hx
theorem rdI_ok (hE : EOK E rl sg) {h : aH} {o : OV} {ls : List (Nat × Value)} {r c a b k : Nat} (hG : GD E rl sh h) (ho : gov rl sg o h) (hr : isr rl sg r c) (h1 : a ≤ k) (h2 : k ≤ b) : gv rl sg ls h (rdI E o r a b) (.int (aI h c k)) := by
  unfold rdI
  split
  · rename_i hc
    have e : k = a := by have := Nat.beq_eq.mp hc; omega
    subst e
    refine gv_ai (rd_ok hE hG ho hr) ?_
    unfold pv
    split
    · rename_i h5
      rw [Bool.and_eq_true, Nat.blt_eq] at h5
      unfold gp
      rw [if_neg (by omega), if_neg (by omega)]
      have e1 : (1000 + 10000 * r + k - 1000) / 10000 = r := by omega
      have e2 : (1000 + 10000 * r + k - 1000) % 10000 = k := by omega
      rw [e1, e2]
      intro d hd
      rw [hE.1 r d c h5.1 hd hr]
    · exact gp0
  · have := gI_ok (hG.2.2.1 c _ (isr_rl hE hr)) h1 h2
    rw [eG_b (isr_lt hE hr)] at this
    exact gv_ai this gp0
theorem gR_ok : ∀ {g : List (Nat × Nat × Nat)} {a b q : Nat}, gR g a b = some q → ∃ z ∈ g, z.1 ≤ a ∧ b ≤ z.2.1 ∧ z.2.2 = q
  | z :: t, a, b, q, h => by
    unfold gR at h
    split at h
    · rename_i hc
      simp only [Bool.and_eq_true, Nat.ble_eq] at hc
      cases h
      exact ⟨z, List.mem_cons_self, hc.1, hc.2, rfl⟩
    · obtain ⟨z', h1, h2⟩ := gR_ok h
      exact ⟨z', List.mem_cons_of_mem _ h1, h2⟩
/-- a reference read -/
theorem rdR_ok (hE : EOK E rl sg) {h : aH} {ls : List (Nat × Value)} {r c a b k q : Nat} (hG : GD E rl sh h) (hr : isr rl sg r c) (hq : gR (eR E r) a b = some q) (h1 : a ≤ k) (h2 : k ≤ b) (hlow : q < 500) : gv rl sg ls h (2, q, 0, 0) (va_rf (aR h c k)) := by
  obtain ⟨z, h3, h4, h5, h6⟩ := gR_ok hq
  have := hG.2.2.2 c _ (isr_rl hE hr) z (by rw [eR_b (isr_lt hE hr)]; exact h3) k (by omega) (by omega)
  obtain ⟨d, e1, e2⟩ := this
  refine ⟨d, by rw [e1]; rfl, ?_⟩
  unfold isr
  rw [if_pos hlow, e2]
  exact congrArg some h6
theorem okR_ok : ∀ {g : List (Nat × Nat × Nat)} {a b q : Nat}, okR g a b q = true → ∀ z ∈ g, ∀ k, a ≤ k → k ≤ b → z.1 ≤ k → k ≤ z.2.1 → z.2.2 = q
  | y :: t, a, b, q, h, z, hz, k, h1, h2, h3, h4 => by
    unfold okR at h
    rw [Bool.and_eq_true] at h
    rcases List.mem_cons.mp hz with rfl | hz
    · have h5 := h.1
      simp only [Bool.or_eq_true, Nat.blt_eq, Nat.beq_eq] at h5
      rcases h5 with (h5 | h5) | h5
      · omega
      · omega
      · exact h5
    · exact okR_ok h.2 z hz k h1 h2 h3 h4
/-- longs and references written -/
theorem ivJ (hE : EOK E rl sg) {S : AS} {ls : List (Nat × Value)} {st st' : List Value} {h : aH} {r c k a b : Nat} {v : Int64} {rest : List AV} (hv : IV E rl sg sh M h0 ρ S ls st h) (hr : isr rl sg r c) (g : gst rl sg ls h rest st') (hm : mIn M 1 r a b = true) (h1 : a ≤ k) (h2 : k ≤ b) : IV E rl sg sh M h0 ρ (S.1, rest, S.2.2) ls st' (sJ h c k v) := by
  obtain ⟨a1, a2, a3, a4, a5, a6⟩ := hv
  refine ⟨a1, a2.trans ⟨fun _ _ _ => rfl, ?_, fun _ _ _ => rfl⟩, a3, gst_id (ls := ls) (ls' := ls) (h := h) (h' := sJ h c k v) (fun _ _ q9 => gv_gp (fun _ z9 => z9) q9) g, a5, a6⟩
  intro d j hn
  show a_up h.2.2.1 c (vp_updL (h.2.2.1 c) k v) d j = _
  by_cases e : d = c
  · subst e
    rw [up_s]
    by_cases e2 : j = k
    · subst e2
      exfalso
      have := hn _ (isr_rl hE hr)
      have hh : mHas M 1 (bse r) j = true := by
        obtain ⟨q, hq, hq2⟩ := List.any_eq_true.mp hm
        refine List.any_eq_true.mpr ⟨q, hq, ?_⟩
        simp only [Bool.and_eq_true, Nat.beq_eq, Nat.ble_eq] at hq2 ⊢
        omega
      rw [this] at hh
      cases hh
    · exact if_neg e2
  · rw [up_n e]; rfl
theorem ivR (hE : EOK E rl sg) {S : AS} {ls : List (Nat × Value)} {st st' : List Value} {h : aH} {r c k q d : Nat} {rest : List AV} (hv : IV E rl sg sh M h0 ρ S ls st h) (hr : isr rl sg r c) (hq : isr rl sg q d) (g : gst rl sg ls h rest st') (hm : mIn M 2 r k k = true) (hok : okR (eR E r) k k (bse q) = true) : IV E rl sg sh M h0 ρ (S.1, rest, S.2.2) ls st' (sR h c k (some d)) := by
  obtain ⟨a1, a2, a3, a4, a5, a6⟩ := hv
  refine ⟨⟨a1.1, a1.2.1, a1.2.2.1, ?_⟩, a2.trans ⟨fun _ _ _ => rfl, fun _ _ _ => rfl, ?_⟩, a3, gst_id (ls := ls) (ls' := ls) (h := h) (h' := sR h c k (some d)) (fun _ _ q9 => gv_gp (fun _ z9 => z9) q9) g, a5, a6⟩
  · intro e r' he z hz j h1 h2
    by_cases e1 : e = c
    · subst e1
      by_cases e2 : j = k
      · subst e2
        refine ⟨d, ?_, ?_⟩
        · show a_up h.2.2.2 e (va_up (h.2.2.2 e) j (some d)) e j = _
          rw [up_s]
          exact if_pos rfl
        · have e3 : r' = bse r := by
            have := isr_rl hE hr
            rw [he] at this
            exact Option.some.inj this
          rw [e3, eR_b (isr_lt hE hr)] at hz
          rw [isr_rl hE hq, okR_ok hok z hz j (Nat.le_refl _) (Nat.le_refl _) h1 h2]
      · obtain ⟨y, e3, e4⟩ := a1.2.2.2 e r' he z hz j h1 h2
        refine ⟨y, ?_, e4⟩
        show a_up h.2.2.2 e (va_up (h.2.2.2 e) k (some d)) e j = _
        rw [up_s]
        exact (if_neg e2).trans e3
    · obtain ⟨y, e3, e4⟩ := a1.2.2.2 e r' he z hz j h1 h2
      refine ⟨y, ?_, e4⟩
      show a_up h.2.2.2 c (va_up (h.2.2.2 c) k (some d)) e j = _
      rw [up_n e1]
      exact e3
  · intro e j hn
    show a_up h.2.2.2 c (va_up (h.2.2.2 c) k (some d)) e j = _
    by_cases e1 : e = c
    · subst e1
      rw [up_s]
      by_cases e2 : j = k
      · subst e2
        exfalso
        have := hn _ (isr_rl hE hr)
        have hh : mHas M 2 (bse r) j = true := by
          obtain ⟨q, hq, hq2⟩ := List.any_eq_true.mp hm
          refine List.any_eq_true.mpr ⟨q, hq, ?_⟩
          simp only [Bool.and_eq_true, Nat.beq_eq, Nat.ble_eq] at hq2 ⊢
          omega
        rw [this] at hh
        cases hh
      · exact if_neg e2
    · rw [up_n e1]; rfl
/-- refinements of arguments -/
theorem rfns_ok (hE : EOK E rl sg) {ls : List (Nat × Value)} {st : List Value} {h : aH} {as : List AV} {xs : List Value} (ga : gst rl sg ls h as xs) : ∀ {l : List (Nat × Int × Int)} {S : AS}, IV E rl sg sh M h0 ρ S ls st h → (∀ q ∈ l, ∃ n : Int, numV xs[q.1]? n ∧ q.2.1 ≤ n ∧ n ≤ q.2.2) → IV E rl sg sh M h0 ρ (rfns E S as l) ls st h
  | [], _, hv, _ => hv
  | q :: t, S, hv, hq => by
    unfold rfns
    refine rfns_ok hE ga ?_ (fun z hz => hq z (List.mem_cons_of_mem _ hz))
    obtain ⟨x, e, b1, b2⟩ := hq q List.mem_cons_self
    split
    · rename_i k p z he
      split
      · rename_i hk1
        have hk1 := Nat.ble_eq.mp hk1
        rcases e with ⟨y, e, rfl⟩ | ⟨y, e, rfl⟩
        · have g := gst_get ga he e
          match k, hk1, g with
          | 0, _, g =>
            obtain ⟨w, e1, -, -, hp⟩ := g
            cases e1
            exact rfn_ok hE hv hp b1 b2
          | 1, _, g =>
            obtain ⟨w, e1, -⟩ := g
            cases e1
        · have g := gst_get ga he e
          match k, hk1, g with
          | 0, _, g =>
            obtain ⟨w, e1, -⟩ := g
            cases e1
          | 1, _, g =>
            obtain ⟨w, e1, -, -, hp⟩ := g
            cases e1
            exact rfn_ok hE hv hp b1 b2
      · exact hv
    · exact hv
theorem rfns_stk : ∀ {l : List (Nat × Int × Int)} {S : AS} {as : List AV}, (rfns E S as l).2.1 = S.2.1
  | [], _, _ => rfl
  | q :: t, S, as => by
    unfold rfns
    rw [rfns_stk]
    split
    · split
      · unfold rfn
        split
        · rfl
        · split
          · split <;> rfl
          · rfl
      · rfl
    · rfl
/-- behind a call -/
theorem aft_ok (hE : EOK E rl sg) {S : AS} {ls : List (Nat × Value)} {st st' : List Value} {h h' : aH} {as rest : List AV} {xs : List Value} {sm : SM} {pc : Nat} {rv : Option Value} (hw : smwf sm = true) (hv : IV E rl sg sh M h0 ρ S ls st h) (ga : gst rl sg ls h as xs) (gr : gst rl sg ls h rest st') (hM : msub sm.2.2.2.2 M = true)
    (hG : GD E rl sh h') (hF : FRM rl sm.2.2.2.2 h h') (ho : ∃ o ∈ sm.2.2.2.1, gst rl (fun _ => none) [] h' o.1 rv.toList ∧ gov rl (fun _ => none) o.2.1 h' ∧ ∀ q ∈ o.2.2, ∃ n : Int, numV xs[q.1]? n ∧ q.2.1 ≤ n ∧ n ≤ q.2.2) :
    ∃ S', (pc, S') ∈ aft E S as rest sm pc ∧ IV E rl sg sh M h0 ρ S' ls (psh rv st') h' := by
  obtain ⟨o, hm, go, gv9, hq⟩ := ho
  refine ⟨_, List.mem_map.mpr ⟨o, hm, rfl⟩, ?_⟩
  have hv1 := rfns_ok (S := (S.1, rest, S.2.2.1, S.2.2.2)) hE ga (hv.stk gr) hq
  have estk : (rfns E (S.1, rest, S.2.2.1, S.2.2.2) as o.2.2).2.1 = rest := rfns_stk
  unfold smwf at hw
  simp only [Bool.and_eq_true] at hw
  have hwo := List.all_eq_true.mp hw.2 o hm
  rw [Bool.and_eq_true] at hwo
  obtain ⟨a1, a2, a3, a4, a5, a6⟩ := hv1
  refine ⟨hG, a2.trans (hF.mono hM), fun q hq => ?_, ?_, ?_, a6⟩
  · obtain ⟨x, e1, e2⟩ := a3 q hq
    exact ⟨x, e1, gv_any e2⟩
  · unfold psh
    refine gst_append ?_ (gst_kH gr)
    -- the answer, seen from here
    have : ∀ (vs : List AV) (ys : List Value), vs.all plainV = true → gst rl (fun _ => none) [] h' vs ys → gst rl sg ls h' vs ys := by
      intro vs
      induction vs with
      | nil => intro ys _ g; cases ys with
        | nil => trivial
        | cons y ys => exact False.elim g
      | cons v vs ih =>
        intro ys hp g
        rw [List.all_cons, Bool.and_eq_true] at hp
        obtain ⟨y, ys', rfl, g1, g2⟩ := gst_c g
        refine ⟨?_, ih _ hp.2 g2⟩
        obtain ⟨k, p, z⟩ := v
        have hp1 := hp.1
        unfold plainV at hp1
        rw [Bool.and_eq_true, Nat.beq_eq] at hp1
        match k, hp1, g1 with
        | 0, hp1, g1 => obtain ⟨w, e, b1, b2, -⟩ := g1; have e0 : p = 0 := hp1.1.symm; subst e0; exact ⟨w, e, b1, b2, trivial⟩
        | 1, hp1, g1 => obtain ⟨w, e, b1, b2, -⟩ := g1; have e0 : p = 0 := hp1.1.symm; subst e0; exact ⟨w, e, b1, b2, trivial⟩
        | 2, hp1, g1 =>
          obtain ⟨w, e, b1⟩ := g1
          have hp5 : p < 500 := by simpa [Nat.blt_eq] using hp1.2
          refine ⟨w, e, ?_⟩
          show isr rl sg p w
          have b2 : isr rl (fun _ => none) p w := b1
          unfold isr at b2 ⊢
          rw [if_pos hp5] at b2 ⊢
          exact b2
        | 3, _, g1 => obtain ⟨b, e, c, d⟩ := g1; exact ⟨b, e, c, d⟩
        | k + 4, _, g1 => exact False.elim g1
    exact this _ _ hwo.2 go
  · intro q hq a ha
    rcases List.mem_append.mp hq with hq | hq
    · have hq5 : q.1 < 500 := by simpa [Nat.blt_eq] using List.all_eq_true.mp hwo.1 q hq
      refine gv9 q hq a ?_
      unfold isr at ha ⊢
      rw [if_pos hq5] at ha ⊢
      exact ha
    · unfold ovKs at hq
      obtain ⟨hm2, hf⟩ := List.mem_filter.mp hq
      have old := a5 q hm2 a ha
      have e := hF.1 a q.2.1 (fun r hr => by
        have : r = bse q.1 := by
          have := isr_rl hE ha
          rw [hr] at this
          exact Option.some.inj this
        rw [this]
        simpa using hf)
      rw [e]
      exact old
end AIY
