/-! ORDERS UNDER WAY, TOLD -/
noncomputable abbrev OR3 := Int × Int × Int
noncomputable def aheadP (p q : OR3) : Bool := decide (p.1 < q.1 ∨ (p.1 = q.1 ∧ p.2.2 < q.2.2))
noncomputable def rkA (L : List OR3) (q : OR3) : Nat := (L.filter fun p => aheadP p q).length
theorem rkA_s (L : List OR3) (z q : OR3) : rkA (L ++ [z]) q = rkA L q + if aheadP z q = true then 1 else 0 := by
  unfold rkA
  rw [List.filter_append, List.length_append]
  cases c : aheadP z q with
  | true => rw [if_pos rfl, List.filter_cons_of_pos (p := fun p => aheadP p q) c]; rfl
  | false => rw [if_neg Bool.noConfusion, List.filter_cons_of_neg (p := fun p => aheadP p q) (by rw [c]; exact Bool.noConfusion)]; rfl
theorem insO_get {x y : Int × Int} : ∀ {S : List (Int × Int)} {i : Nat}, SRT S → S[i]? = some y → (y.1 ≤ x.1 → (insO x S)[i]? = some y) ∧ (x.1 < y.1 → (insO x S)[i + 1]? = some y)
  | [], i, _, h => by rw [List.getElem?_nil] at h; cases h
  | z :: t, 0, hs, h => by
    have e : z = y := Option.some.inj h
    subst e
    rw [insO_c]
    exact ⟨fun c => by rw [if_pos c]; rfl, fun c => by rw [if_neg (by omega)]; rfl⟩
  | z :: t, i + 1, hs, h => by
    obtain ⟨h1, h2⟩ := List.pairwise_cons.mp hs
    have h : t[i]? = some y := h
    have hz := h1 y (List.mem_of_getElem? h)
    obtain ⟨i1, i2⟩ := insO_get (x := x) h2 h
    rw [insO_c]
    by_cases c : z.1 ≤ x.1
    · rw [if_pos c]
      exact ⟨fun d => i1 d, fun d => i2 d⟩
    · rw [if_neg c]
      exact ⟨fun d => by omega, fun _ => h⟩
theorem flt_none {n : Int} {z : Int × Int} {t : List (Int × Int)} (hs : SRT (z :: t)) (hz : ¬ z.1 ≤ n) : (z :: t).filter (fun q => decide (q.1 ≤ n)) = [] := by
  obtain ⟨h1, -⟩ := List.pairwise_cons.mp hs
  refine List.filter_eq_nil_iff.mpr fun a ha => ?_
  simp only [decide_eq_true_eq]
  rcases List.mem_cons.mp ha with rfl | ha
  · exact hz
  · have := h1 a ha; omega
theorem insO_new {x : Int × Int} : ∀ {S : List (Int × Int)}, SRT S → (insO x S)[(S.filter fun q => decide (q.1 ≤ x.1)).length]? = some x
  | [], _ => rfl
  | z :: t, hs => by
    rw [insO_c]
    by_cases c : z.1 ≤ x.1
    · rw [if_pos c, List.filter_cons_of_pos (p := fun q : Int × Int => decide (q.1 ≤ x.1)) (decide_eq_true c), List.length_cons]
      exact insO_new (List.pairwise_cons.mp hs).2
    · rw [if_neg c, flt_none hs c]
      rfl
theorem srt_cnt {n : Int} {y : Int × Int} : ∀ {S : List (Int × Int)} {i : Nat}, SRT S → S[i]? = some y → (y.1 ≤ n ↔ i < (S.filter fun q => decide (q.1 ≤ n)).length)
  | [], i, _, h => by rw [List.getElem?_nil] at h; cases h
  | z :: t, 0, hs, h => by
    have e : z = y := Option.some.inj h
    subst e
    by_cases c : z.1 ≤ n
    · rw [List.filter_cons_of_pos (p := fun q : Int × Int => decide (q.1 ≤ n)) (decide_eq_true c), List.length_cons]
      exact ⟨fun _ => Nat.succ_pos _, fun _ => c⟩
    · rw [flt_none hs c]
      exact ⟨fun d => absurd d c, fun d => absurd d (Nat.not_lt_zero _)⟩
  | z :: t, i + 1, hs, h => by
    have h : t[i]? = some y := h
    obtain ⟨h1, h2⟩ := List.pairwise_cons.mp hs
    have hz := h1 y (List.mem_of_getElem? h)
    by_cases c : z.1 ≤ n
    · rw [List.filter_cons_of_pos (p := fun q : Int × Int => decide (q.1 ≤ n)) (decide_eq_true c), List.length_cons, srt_cnt (n := n) h2 h]
      omega
    · rw [flt_none hs c]
      exact ⟨fun d => by omega, fun d => absurd d (Nat.not_lt_zero _)⟩
theorem snocC : ∀ l : List OR3, l = [] ∨ ∃ L b, l = L ++ [b]
  | [] => Or.inl rfl
  | a :: t => by
    rcases snocC t with e | ⟨L, b, e⟩
    · exact Or.inr ⟨[], a, by rw [e]; rfl⟩
    · exact Or.inr ⟨a :: L, b, by rw [e]; rfl⟩
theorem rk_get : ∀ (n : Nat) {L : List OR3}, L.length = n → (L.Pairwise fun a b => a.2.2 < b.2.2) → (∀ q ∈ L, (srt L)[rkA L q]? = some (q.1, q.2.1)) ∧ ∀ i, i < n → ∃ (k : Nat) (q : OR3), L[k]? = some q ∧ rkA L q = i
  | 0, L, hl, _ => by
    have e := List.length_eq_zero_iff.mp hl
    subst e
    exact ⟨fun q hq => absurd hq List.not_mem_nil, fun i hi => absurd hi (Nat.not_lt_zero _)⟩
  | n + 1, L, hl, hp => by
    rcases snocC L with e | ⟨L', z, e⟩
    · rw [e] at hl; cases hl
    · subst e
      rw [List.length_append, List.length_singleton] at hl
      obtain ⟨p1, -, p3⟩ := List.pairwise_append.mp hp
      have p3 : ∀ p ∈ L', p.2.2 < z.2.2 := fun p hp => p3 p hp z (List.mem_singleton.mpr rfl)
      obtain ⟨g1, g2⟩ := rk_get n (L := L') (by omega) p1
      have ss := srt_SRT L'
      have ez : rkA L' z = ((srt L').filter fun q => decide (q.1 ≤ z.1)).length := by
        rw [← srt_f (fun t => decide (t ≤ z.1)), srt_len]
        unfold rkA
        rw [List.filter_congr fun p hp => show aheadP p z = decide (p.1 ≤ z.1) from by
          unfold aheadP
          exact decide_eq_decide.mpr (by have := p3 p hp; omega)]
      have ezz : aheadP z z = false := by
        unfold aheadP
        exact decide_eq_false (by omega)
      have eq : ∀ q ∈ L', (aheadP z q = true ↔ z.1 < q.1) := fun q hq => by
        unfold aheadP
        rw [decide_eq_true_eq]
        have := p3 q hq
        omega
      refine ⟨fun q hq => ?_, fun i hi => ?_⟩
      · rw [srt_snoc, rkA_s]
        rcases List.mem_append.mp hq with hq | hq
        · have y := g1 q hq
          obtain ⟨k1, k2⟩ := insO_get (x := (z.1, z.2.1)) ss y
          by_cases c : z.1 < q.1
          · rw [if_pos ((eq q hq).mpr c)]
            exact k2 c
          · rw [if_neg (fun d => c ((eq q hq).mp d)), Nat.add_zero]
            exact k1 (by show q.1 ≤ z.1; omega)
        · rw [List.mem_singleton.mp hq, ezz, if_neg Bool.noConfusion, Nat.add_zero, ez]
          exact insO_new ss
      · have ln : ((srt L').filter fun q => decide (q.1 ≤ z.1)).length ≤ n := by
          have := List.length_filter_le (fun q : Int × Int => decide (q.1 ≤ z.1)) (srt L')
          rw [srt_len] at this
          omega
        have low : ∀ i, i < n → ∃ (k : Nat) (q : OR3), L'[k]? = some q ∧ rkA L' q = i ∧ (srt L')[i]? = some (q.1, q.2.1) ∧ k < n := fun i hi => by
          obtain ⟨k, q, a, b⟩ := g2 i hi
          have kl := (List.getElem?_eq_some_iff.mp a).1
          exact ⟨k, q, a, b, by rw [← b]; exact g1 q (List.mem_of_getElem? a), by omega⟩
        by_cases c : i = rkA L' z
        · refine ⟨n, z, ?_, ?_⟩
          · rw [List.getElem?_append_right (by omega), show n - L'.length = 0 by omega]
            rfl
          · rw [rkA_s, ezz, if_neg Bool.noConfusion, Nat.add_zero, c]
        · by_cases d : i < rkA L' z
          · obtain ⟨k, q, a, b, s, kl⟩ := low i (by omega)
            refine ⟨k, q, by rw [List.getElem?_append_left (by omega)]; exact a, ?_⟩
            have w := (srt_cnt (n := z.1) ss s).mpr (by omega)
            have w : q.1 ≤ z.1 := w
            rw [rkA_s, if_neg (fun v => by have := (eq q (List.mem_of_getElem? a)).mp v; omega), Nat.add_zero, b]
          · obtain ⟨k, q, a, b, s, kl⟩ := low (i - 1) (by omega)
            refine ⟨k, q, by rw [List.getElem?_append_left (by omega)]; exact a, ?_⟩
            have w : ¬ q.1 ≤ z.1 := fun v => by
              have := (srt_cnt (n := z.1) ss s).mp v
              omega
            rw [rkA_s, if_pos ((eq q (List.mem_of_getElem? a)).mpr (by omega)), b]
            omega
theorem wlK_at {f : Nat → Int} {n k : Nat} (h : k < n) : (wlK f n)[k]? = some (tri f k) := by
  unfold wlK
  rw [List.getElem?_map, List.getElem?_range h]
  rfl
set_option maxRecDepth 4000 in
theorem ctX11_isAheadF {SP : CT} (hSP : MONO SP) {sh : List (Nat × Nat)} {h : aH} (hG : GD gE gRL sh h) {i j : Int} (hi : 0 ≤ i ∧ i < 12) (hj : 0 ≤ j ∧ j < 12) : CLd SP 1 mX11_isAhead [.ref 171, .int (I i), .int (I j)] h 0 0 (fun rv h' => h' = h ∧ ((rv = some (.int (I 1)) ∧ aheadP (tri (gi h 178) i.toNat) (tri (gi h 178) j.toNat) = true) ∨ (rv = some (.int (I 0)) ∧ aheadP (tri (gi h 178) i.toNat) (tri (gi h 178) j.toNat) = false))) := by
  refine x_met _ rfl (Nat.le_of_ble_eq_true rfl) (fun K hK => ?_)
  have hmono := MONO_CLd hSP 0
  have di := gi_r h 178 (5 + 3 * i.toNat)
  have dj := gi_r h 178 (5 + 3 * j.toNat)
  have xi := gi_r h 178 (7 + 3 * i.toNat)
  have xj := gi_r h 178 (7 + 3 * j.toNat)
  refine x_iconst 1 hK rfl rfl ?_
  refine x_iconst 2 hK rfl rfl ?_
  refine x_iload_n 3 hK rfl rfl rfl ?_
  refine x_imul 4 hK rfl rfl ?_
  refine x_iadd 5 hK rfl rfl ?_
  refine x_istore_n 6 hK rfl rfl [(3, .int (I (5 + (3 * i)))), (0, .ref 171), (1, .int (I i)), (2, .int (I j))] rfl ?_
  refine x_iconst 7 hK rfl rfl ?_
  refine x_iconst 8 hK rfl rfl ?_
  refine x_iload_n 9 hK rfl rfl rfl ?_
  refine x_imul 10 hK rfl rfl ?_
  refine x_iadd 11 hK rfl rfl ?_
  refine x_istore 13 hK rfl rfl [(4, .int (I (5 + (3 * j)))), (3, .int (I (5 + (3 * i)))), (0, .ref 171), (1, .int (I i)), (2, .int (I j))] rfl ?_
  refine x_aload_n 14 hK rfl rfl rfl ?_
  refine x_getR 17 hK rfl rfl (sp_171 (h := h) hG) (rf_171_14 (h := h) hG) ?_
  refine x_iload_n 18 hK rfl rfl rfl ?_
  refine x_iconst 19 hK rfl rfl ?_
  refine x_iadd 20 hK rfl rfl ?_
  refine x_ialoadE 21 hK rfl rfl (sp_178 (h := h) hG) (by omega) (by omega) (by omega) (e' := (gi h 178 (5 + 3 * i.toNat))) ((gi_to (by omega))) ?_
  refine x_aload_n 22 hK rfl rfl rfl ?_
  refine x_getR 25 hK rfl rfl (sp_171 (h := h) hG) (rf_171_14 (h := h) hG) ?_
  refine x_iload 27 hK rfl rfl rfl ?_
  refine x_iconst 28 hK rfl rfl ?_
  refine x_iadd 29 hK rfl rfl ?_
  refine x_ialoadE 30 hK rfl rfl (sp_178 (h := h) hG) (by omega) (by omega) (by omega) (e' := (gi h 178 (5 + 3 * j.toNat))) ((gi_to (by omega))) ?_
  refine x_if_icmp_lt 73 33 hK rfl rfl rfl (by omega) (by omega) (fun c25 => ?_) (fun c25 => ?_)
  · refine x_iconst 74 hK rfl rfl ?_
    refine x_goto 78 hK rfl rfl ?_
    have ea : aheadP (tri (gi h 178) i.toNat) (tri (gi h 178) j.toNat) = true := by
      show decide (gi h 178 (5 + 3 * i.toNat) < gi h 178 (5 + 3 * j.toNat) ∨ (gi h 178 (5 + 3 * i.toNat) = gi h 178 (5 + 3 * j.toNat) ∧ gi h 178 (7 + 3 * i.toNat) < gi h 178 (7 + 3 * j.toNat))) = _
      exact decide_eq_true (by omega)
    exact x_zret hK rfl (by omega) ⟨rfl, Or.inl ⟨rfl, ea⟩⟩
  · refine x_aload_n 34 hK rfl rfl rfl ?_
    refine x_getR 37 hK rfl rfl (sp_171 (h := h) hG) (rf_171_14 (h := h) hG) ?_
    refine x_iload_n 38 hK rfl rfl rfl ?_
    refine x_iconst 39 hK rfl rfl ?_
    refine x_iadd 40 hK rfl rfl ?_
    refine x_ialoadE 41 hK rfl rfl (sp_178 (h := h) hG) (by omega) (by omega) (by omega) (e' := (gi h 178 (5 + 3 * i.toNat))) ((gi_to (by omega))) ?_
    refine x_aload_n 42 hK rfl rfl rfl ?_
    refine x_getR 45 hK rfl rfl (sp_171 (h := h) hG) (rf_171_14 (h := h) hG) ?_
    refine x_iload 47 hK rfl rfl rfl ?_
    refine x_iconst 48 hK rfl rfl ?_
    refine x_iadd 49 hK rfl rfl ?_
    refine x_ialoadE 50 hK rfl rfl (sp_178 (h := h) hG) (by omega) (by omega) (by omega) (e' := (gi h 178 (5 + 3 * j.toNat))) ((gi_to (by omega))) ?_
    refine x_if_icmp_ne 77 53 hK rfl rfl rfl (by omega) (by omega) (fun c41 => ?_) (fun c41 => ?_)
    · refine x_iconst 78 hK rfl rfl ?_
      have ea : aheadP (tri (gi h 178) i.toNat) (tri (gi h 178) j.toNat) = false := by
        show decide (gi h 178 (5 + 3 * i.toNat) < gi h 178 (5 + 3 * j.toNat) ∨ (gi h 178 (5 + 3 * i.toNat) = gi h 178 (5 + 3 * j.toNat) ∧ gi h 178 (7 + 3 * i.toNat) < gi h 178 (7 + 3 * j.toNat))) = _
        exact decide_eq_false (by omega)
      exact x_zret hK rfl (by omega) ⟨rfl, Or.inr ⟨rfl, ea⟩⟩
    · refine x_aload_n 54 hK rfl rfl rfl ?_
      refine x_getR 57 hK rfl rfl (sp_171 (h := h) hG) (rf_171_14 (h := h) hG) ?_
      refine x_iload_n 58 hK rfl rfl rfl ?_
      refine x_iconst 59 hK rfl rfl ?_
      refine x_iadd 60 hK rfl rfl ?_
      refine x_ialoadE 61 hK rfl rfl (sp_178 (h := h) hG) (by omega) (by omega) (by omega) (e' := (gi h 178 (7 + 3 * i.toNat))) ((gi_to (by omega))) ?_
      refine x_aload_n 62 hK rfl rfl rfl ?_
      refine x_getR 65 hK rfl rfl (sp_171 (h := h) hG) (rf_171_14 (h := h) hG) ?_
      refine x_iload 67 hK rfl rfl rfl ?_
      refine x_iconst 68 hK rfl rfl ?_
      refine x_iadd 69 hK rfl rfl ?_
      refine x_ialoadE 70 hK rfl rfl (sp_178 (h := h) hG) (by omega) (by omega) (by omega) (e' := (gi h 178 (7 + 3 * j.toNat))) ((gi_to (by omega))) ?_
      refine x_if_icmp_ge 77 73 hK rfl rfl rfl (by omega) (by omega) (fun c56 => ?_) (fun c56 => ?_)
      · refine x_iconst 78 hK rfl rfl ?_
        have ea : aheadP (tri (gi h 178) i.toNat) (tri (gi h 178) j.toNat) = false := by
          show decide (gi h 178 (5 + 3 * i.toNat) < gi h 178 (5 + 3 * j.toNat) ∨ (gi h 178 (5 + 3 * i.toNat) = gi h 178 (5 + 3 * j.toNat) ∧ gi h 178 (7 + 3 * i.toNat) < gi h 178 (7 + 3 * j.toNat))) = _
          exact decide_eq_false (by omega)
        exact x_zret hK rfl (by omega) ⟨rfl, Or.inr ⟨rfl, ea⟩⟩
      · refine x_iconst 74 hK rfl rfl ?_
        refine x_goto 78 hK rfl rfl ?_
        have ea : aheadP (tri (gi h 178) i.toNat) (tri (gi h 178) j.toNat) = true := by
          show decide (gi h 178 (5 + 3 * i.toNat) < gi h 178 (5 + 3 * j.toNat) ∨ (gi h 178 (5 + 3 * i.toNat) = gi h 178 (5 + 3 * j.toNat) ∧ gi h 178 (7 + 3 * i.toNat) < gi h 178 (7 + 3 * j.toNat))) = _
          exact decide_eq_true (by omega)
        exact x_zret hK rfl (by omega) ⟨rfl, Or.inl ⟨rfl, ea⟩⟩
set_option maxRecDepth 4000 in
theorem ctX11_way {SP : CT} (hSP : MONO SP) {sh : List (Nat × Nat)} {h : aH} (hG : GD gE gRL sh h) {x y : Int} (rx : r32 x) (ry : r32 y) (hp : (wlK (gi h 178) (gi h 178 3).toNat).Pairwise fun a b => a.2.2 < b.2.2) : CLd SP 4 mX11_way [.ref 171, .int (I x), .int (I y)] h 0 0 (fun rv h' => ((((0 ≤ x ∧ x < (gi h 178 3)) ∧ 0 ≤ y ∧ y ≤ 1) ∧ ∃ k : Nat, (k : Int) < (gi h 178 3) ∧ (rkA (wlK (gi h 178) (gi h 178 3).toNat) (tri (gi h 178) k) : Int) = x ∧ rv = some (.int (I (if y = 0 then (tri (gi h 178) k).1 - gi h 178 0 else (tri (gi h 178) k).2.1))) ∧ gi h' 171 0 = 0) ∨ (¬ ((0 ≤ x ∧ x < (gi h 178 3)) ∧ 0 ≤ y ∧ y ≤ 1) ∧ rv = some (.int (I 0)) ∧ gi h' 171 0 = 1)) ∧ GD gE gRL sh h' ∧ FRM gRL [(0, 54, 0, 0)] h h') := by
  refine x_met _ rfl (Nat.le_of_ble_eq_true rfl) (fun K hK => ?_)
  have hmono := MONO_CLd hSP 3
  have g3 := gri 0 12 hG (a := 178) (r := 61) (k := 3) rfl rfl
  have ex := (rk_get _ (wlK_l (gi h 178) (gi h 178 3).toNat) hp).2
  have loop : ∀ (mz : Nat) (t k : Int) (h4 : aH) (ls : List (Nat × Value)), (((gi h 178 3) - k).toNat = mz) → ((0 ≤ x ∧ x < (gi h 178 3)) ∧ 0 ≤ y ∧ y ≤ 1) → (0 ≤ k ∧ k ≤ (gi h 178 3)) → (0 ≤ t ∧ t < 12) → ((∀ q : Nat, (q : Int) < k → (rkA (wlK (gi h 178) (gi h 178 3).toNat) (tri (gi h 178) q) : Int) ≠ x) ∨ (t < (gi h 178 3) ∧ (rkA (wlK (gi h 178) (gi h 178 3).toNat) (tri (gi h 178) t.toNat) : Int) = x)) → (gi h4 171 0 = 0) → lk ls 0 = some (.ref 171) → lk ls 1 = some (.int (I x)) → lk ls 2 = some (.int (I y)) → lk ls 3 = some (.int (I t)) → lk ls 4 = some (.int (I k)) → GD gE gRL sh h4 → FRM gRL [(0, 54, 0, 0)] h h4 → K 43 ls [] h4 0 0 := by
    intro mz
    induction mz using Nat.strongRecOn with
    | ind mz ih =>
    intro t k h4 ls hm ok_ k0 t0 tk z4 l0 l1 l2 l3 l4 hG4 hF4
    have iho := ih
    have n3 : gi h4 178 3 = (gi h 178 3) := FRM_gi hF4 (r := 61) rfl rfl
    have n0 : gi h4 178 0 = gi h 178 0 := FRM_gi hF4 (r := 61) rfl rfl
    have tr4 : ∀ q, tri (gi h4 178) q = tri (gi h 178) q := fun q => by unfold tri; rw [show gi h4 178 = gi h 178 from funext fun j => FRM_gi hF4 (r := 61) rfl rfl]
    have inner : ∀ (mz : Nat) (c j : Int) (ls : List (Nat × Value)), (((gi h 178 3) - j).toNat = mz) → (k < (gi h 178 3)) → (0 ≤ j ∧ j ≤ (gi h 178 3)) → (c = (rkA (wlK (gi h 178) j.toNat) (tri (gi h 178) k.toNat) : Int)) → lk ls 0 = some (.ref 171) → lk ls 1 = some (.int (I x)) → lk ls 2 = some (.int (I y)) → lk ls 3 = some (.int (I t)) → lk ls 4 = some (.int (I k)) → lk ls 5 = some (.int (I c)) → lk ls 6 = some (.int (I j)) → K 60 ls [] h4 0 0 := by
      intro mz
      induction mz using Nat.strongRecOn with
      | ind mz ih =>
      intro c j ls hm kl j0 c0 l0 l1 l2 l3 l4 l5 l6
      have cb : c ≤ j := by have z := List.length_filter_le (fun p => aheadP p (tri (gi h 178) k.toNat)) (wlK (gi h 178) j.toNat); rw [wlK_l] at z; rw [c0]; unfold rkA; omega
      have cb0 : 0 ≤ c := by rw [c0]; omega
      refine x_iload 62 hK rfl rfl l6 ?_
      refine x_aload_n 63 hK rfl rfl l0 ?_
      refine x_getR 66 hK rfl rfl (sp_171 (h := h4) hG4) (rf_171_14 (h := h4) hG4) ?_
      refine x_iconst 67 hK rfl rfl ?_
      have g579 := gri (0) (12) hG (a := 178) (r := 61) (k := 3) rfl rfl
      refine x_ialoadE 68 hK rfl rfl (sp_178 (h := h4) hG4) (by omega) (by omega) (by omega) (e' := (gi h 178 3)) (n3) ?_
      refine x_if_icmp_ge 93 71 hK rfl rfl rfl (by omega) (by omega) (fun c6 => ?_) (fun c6 => ?_)
      · refine x_iload 95 hK rfl rfl l5 ?_
        refine x_iload_n 96 hK rfl rfl l1 ?_
        refine x_if_icmp_ne 104 99 hK rfl rfl rfl (by omega) (by omega) (fun c9 => ?_) (fun c9 => ?_)
        · refine x_iload_n 105 hK rfl rfl l3 ?_
          refine x_istore_n 106 hK rfl rfl _ rfl ?_
          refine x_iinc 109 hK rfl rfl (lk1_n l4 (by decide) (Or.inl rfl)) _ rfl ?_
          refine x_goto 43 hK rfl rfl ?_
          have ck : c = (rkA (wlK (gi h 178) (gi h 178 3).toNat) (tri (gi h 178) k.toNat) : Int) := by rw [c0, show j.toNat = (gi h 178 3).toNat by omega]
          exact iho _ (by omega) t (k + 1) _ _ rfl (ok_) (by omega) (by omega) (Or.elim tk (fun q1 => Or.inl fun q hq => by
            by_cases z : (q : Int) = k
            · rw [show q = k.toNat by omega, ← ck]; omega
            · exact q1 q (by omega)) Or.inr) (z4) (lk1_n (lk1_n l0 (by decide) (Or.inl rfl)) (by decide) (Or.inl rfl)) (lk1_n (lk1_n l1 (by decide) (Or.inl rfl)) (by decide) (Or.inl rfl)) (lk1_n (lk1_n l2 (by decide) (Or.inl rfl)) (by decide) (Or.inl rfl)) (lk1_n lk1_s (by decide) (Or.inl rfl)) lk1_s (hG4) (hF4)
        · refine x_iload 101 hK rfl rfl l4 ?_
          refine x_goto 105 hK rfl rfl ?_
          refine x_istore_n 106 hK rfl rfl _ rfl ?_
          refine x_iinc 109 hK rfl rfl (lk1_n l4 (by decide) (Or.inl rfl)) _ rfl ?_
          refine x_goto 43 hK rfl rfl ?_
          have ck : c = (rkA (wlK (gi h 178) (gi h 178 3).toNat) (tri (gi h 178) k.toNat) : Int) := by rw [c0, show j.toNat = (gi h 178 3).toNat by omega]
          exact iho _ (by omega) k (k + 1) _ _ rfl (ok_) (by omega) (by omega) (Or.inr ⟨by omega, by rw [← ck]; omega⟩) (z4) (lk1_n (lk1_n l0 (by decide) (Or.inl rfl)) (by decide) (Or.inl rfl)) (lk1_n (lk1_n l1 (by decide) (Or.inl rfl)) (by decide) (Or.inl rfl)) (lk1_n (lk1_n l2 (by decide) (Or.inl rfl)) (by decide) (Or.inl rfl)) (lk1_n lk1_s (by decide) (Or.inl rfl)) lk1_s (hG4) (hF4)
      · refine x_iload 73 hK rfl rfl l5 ?_
        refine x_aload_n 74 hK rfl rfl l0 ?_
        refine x_iload 76 hK rfl rfl l6 ?_
        refine x_iload 78 hK rfl rfl l4 ?_
        refine x_callV 81 hK hmono rfl rfl [.ref 171, .int (I j), .int (I k)] [.int (I c)] rfl rfl (Nat.le_of_ble_eq_true rfl) (Nat.le_of_ble_eq_true rfl) rfl (sp_171 (h := h4) hG4) (CLd_le (Nat.le_of_ble_eq_true rfl) (ctX11_isAheadF hSP hG4 (i := j) (j := k) (by omega) (by omega))) ?_
        rw [tr4, tr4]
        rintro v9 h9 ⟨e9, ⟨rfl, ah⟩ | ⟨rfl, ah⟩⟩ <;> rw [e9] <;> clear e9
        · refine x_callS 84 hK hmono rfl (Or.inl rfl) rfl [.int (I 1)] [.int (I c)] rfl rfl (Nat.le_of_ble_eq_true rfl) (Nat.le_of_ble_eq_true rfl) (CLd_le (Nat.le_of_ble_eq_true rfl) (ctX11_flag (by omega))) ?_
          rintro v9 h9 ⟨e9, rfl⟩
          rw [e9]
          clear e9
          refine x_iadd 85 hK rfl rfl ?_
          refine x_istore 87 hK rfl rfl _ rfl ?_
          refine x_iinc 90 hK rfl rfl (lk1_n l6 (by decide) (Or.inl rfl)) _ rfl ?_
          refine x_goto 60 hK rfl rfl ?_
          exact ih _ (by omega) (c + 1) (j + 1) _ rfl (kl) (by omega) (by rw [tn_s j0.1, wlK_s, rkA_s, if_pos ah, c0]; omega) (lk1_n (lk1_n l0 (by decide) (Or.inl rfl)) (by decide) (Or.inl rfl)) (lk1_n (lk1_n l1 (by decide) (Or.inl rfl)) (by decide) (Or.inl rfl)) (lk1_n (lk1_n l2 (by decide) (Or.inl rfl)) (by decide) (Or.inl rfl)) (lk1_n (lk1_n l3 (by decide) (Or.inl rfl)) (by decide) (Or.inl rfl)) (lk1_n (lk1_n l4 (by decide) (Or.inl rfl)) (by decide) (Or.inl rfl)) (lk1_n lk1_s (by decide) (Or.inl rfl)) lk1_s
        · refine x_callS 84 hK hmono rfl (Or.inl rfl) rfl [.int (I 0)] [.int (I c)] rfl rfl (Nat.le_of_ble_eq_true rfl) (Nat.le_of_ble_eq_true rfl) (CLd_le (Nat.le_of_ble_eq_true rfl) (ctX11_flag (by omega))) ?_
          rintro v9 h9 ⟨e9, rfl⟩
          rw [e9]
          clear e9
          refine x_iadd 85 hK rfl rfl ?_
          refine x_istore 87 hK rfl rfl _ rfl ?_
          refine x_iinc 90 hK rfl rfl (lk1_n l6 (by decide) (Or.inl rfl)) _ rfl ?_
          refine x_goto 60 hK rfl rfl ?_
          exact ih _ (by omega) (c + 0) (j + 1) _ rfl (kl) (by omega) (by rw [tn_s j0.1, wlK_s, rkA_s, if_neg (by rw [ah]; exact Bool.noConfusion), c0]; omega) (lk1_n (lk1_n l0 (by decide) (Or.inl rfl)) (by decide) (Or.inl rfl)) (lk1_n (lk1_n l1 (by decide) (Or.inl rfl)) (by decide) (Or.inl rfl)) (lk1_n (lk1_n l2 (by decide) (Or.inl rfl)) (by decide) (Or.inl rfl)) (lk1_n (lk1_n l3 (by decide) (Or.inl rfl)) (by decide) (Or.inl rfl)) (lk1_n (lk1_n l4 (by decide) (Or.inl rfl)) (by decide) (Or.inl rfl)) (lk1_n lk1_s (by decide) (Or.inl rfl)) lk1_s
    refine x_iload 45 hK rfl rfl l4 ?_
    refine x_aload_n 46 hK rfl rfl l0 ?_
    refine x_getR 49 hK rfl rfl (sp_171 (h := h4) hG4) (rf_171_14 (h := h4) hG4) ?_
    refine x_iconst 50 hK rfl rfl ?_
    have g582 := gri (0) (12) hG (a := 178) (r := 61) (k := 3) rfl rfl
    refine x_ialoadE 51 hK rfl rfl (sp_178 (h := h4) hG4) (by omega) (by omega) (by omega) (e' := (gi h 178 3)) (n3) ?_
    refine x_if_icmp_ge 112 54 hK rfl rfl rfl (by omega) (by omega) (fun c6 => ?_) (fun c6 => ?_)
    · have tx : t < (gi h 178 3) ∧ (rkA (wlK (gi h 178) (gi h 178 3).toNat) (tri (gi h 178) t.toNat) : Int) = x := by
        rcases tk with q1 | q1
        · obtain ⟨q, z, a, b⟩ := ex x.toNat (by omega)
          have ql := (List.getElem?_eq_some_iff.mp a).1
          rw [wlK_l] at ql
          rw [wlK_at ql] at a
          cases a
          exact absurd (by omega) (q1 q (by omega))
        · exact q1
      have rt1 : r32 (tri (gi h 178) t.toNat).1 := gi_r _ _ _
      have rt2 : r32 (tri (gi h 178) t.toNat).2.1 := gi_r _ _ _
      refine x_iload_n 113 hK rfl rfl l2 ?_
      refine x_if_ne 138 116 hK rfl rfl rfl (by omega) (fun c9 => ?_) (fun c9 => ?_)
      · refine x_aload_n 139 hK rfl rfl l0 ?_
        refine x_getR 142 hK rfl rfl (sp_171 (h := h4) hG4) (rf_171_14 (h := h4) hG4) ?_
        refine x_iconst 143 hK rfl rfl ?_
        refine x_iconst 144 hK rfl rfl ?_
        refine x_iload_n 145 hK rfl rfl l3 ?_
        refine x_imul 146 hK rfl rfl ?_
        refine x_iadd 147 hK rfl rfl ?_
        refine x_iconst 148 hK rfl rfl ?_
        refine x_iadd 149 hK rfl rfl ?_
        refine x_ialoadE 150 hK rfl rfl (sp_178 (h := h4) hG4) (by omega) (by omega) (by omega) (e' := ((tri (gi h 178) t.toNat).2.1)) (((FRM_gi hF4 (r := 61) rfl rfl).trans (gi_to (show ((5 + (3 * t)) + 1).toNat = 6 + 3 * t.toNat by omega)))) ?_
        exact x_iret hK rfl ⟨Or.inl ⟨ok_, t.toNat, by omega, tx.2, by first | (rw [if_pos (by omega)]; done) | (rw [if_neg (by omega)]; done), z4⟩, hG4, hF4⟩
      · refine x_aload_n 117 hK rfl rfl l0 ?_
        refine x_getR 120 hK rfl rfl (sp_171 (h := h4) hG4) (rf_171_14 (h := h4) hG4) ?_
        refine x_iconst 121 hK rfl rfl ?_
        refine x_iconst 122 hK rfl rfl ?_
        refine x_iload_n 123 hK rfl rfl l3 ?_
        refine x_imul 124 hK rfl rfl ?_
        refine x_iadd 125 hK rfl rfl ?_
        refine x_iconst 126 hK rfl rfl ?_
        refine x_iadd 127 hK rfl rfl ?_
        refine x_ialoadE 128 hK rfl rfl (sp_178 (h := h4) hG4) (by omega) (by omega) (by omega) (e' := ((tri (gi h 178) t.toNat).1)) (((FRM_gi hF4 (r := 61) rfl rfl).trans (gi_to (show ((5 + (3 * t)) + 0).toNat = 5 + 3 * t.toNat by omega)))) ?_
        refine x_aload_n 129 hK rfl rfl l0 ?_
        refine x_getR 132 hK rfl rfl (sp_171 (h := h4) hG4) (rf_171_14 (h := h4) hG4) ?_
        refine x_iconst 133 hK rfl rfl ?_
        have g583 := gi_r h 178 0
        refine x_ialoadE 134 hK rfl rfl (sp_178 (h := h4) hG4) (by omega) (by omega) (by omega) (e' := (gi h 178 0)) (n0) ?_
        refine x_isub 135 hK rfl rfl ?_
        refine x_goto 150 hK rfl rfl ?_
        exact x_iret hK rfl ⟨Or.inl ⟨ok_, t.toNat, by omega, tx.2, by first | (rw [if_pos (by omega)]; done) | (rw [if_neg (by omega)]; done), z4⟩, hG4, hF4⟩
    · refine x_iconst 55 hK rfl rfl ?_
      refine x_istore 57 hK rfl rfl _ rfl ?_
      refine x_iconst 58 hK rfl rfl ?_
      refine x_istore 60 hK rfl rfl _ rfl ?_
      exact inner _ 0 0 _ rfl (by omega) (by omega) (rfl) (lk1_n (lk1_n l0 (by decide) (Or.inl rfl)) (by decide) (Or.inl rfl)) (lk1_n (lk1_n l1 (by decide) (Or.inl rfl)) (by decide) (Or.inl rfl)) (lk1_n (lk1_n l2 (by decide) (Or.inl rfl)) (by decide) (Or.inl rfl)) (lk1_n (lk1_n l3 (by decide) (Or.inl rfl)) (by decide) (Or.inl rfl)) (lk1_n (lk1_n l4 (by decide) (Or.inl rfl)) (by decide) (Or.inl rfl)) (lk1_n lk1_s (by decide) (Or.inl rfl)) lk1_s
  refine x_aload_n 1 hK rfl rfl rfl ?_
  refine x_iconst 2 hK rfl rfl ?_
  refine x_putI 5 hK rfl rfl (sp_171 (h := h) hG) ?_
  refine x_iload_n 6 hK rfl rfl rfl ?_
  refine x_i2l 7 hK rfl rfl (by omega) ?_
  refine x_lconstE 8 0 hK rfl rfl rfl ?_
  refine x_aload_n 9 hK rfl rfl rfl ?_
  refine x_getR 12 hK rfl rfl (sp_171 (h := h) hG) (rf_171_14 (h := h) hG) ?_
  refine x_iconst 13 hK rfl rfl ?_
  have g584 := gri (0) (12) hG (a := 178) (r := 61) (k := 3) rfl rfl
  refine x_ialoadE 14 hK rfl rfl (sp_178 (h := h) hG) (by omega) (by omega) (by omega) (e' := (gi h 178 3)) (gi_a (by decide) _) ?_
  refine x_iconst 15 hK rfl rfl ?_
  refine x_isub 16 hK rfl rfl ?_
  refine x_i2l 17 hK rfl rfl (by omega) ?_
  have hGp585 : GD gE gRL sh (wI h 171 0 0) := GD_w1 (hG) (r := 54) rfl (by omega) rfl (by omega) (by omega)
  refine x_callS 20 hK hmono rfl (Or.inl rfl) rfl [.long (J x), .long (J 0), .long (J ((gi h 178 3) - 1))] [] rfl rfl (Nat.le_of_ble_eq_true rfl) (Nat.le_of_ble_eq_true rfl) (CLd_le (Nat.le_of_ble_eq_true rfl) (ctX11_in (by omega) (by omega) (by omega))) ?_
  rintro v9 h9 ⟨e9, ⟨rfl, i1586, i2586⟩ | ⟨rfl, i1586⟩⟩ <;> rw [e9] <;> clear e9
  · refine x_if_eq 33 23 hK rfl rfl rfl (by omega) (fun c => by omega) (fun _ => ?_)
    refine x_iload_n 24 hK rfl rfl rfl ?_
    refine x_i2l 25 hK rfl rfl (by omega) ?_
    refine x_lconstE 26 0 hK rfl rfl rfl ?_
    refine x_lconstE 27 1 hK rfl rfl rfl ?_
    have hGp587 : GD gE gRL sh (wI h 171 0 0) := GD_w1 (hG) (r := 54) rfl (by omega) rfl (by omega) (by omega)
    refine x_callS 30 hK hmono rfl (Or.inl rfl) rfl [.long (J y), .long (J 0), .long (J 1)] [] rfl rfl (Nat.le_of_ble_eq_true rfl) (Nat.le_of_ble_eq_true rfl) (CLd_le (Nat.le_of_ble_eq_true rfl) (ctX11_in (by omega) (by omega) (by omega))) ?_
    rintro v9 h9 ⟨e9, ⟨rfl, i1588, i2588⟩ | ⟨rfl, i1588⟩⟩ <;> rw [e9] <;> clear e9
    · refine x_if_ne 38 33 hK rfl rfl rfl (by omega) (fun _ => ?_) (fun c => by omega)
      refine x_iconst 39 hK rfl rfl ?_
      refine x_istore_n 40 hK rfl rfl [(3, .int (I 0)), (0, .ref 171), (1, .int (I x)), (2, .int (I y))] rfl ?_
      refine x_iconst 41 hK rfl rfl ?_
      refine x_istore 43 hK rfl rfl [(4, .int (I 0)), (3, .int (I 0)), (0, .ref 171), (1, .int (I x)), (2, .int (I y))] rfl ?_
      exact loop _ 0 0 _ _ rfl (⟨⟨by omega, by omega⟩, by omega, by omega⟩) (by omega) (by omega) (Or.inl fun q hq => absurd hq (by omega)) (gi_same (by omega)) rfl rfl rfl rfl rfl (GD_w1 (hG) (r := 54) rfl (by omega) rfl (by omega) (by omega)) (FRM_w ((FRM.rf : FRM gRL [(0, 54, 0, 0)] h h)) (r := 54) rfl rfl)
    · refine x_if_ne 38 33 hK rfl rfl rfl (by omega) (fun c => by omega) (fun _ => ?_)
      refine x_aload_n 34 hK rfl rfl rfl ?_
      have hGp589 : GD gE gRL sh (wI h 171 0 0) := GD_w1 (hG) (r := 54) rfl (by omega) rfl (by omega) (by omega)
      refine x_callV 37 hK hmono rfl rfl [.ref 171] [] rfl rfl (Nat.le_of_ble_eq_true rfl) (Nat.le_of_ble_eq_true rfl) rfl (sp_171 (h := h) hG) (CLd_le (Nat.le_of_ble_eq_true rfl) (ctX11_refuse hSP hGp589)) ?_
      rintro v590 h590 ⟨rfl, hG590, hF590, t590⟩
      exact x_iret hK rfl ⟨Or.inr ⟨fun z => by have z1 := z.1; have z2 := z.2; omega, rfl, t590⟩, hG590, (FRM_w ((FRM.rf : FRM gRL [(0, 54, 0, 0)] h h)) (r := 54) rfl rfl).trans ((hF590).mono rfl)⟩
  · refine x_if_eq 33 23 hK rfl rfl rfl (by omega) (fun _ => ?_) (fun c => by omega)
    refine x_aload_n 34 hK rfl rfl rfl ?_
    have hGp591 : GD gE gRL sh (wI h 171 0 0) := GD_w1 (hG) (r := 54) rfl (by omega) rfl (by omega) (by omega)
    refine x_callV 37 hK hmono rfl rfl [.ref 171] [] rfl rfl (Nat.le_of_ble_eq_true rfl) (Nat.le_of_ble_eq_true rfl) rfl (sp_171 (h := h) hG) (CLd_le (Nat.le_of_ble_eq_true rfl) (ctX11_refuse hSP hGp591)) ?_
    rintro v592 h592 ⟨rfl, hG592, hF592, t592⟩
    exact x_iret hK rfl ⟨Or.inr ⟨fun z => by have z1 := z.1; have z2 := z.2; omega, rfl, t592⟩, hG592, (FRM_w ((FRM.rf : FRM gRL [(0, 54, 0, 0)] h h)) (r := 54) rfl rfl).trans ((hF592).mono rfl)⟩
