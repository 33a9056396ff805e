/-! THE READER OF RULES (the class): what waits; orders that are due (the reference) -/
/-- how much a sign binds -/
def rk (s : Int) : Int := if s = 42 ∨ s = 47 then 3 else if s = 43 ∨ s = 45 then 2 else if s = 60 ∨ s = 61 ∨ s = 62 then 1 else if s = 256 then 4 else 0
/-- what is said of the state's places -/
def clsB : Bool := (eG gE 61).all fun q => (Nat.beq q.1 1 && Nat.beq q.2.1 1 && decide (q.2.2 = (0, 8))) || (Nat.beq q.1 3 && Nat.beq q.2.1 3 && decide (q.2.2 = (0, 12))) || (List.range 12).any fun j => Nat.beq q.1 (6 + 3 * j) && Nat.beq q.2.1 (6 + 3 * j) && decide (q.2.2 = (-1, 1))
theorem clsB_t : clsB = true := by decide +kernel
theorem cls61 {q : Nat × Nat × Int × Int} (hq : q ∈ eG gE 61) : (q.1 = 1 ∧ q.2.1 = 1 ∧ q.2.2 = (0, 8)) ∨ (q.1 = 3 ∧ q.2.1 = 3 ∧ q.2.2 = (0, 12)) ∨ ∃ j, j < 12 ∧ q.1 = 6 + 3 * j ∧ q.2.1 = 6 + 3 * j ∧ q.2.2 = (-1, 1) := by
  have z := List.all_eq_true.mp clsB_t q hq
  simp only [Bool.or_eq_true, Bool.and_eq_true, Nat.beq_eq, decide_eq_true_eq] at z
  rcases z with (z | z) | z
  · exact Or.inl ⟨z.1.1, z.1.2, z.2⟩
  · exact Or.inr (Or.inl ⟨z.1.1, z.1.2, z.2⟩)
  · obtain ⟨j, hj, y⟩ := List.any_eq_true.mp z
    simp only [Bool.and_eq_true, Nat.beq_eq, decide_eq_true_eq] at y
    exact Or.inr (Or.inr ⟨j, List.mem_range.mp hj, y.1.1, y.1.2, y.2⟩)
def inB : Bool := (List.range 12).all fun j => decide ((6 + 3 * j, 6 + 3 * j, -1, 1) ∈ eG gE 61)
theorem inB_t : inB = true := by decide +kernel
theorem in61 {j : Nat} (hj : j < 12) : (6 + 3 * j, 6 + 3 * j, -1, 1) ∈ eG gE 61 := of_decide_eq_true (List.all_eq_true.mp inB_t j (List.mem_range.mpr hj))
/-- a place of the state is written: the lane, how many orders, their helms are bounded -/
theorem GD_st {sh : List (Nat × Nat)} {h : aH} {a r k : Nat} {e : Int} (hG : GD gE gRL sh h) (hr : gRL[a]? = some r) (h61 : eG gE r = eG gE 61) (h1 : k = 1 → 0 ≤ e ∧ e ≤ 8) (h3 : k = 3 → 0 ≤ e ∧ e ≤ 12) (hw : ∀ j, j < 12 → k = 6 + 3 * j → -1 ≤ e ∧ e ≤ 1) : GD gE gRL sh (wI h a k e) := by
  by_cases hc : k = 1 ∨ k = 3 ∨ ∃ j, j < 12 ∧ k = 6 + 3 * j
  · refine GD_w hG hr ?_ fun q hq l1 l2 => ?_
    · rcases hc with hc | hc | ⟨j, hj, hc⟩
      · have := h1 hc; omega
      · have := h3 hc; omega
      · have := hw j hj hc; omega
    rw [h61] at hq
    rcases cls61 hq with ⟨e1, e2, e3⟩ | ⟨e1, e2, e3⟩ | ⟨j, hj, e1, e2, e3⟩
    · rw [e3]; exact h1 (by omega)
    · rw [e3]; exact h3 (by omega)
    · rw [e3]; exact hw j hj (by omega)
  · refine GD_wX hG hr fun q hq l1 l2 => hc ?_
    rw [h61] at hq
    rcases cls61 hq with ⟨e1, e2, e3⟩ | ⟨e1, e2, e3⟩ | ⟨j, hj, e1, e2, e3⟩
    · exact Or.inl (by omega)
    · exact Or.inr (Or.inl (by omega))
    · exact Or.inr (Or.inr ⟨j, hj, by omega⟩)
theorem helm_ok {sh : List (Nat × Nat)} {h : aH} {a r : Nat} (hG : GD gE gRL sh h) (hr : gRL[a]? = some r) (h61 : eG gE r = eG gE 61) {j : Nat} (hj : j < 12) : -1 ≤ gi h a (6 + 3 * j) ∧ gi h a (6 + 3 * j) ≤ 1 :=
  hG.2.2.1 a r hr _ (by rw [h61]; exact in61 hj) _ (Nat.le_refl _) (Nat.le_refl _)
theorem ctX11_put {SP : CT} (hSP : MONO SP) {h : aH} {n : Int} (hn : r32 n) : CLd SP 1 mX11_put [.int (I n)] h 0 0 (fun rv h' => h' = h ∧ rv = some (.int (I (max 0 (min 8 n))))) := by
  refine x_met _ rfl (Nat.le_of_ble_eq_true rfl) (fun K hK => ?_)
  have hmono := MONO_CLd hSP 0
  refine x_iconst 1 hK rfl rfl ?_
  refine x_bipush 3 hK rfl rfl rfl ?_
  refine x_iload_n 4 hK rfl rfl rfl ?_
  refine x_min 7 hK rfl rfl (Nat.le_of_ble_eq_true rfl) (by omega) (by omega) ?_
  refine x_max 10 hK rfl rfl (Nat.le_of_ble_eq_true rfl) (by omega) (by omega) ?_
  exact x_iret hK rfl ⟨rfl, rfl⟩
theorem ctX11_doesDueT {SP : CT} (hSP : MONO SP) {sh : List (Nat × Nat)} {h : aH} (hG : GD gE gRL sh h) : CLd SP 4 mX11_doesDue [.ref 179] h 0 0 (fun rv h' => rv = none ∧ GD gE gRL sh h' ∧ FRM gRL [(0, 62, 1, 1), (0, 62, 3, 3), (0, 62, 5, 40)] h h') := by
  refine x_met _ rfl (Nat.le_of_ble_eq_true rfl) (fun K hK => ?_)
  have hmono := MONO_CLd hSP 3
  have gr0 := gi_r h 179 3
  have g3 := gri 0 12 hG (a := 179) (r := 62) (k := 3) rfl rfl
  have loop : ∀ (m : Nat) (k d : Int) (h1 : aH) (ls : List (Nat × Value)), ((gi h 179 3 - k).toNat = m) → 0 ≤ d → d ≤ k → k ≤ gi h 179 3 → lk ls 0 = some (.ref 179) → lk ls 1 = some (.int (I d)) → lk ls 2 = some (.int (I k)) → gi h1 179 3 = gi h 179 3 → GD gE gRL sh h1 → FRM gRL [(0, 62, 1, 1), (0, 62, 3, 3), (0, 62, 5, 40)] h h1 → K 4 ls [] h1 0 0 := by
    intro m
    induction m using Nat.strongRecOn with
    | ind m ih =>
    intro k d h1 ls hm h0 hd hk l0 l1 l2 hc hG1 hF
    have gr := gi_r h1 179
    have loop2 : ∀ (m : Nat) (i : Int) (h2 : aH) (ls : List (Nat × Value)), ((3 - i).toNat = m) → 0 ≤ i → i ≤ 3 → k < gi h 179 3 → lk ls 0 = some (.ref 179) → lk ls 1 = some (.int (I d)) → lk ls 2 = some (.int (I k)) → lk ls 3 = some (.int (I (5 + 3 * k))) → lk ls 4 = some (.int (I i)) → gi h2 179 3 = gi h 179 3 → GD gE gRL sh h2 → FRM gRL [(0, 62, 1, 1), (0, 62, 3, 3), (0, 62, 5, 40)] h h2 → K 49 ls [] h2 0 0 := by
      intro m2
      induction m2 using Nat.strongRecOn with
      | ind m2 ih2 =>
      intro i h2 ls hm2 i0 i3 hkk l0 l1 l2 l3 l4 hc2 hG2 hF2
      have gr2 := gi_r h2 179
      refine x_iload 51 hK rfl rfl l4 ?_
      refine x_iconst 52 hK rfl rfl ?_
      refine x_if_icmp_ge 77 55 hK rfl rfl rfl (by omega) (by omega) (fun c3 => ?_) (fun c3 => ?_)
      · refine x_iinc 80 hK rfl rfl l1 _ rfl ?_
        refine x_iinc 83 hK rfl rfl (lk1_n l2 (by decide) (Or.inl rfl)) _ rfl ?_
        refine x_goto 4 hK rfl rfl ?_
        exact ih _ (by omega) (k + 1) (d + 1) h2 _ rfl (by omega) (by omega) (by omega) (lk1_n (lk1_n l0 (by decide) (Or.inl rfl)) (by decide) (Or.inl rfl)) (lk1_n lk1_s (by decide) (Or.inl rfl)) lk1_s hc2 hG2 hF2
      · refine x_aload_n 56 hK rfl rfl l0 ?_
        refine x_iconst 57 hK rfl rfl ?_
        refine x_iconst 58 hK rfl rfl ?_
        refine x_iload_n 59 hK rfl rfl l1 ?_
        refine x_imul 60 hK rfl rfl ?_
        refine x_iadd 61 hK rfl rfl ?_
        refine x_iload 63 hK rfl rfl l4 ?_
        refine x_iadd 64 hK rfl rfl ?_
        refine x_aload_n 65 hK rfl rfl l0 ?_
        refine x_iload_n 66 hK rfl rfl l3 ?_
        refine x_iload 68 hK rfl rfl l4 ?_
        refine x_iadd 69 hK rfl rfl ?_
        refine x_ialoadE 70 hK rfl rfl (sp_179 (h := h2) hG2) (by omega) (by omega) (by omega) (e' := (gi h2 179 ((5 + 3 * k) + i).toNat)) (rfl) ?_
        refine x_iastore 71 hK rfl rfl (sp_179 (h := h2) hG2) (by omega) (by omega) (by omega) ?_
        refine x_iinc 74 hK rfl rfl l4 _ rfl ?_
        refine x_goto 49 hK rfl rfl ?_
        have hne : (((5 + (3 * d)) + i)).toNat ≠ 3 := by omega
        refine ih2 _ (by omega) (i + 1) _ _ rfl (by omega) (by omega) hkk (lk1_n l0 (by decide) (Or.inl rfl)) (lk1_n l1 (by decide) (Or.inl rfl)) (lk1_n l2 (by decide) (Or.inl rfl)) (lk1_n l3 (by decide) (Or.inl rfl)) lk1_s ((gi_k (fun z => hne z.symm) _).trans hc2) (GD_st hG2 (r := 62) rfl rfl (fun z => by omega) (fun z => by omega) fun j hj z => ?_) (FRM_wn 5 40 hF2 (r := 62) rfl rfl rfl (by omega) (by omega))
        have e6 : ((5 + 3 * k) + i).toNat = 6 + 3 * k.toNat := by omega
        rw [e6]
        exact helm_ok hG2 (r := 62) rfl rfl (by omega)
    refine x_iload_n 5 hK rfl rfl l2 ?_
    refine x_aload_n 6 hK rfl rfl l0 ?_
    refine x_iconst 7 hK rfl rfl ?_
    refine x_ialoadE 8 hK rfl rfl (sp_179 (h := h1) hG1) (by omega) (by omega) (by omega) (e' := gi h 179 3) hc ?_
    refine x_if_icmp_ge 86 11 hK rfl rfl rfl (by first | omega | exact gr _) (by first | omega | exact gr _) (fun c5 => ?_) (fun c5 => ?_)
    · refine x_aload_n 87 hK rfl rfl l0 ?_
      refine x_iconst 88 hK rfl rfl ?_
      refine x_iload_n 89 hK rfl rfl l1 ?_
      refine x_iastore 90 hK rfl rfl (sp_179 (h := h1) hG1) (by first | omega | exact gr _) (by first | omega | exact gr _) (by first | omega | exact gr _) ?_
      exact x_vret hK rfl ⟨rfl, GD_st hG1 (r := 62) rfl rfl (fun z => by omega) (fun z => by omega) (fun j hj z => by omega), FRM_w hF (r := 62) rfl rfl⟩
    · refine x_iconst 12 hK rfl rfl ?_
      refine x_iconst 13 hK rfl rfl ?_
      refine x_iload_n 14 hK rfl rfl l2 ?_
      refine x_imul 15 hK rfl rfl ?_
      refine x_iadd 16 hK rfl rfl ?_
      refine x_istore_n 17 hK rfl rfl _ rfl ?_
      refine x_aload_n 18 hK rfl rfl (lk1_n l0 (by decide) (Or.inl rfl)) ?_
      refine x_iload_n 19 hK rfl rfl lk1_s ?_
      refine x_iconst 20 hK rfl rfl ?_
      refine x_iadd 21 hK rfl rfl ?_
      refine x_ialoadE 22 hK rfl rfl (sp_179 (h := h1) hG1) (by first | omega | exact gr _) (by first | omega | exact gr _) (by first | omega | exact gr _) (e' := (gi h1 179 ((5 + (3 * k)) + 0).toNat)) (rfl) ?_
      refine x_aload_n 23 hK rfl rfl (lk1_n l0 (by decide) (Or.inl rfl)) ?_
      refine x_iconst 24 hK rfl rfl ?_
      refine x_ialoadE 25 hK rfl rfl (sp_179 (h := h1) hG1) (by first | omega | exact gr _) (by first | omega | exact gr _) (by first | omega | exact gr _) (e' := (gi h1 179 0)) (rfl) ?_
      refine x_if_icmp_ne 46 28 hK rfl rfl rfl (by first | omega | exact gr _) (by first | omega | exact gr _) (fun c25 => ?_) (fun c25 => ?_)
      · refine x_iconst 47 hK rfl rfl ?_
        refine x_istore 49 hK rfl rfl _ rfl ?_
        exact loop2 _ 0 h1 _ rfl (by omega) (by omega) (by omega) (lk1_n (lk1_n l0 (by decide) (Or.inl rfl)) (by decide) (Or.inl rfl)) (lk1_n (lk1_n l1 (by decide) (Or.inl rfl)) (by decide) (Or.inl rfl)) (lk1_n (lk1_n l2 (by decide) (Or.inl rfl)) (by decide) (Or.inl rfl)) (lk1_n lk1_s (by decide) (Or.inl rfl)) lk1_s hc hG1 hF
      · refine x_aload_n 29 hK rfl rfl (lk1_n l0 (by decide) (Or.inl rfl)) ?_
        refine x_iconst 30 hK rfl rfl ?_
        refine x_aload_n 31 hK rfl rfl (lk1_n l0 (by decide) (Or.inl rfl)) ?_
        refine x_iconst 32 hK rfl rfl ?_
        refine x_ialoadE 33 hK rfl rfl (sp_179 (h := h1) hG1) (by first | omega | exact gr _) (by first | omega | exact gr _) (by first | omega | exact gr _) (e' := (gi h1 179 1)) (rfl) ?_
        refine x_aload_n 34 hK rfl rfl (lk1_n l0 (by decide) (Or.inl rfl)) ?_
        refine x_iload_n 35 hK rfl rfl lk1_s ?_
        refine x_iconst 36 hK rfl rfl ?_
        refine x_iadd 37 hK rfl rfl ?_
        refine x_ialoadE 38 hK rfl rfl (sp_179 (h := h1) hG1) (by first | omega | exact gr _) (by first | omega | exact gr _) (by first | omega | exact gr _) (e' := (gi h1 179 ((5 + (3 * k)) + 1).toNat)) (rfl) ?_
        refine x_iadd 39 hK rfl rfl ?_
        have gl := gri 0 8 hG1 (a := 179) (r := 62) (k := 1) rfl rfl
        have gh := helm_ok hG1 (a := 179) (r := 62) rfl rfl (j := k.toNat) (by omega)
        rw [show 6 + 3 * k.toNat = ((5 + 3 * k) + 1).toNat by omega] at gh
        refine x_callS 42 hK hmono rfl (Or.inl rfl) rfl [.int (I ((gi h1 179 1) + (gi h1 179 ((5 + (3 * k)) + 1).toNat)))] [.int (I 1), .ref 179] rfl rfl (Nat.le_of_ble_eq_true rfl) (Nat.le_of_ble_eq_true rfl) (CLd_le (Nat.le_of_ble_eq_true rfl) (ctX11_put hSP (by omega))) ?_
        rintro v9 h9 ⟨e9, rfl⟩
        rw [e9]
        clear e9
        refine x_iastore 43 hK rfl rfl (sp_179 (h := h1) hG1) (by first | omega | exact gr _) (by first | omega | exact gr _) (by first | omega | exact gr _) ?_
        refine x_goto 80 hK rfl rfl ?_
        refine x_iinc 83 hK rfl rfl (lk1_n l2 (by decide) (Or.inl rfl)) _ rfl ?_
        refine x_goto 4 hK rfl rfl ?_
        refine ih _ (by omega) (k + 1) d _ _ rfl (by omega) (by omega) (by omega) (lk1_n (lk1_n l0 (by decide) (Or.inl rfl)) (by decide) (Or.inl rfl)) (lk1_n (lk1_n l1 (by decide) (Or.inl rfl)) (by decide) (Or.inl rfl)) lk1_s ((gi_k (by decide) _).trans hc) (GD_st hG1 (r := 62) rfl rfl (fun z => by omega) (fun z => by omega) fun j hj z => by omega) (FRM_w hF (r := 62) rfl rfl)
  refine x_iconst 1 hK rfl rfl ?_
  refine x_istore_n 2 hK rfl rfl [(1, .int (I 0)), (0, .ref 179)] rfl ?_
  refine x_iconst 3 hK rfl rfl ?_
  refine x_istore_n 4 hK rfl rfl [(2, .int (I 0)), (1, .int (I 0)), (0, .ref 179)] rfl ?_
  exact loop _ 0 0 h _ rfl (by omega) (by omega) (by omega) rfl rfl rfl rfl hG FRM.rf
