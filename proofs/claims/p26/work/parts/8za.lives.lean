/-! LIVES, THE SAFEST LANE, COMES -/
/-- ROCKS in a LANE in n STEPS, of the first i -/
noncomputable def rkN (ml ln : Nat → Int) (now n l : Int) : Nat → Int
  | 0 => 0
  | i + 1 => rkN ml ln now n l i + if ln i = l ∧ 1 ≤ ml i - now ∧ ml i - now ≤ n then 1 else 0
theorem rkN_s {ml ln : Nat → Int} {now n l i : Int} (h : 0 ≤ i) : rkN ml ln now n l (i + 1).toNat = rkN ml ln now n l i.toNat + if ln i.toNat = l ∧ 1 ≤ ml i.toNat - now ∧ ml i.toNat - now ≤ n then 1 else 0 := by rw [tn_s h]; rfl
theorem rkN_b (ml ln : Nat → Int) (now n l : Int) : ∀ i : Nat, 0 ≤ rkN ml ln now n l i ∧ rkN ml ln now n l i ≤ i
  | 0 => ⟨Int.le_refl _, Int.le_refl _⟩
  | i + 1 => by
    have := rkN_b ml ln now n l i
    show 0 ≤ rkN ml ln now n l i + (if ln i = l ∧ 1 ≤ ml i - now ∧ ml i - now ≤ n then 1 else 0) ∧ rkN ml ln now n l i + (if ln i = l ∧ 1 ≤ ml i - now ∧ ml i - now ≤ n then 1 else 0) ≤ ((i + 1 : Nat) : Int)
    split <;> omega
theorem rkN_c {ml ln ml' ln' : Nat → Int} {now n l : Int} : ∀ i : Nat, (∀ j, j < i → ml' j = ml j ∧ ln' j = ln j) → rkN ml' ln' now n l i = rkN ml ln now n l i
  | 0, _ => rfl
  | i + 1, h => by
    show rkN ml' ln' now n l i + (if ln' i = l ∧ 1 ≤ ml' i - now ∧ ml' i - now ≤ n then 1 else 0) = rkN ml ln now n l i + (if ln i = l ∧ 1 ≤ ml i - now ∧ ml i - now ≤ n then 1 else 0)
    rw [rkN_c i fun j hj => h j (by omega), (h i (by omega)).1, (h i (by omega)).2]
noncomputable def apt (lane l : Int) : Int := if 0 ≤ l - lane then l - lane else -(l - lane)
/-- b is the best of those for which S holds -/
noncomputable def BST (c : Int → Int) (lane : Int) (S : Int → Prop) (b : Int) : Prop := ∀ l : Int, S l → c b < c l ∨ (c b = c l ∧ (apt lane b < apt lane l ∨ (apt lane b = apt lane l ∧ b ≤ l)))
theorem BST_u {c : Int → Int} {lane b b' : Int} {S : Int → Prop} (hb : S b) (hb' : S b') (h : BST c lane S b) (h' : BST c lane S b') : b = b' := by
  have z := h b' hb'
  have y := h' b hb
  omega
set_option maxRecDepth 4000 in
theorem ctX10_rocksInLaneF {SP : CT} (hSP : MONO SP) {sh : List (Nat × Nat)} {h : aH} (hG : GD gE gRL sh h) {b : Int} {w : WS} {ms : Int} (hS : STR ms (kS h 23) w) (hw : WW b w) (hb : b ≤ 950000) (hml : ∀ j : Nat, (j : Int) < gi h 19 0 → 0 ≤ gi h 20 j ∧ gi h 20 j ≤ 999) {l n : Int} (rl : r32 l) (rn : r32 n) : CLd SP 2 mX10_rocksInLane [.ref 0, .int (I l), .int (I n)] h 0 0 (fun rv h' => h' = h ∧ rv = some (.int (I (rkN (gi h 20) (gi h 21) w.1 n l (gi h 19 0).toNat)))) := by
  refine x_met _ rfl (Nat.le_of_ble_eq_true rfl) (fun K hK => ?_)
  have hmono := MONO_CLd hSP 1
  obtain ⟨k0, k1, k2, k3, k4, k5, k6⟩ := STR_to hG hS
  have hb1 := STR_hb hG hS hw (by omega)
  have lb := hw.2.1
  have w0 := hw.1
  have g19 := gri 0 16 hG (a := 19) (r := 13) (k := 0) rfl rfl
  have loop : ∀ (mz : Nat) (c i : Int) (ls : List (Nat × Value)), ((gi h 19 0 - i).toNat = mz) → (0 ≤ i ∧ i ≤ gi h 19 0) → (c = (rkN (gi h 20) (gi h 21) w.1 n l i.toNat)) → lk ls 0 = some (.ref 0) → lk ls 1 = some (.int (I l)) → lk ls 2 = some (.int (I n)) → lk ls 3 = some (.int (I c)) → lk ls 4 = some (.int (I i)) → K 5 ls [] h 0 0 := by
    intro mz
    induction mz using Nat.strongRecOn with
    | ind mz ih =>
    intro c i ls hm i0 c0 l0 l1 l2 l3 l4
    have cb := rkN_b (gi h 20) (gi h 21) w.1 n l i.toNat
    have gm := fun z : i < gi h 19 0 => hml i.toNat (by omega)
    have gl2 := fun z : i < gi h 19 0 => grn 0 8 hG (a := 21) (r := 15) (k := i.toNat) rfl rfl (by omega)
    refine x_iload 7 hK rfl rfl l4 ?_
    refine x_aload_n 8 hK rfl rfl l0 ?_
    refine x_getR 11 hK rfl rfl (sp_0 (h := h) hG) (rf_0_7 (h := h) hG) ?_
    have g600 := gri (0) (16) hG (a := 19) (r := 13) (k := 0) rfl rfl
    refine x_getE 14 hK rfl (Or.inl rfl) rfl (sp_19 (h := h) hG) (e := (gi h 19 0)) (rfl) ?_
    refine x_if_icmp_ge 72 17 hK rfl rfl rfl (by omega) (by omega) (fun c5 => ?_) (fun c5 => ?_)
    · refine x_iload_n 73 hK rfl rfl l3 ?_
      exact x_iret hK rfl ⟨rfl, by rw [c0, show i.toNat = (gi h 19 0).toNat by omega]⟩
    · refine x_aload_n 18 hK rfl rfl l0 ?_
      refine x_getR 21 hK rfl rfl (sp_0 (h := h) hG) (rf_0_7 (h := h) hG) ?_
      refine x_getR 24 hK rfl rfl (sp_19 (h := h) hG) (rf_19_1 (h := h) hG) ?_
      refine x_iload 26 hK rfl rfl l4 ?_
      have g601 := gi_r h 20 i.toNat
      refine x_ialoadE 27 hK rfl rfl (sp_20 (h := h) hG) (by omega) (by omega) (by omega) (e' := (gi h 20 i.toNat)) (rfl) ?_
      refine x_aload_n 28 hK rfl rfl l0 ?_
      refine x_getR 31 hK rfl rfl (sp_0 (h := h) hG) (rf_0_10 (h := h) hG) ?_
      refine x_getE 34 hK rfl (Or.inl rfl) rfl (sp_23 (h := h) hG) (e := (w.1)) (k0) ?_
      refine x_isub 35 hK rfl rfl ?_
      refine x_istore 37 hK rfl rfl _ rfl ?_
      refine x_aload_n 38 hK rfl rfl (lk1_n l0 (by decide) (Or.inl rfl)) ?_
      refine x_getR 41 hK rfl rfl (sp_0 (h := h) hG) (rf_0_7 (h := h) hG) ?_
      refine x_getR 44 hK rfl rfl (sp_19 (h := h) hG) (rf_19_2 (h := h) hG) ?_
      refine x_iload 46 hK rfl rfl (lk1_n l4 (by decide) (Or.inl rfl)) ?_
      have g602 := grn (0) (8) hG (a := 21) (r := 15) (k := i.toNat) rfl rfl (by omega)
      refine x_ialoadE 47 hK rfl rfl (sp_21 (h := h) hG) (by omega) (by omega) (by omega) (e' := (gi h 21 i.toNat)) (rfl) ?_
      refine x_iload_n 48 hK rfl rfl (lk1_n l1 (by decide) (Or.inl rfl)) ?_
      refine x_if_icmp_ne 66 51 hK rfl rfl rfl (by omega) (by omega) (fun c24 => ?_) (fun c24 => ?_)
      · refine x_iinc 69 hK rfl rfl (lk1_n l4 (by decide) (Or.inl rfl)) _ rfl ?_
        refine x_goto 5 hK rfl rfl ?_
        exact ih _ (by omega) c (i + 1) _ rfl (by omega) (by rw [rkN_s i0.1, if_neg (by omega), c0]; exact (Int.add_zero _).symm) (lk1_n (lk1_n l0 (by decide) (Or.inl rfl)) (by decide) (Or.inl rfl)) (lk1_n (lk1_n l1 (by decide) (Or.inl rfl)) (by decide) (Or.inl rfl)) (lk1_n (lk1_n l2 (by decide) (Or.inl rfl)) (by decide) (Or.inl rfl)) (lk1_n (lk1_n l3 (by decide) (Or.inl rfl)) (by decide) (Or.inl rfl)) lk1_s
      · refine x_iload 53 hK rfl rfl lk1_s ?_
        refine x_iconst 54 hK rfl rfl ?_
        refine x_if_icmp_lt 66 57 hK rfl rfl rfl (by omega) (by omega) (fun c30 => ?_) (fun c30 => ?_)
        · refine x_iinc 69 hK rfl rfl (lk1_n l4 (by decide) (Or.inl rfl)) _ rfl ?_
          refine x_goto 5 hK rfl rfl ?_
          exact ih _ (by omega) c (i + 1) _ rfl (by omega) (by rw [rkN_s i0.1, if_neg (by omega), c0]; exact (Int.add_zero _).symm) (lk1_n (lk1_n l0 (by decide) (Or.inl rfl)) (by decide) (Or.inl rfl)) (lk1_n (lk1_n l1 (by decide) (Or.inl rfl)) (by decide) (Or.inl rfl)) (lk1_n (lk1_n l2 (by decide) (Or.inl rfl)) (by decide) (Or.inl rfl)) (lk1_n (lk1_n l3 (by decide) (Or.inl rfl)) (by decide) (Or.inl rfl)) lk1_s
        · refine x_iload 59 hK rfl rfl lk1_s ?_
          refine x_iload_n 60 hK rfl rfl (lk1_n l2 (by decide) (Or.inl rfl)) ?_
          refine x_if_icmp_gt 66 63 hK rfl rfl rfl (by omega) (by omega) (fun c36 => ?_) (fun c36 => ?_)
          · refine x_iinc 69 hK rfl rfl (lk1_n l4 (by decide) (Or.inl rfl)) _ rfl ?_
            refine x_goto 5 hK rfl rfl ?_
            exact ih _ (by omega) c (i + 1) _ rfl (by omega) (by rw [rkN_s i0.1, if_neg (by omega), c0]; exact (Int.add_zero _).symm) (lk1_n (lk1_n l0 (by decide) (Or.inl rfl)) (by decide) (Or.inl rfl)) (lk1_n (lk1_n l1 (by decide) (Or.inl rfl)) (by decide) (Or.inl rfl)) (lk1_n (lk1_n l2 (by decide) (Or.inl rfl)) (by decide) (Or.inl rfl)) (lk1_n (lk1_n l3 (by decide) (Or.inl rfl)) (by decide) (Or.inl rfl)) lk1_s
          · refine x_iinc 66 hK rfl rfl (lk1_n l3 (by decide) (Or.inl rfl)) _ rfl ?_
            refine x_iinc 69 hK rfl rfl (lk1_n (lk1_n l4 (by decide) (Or.inl rfl)) (by decide) (Or.inl rfl)) _ rfl ?_
            refine x_goto 5 hK rfl rfl ?_
            exact ih _ (by omega) (c + 1) (i + 1) _ rfl (by omega) (by rw [rkN_s i0.1, if_pos (by omega), c0]) (lk1_n (lk1_n (lk1_n l0 (by decide) (Or.inl rfl)) (by decide) (Or.inl rfl)) (by decide) (Or.inl rfl)) (lk1_n (lk1_n (lk1_n l1 (by decide) (Or.inl rfl)) (by decide) (Or.inl rfl)) (by decide) (Or.inl rfl)) (lk1_n (lk1_n (lk1_n l2 (by decide) (Or.inl rfl)) (by decide) (Or.inl rfl)) (by decide) (Or.inl rfl)) (lk1_n lk1_s (by decide) (Or.inl rfl)) lk1_s
  refine x_iconst 1 hK rfl rfl ?_
  refine x_istore_n 2 hK rfl rfl [(3, .int (I 0)), (0, .ref 0), (1, .int (I l)), (2, .int (I n))] rfl ?_
  refine x_iconst 3 hK rfl rfl ?_
  refine x_istore 5 hK rfl rfl [(4, .int (I 0)), (3, .int (I 0)), (0, .ref 0), (1, .int (I l)), (2, .int (I n))] rfl ?_
  exact loop _ 0 0 _ rfl (by omega) (rfl) rfl rfl rfl rfl rfl
set_option maxRecDepth 4000 in
theorem ctX10_apartF {SP : CT} (hSP : MONO SP) {sh : List (Nat × Nat)} {h : aH} (hG : GD gE gRL sh h) {l : Int} (hl : 0 ≤ l ∧ l ≤ 8) : CLd SP 1 mX10_apart [.ref 0, .int (I l)] h 0 0 (fun rv h' => h' = h ∧ rv = some (.int (I (apt (gi h 23 1) l)))) := by
  refine x_met _ rfl (Nat.le_of_ble_eq_true rfl) (fun K hK => ?_)
  have hmono := MONO_CLd hSP 0
  have g1 := gri 0 8 hG (a := 23) (r := 17) (k := 1) rfl rfl
  refine x_iload_n 1 hK rfl rfl rfl ?_
  refine x_aload_n 2 hK rfl rfl rfl ?_
  refine x_getR 5 hK rfl rfl (sp_0 (h := h) hG) (rf_0_10 (h := h) hG) ?_
  have g603 := gri (0) (8) hG (a := 23) (r := 17) (k := 1) rfl rfl
  refine x_getE 8 hK rfl (Or.inl rfl) rfl (sp_23 (h := h) hG) (e := (gi h 23 1)) (rfl) ?_
  refine x_isub 9 hK rfl rfl ?_
  refine x_abs 12 hK rfl rfl (Nat.le_of_ble_eq_true rfl) (by omega) ?_
  exact x_iret hK rfl ⟨rfl, rfl⟩
set_option maxRecDepth 4000 in
theorem ctX10_safestF {SP : CT} (hSP : MONO SP) {sh : List (Nat × Nat)} {h : aH} (hG : GD gE gRL sh h) {b : Int} {w : WS} {ms : Int} (hS : STR ms (kS h 23) w) (hw : WW b w) (hb : b ≤ 950000) (hml : ∀ j : Nat, (j : Int) < gi h 19 0 → 0 ≤ gi h 20 j ∧ gi h 20 j ≤ 999) {n : Int} (rn : r32 n) : CLd SP 4 mX10_safest [.ref 0, .int (I n)] h 0 0 (fun rv h' => ((¬ (1 ≤ n ∧ n ≤ 999) ∧ rv = some (.int (I (-1))) ∧ h' = h) ∨ ((1 ≤ n ∧ n ≤ 999) ∧ ∃ e : Int, rv = some (.int (I e)) ∧ (0 ≤ e ∧ e ≤ 8) ∧ BST (fun l => (rkN (gi h 20) (gi h 21) w.1 n l (gi h 19 0).toNat)) w.2.1 (fun l => 0 ≤ l ∧ l ≤ 8) e ∧ gi h' 3 1 = 2 ∧ crow h' = [(rkN (gi h 20) (gi h 21) w.1 n e (gi h 19 0).toNat), (rkN (gi h 20) (gi h 21) w.1 n (w.2.1) (gi h 19 0).toNat)])) ∧ GD gE gRL sh h' ∧ FRM gRL [(0, 3, 1, 1), (1, 4, 0, 29)] h h') := by
  refine x_met _ rfl (Nat.le_of_ble_eq_true rfl) (fun K hK => ?_)
  have hmono := MONO_CLd hSP 3
  obtain ⟨k0, k1, k2, k3, k4, k5, k6⟩ := STR_to hG hS
  have hb1 := STR_hb hG hS hw (by omega)
  have lb := hw.2.1
  have w0 := hw.1
  have g19 := gri 0 16 hG (a := 19) (r := 13) (k := 0) rfl rfl
  obtain ⟨c, hc⟩ : ∃ c : Int → Int, c = (fun l => (rkN (gi h 20) (gi h 21) w.1 n l (gi h 19 0).toNat)) := ⟨_, rfl⟩
  have hcl : ∀ l, (rkN (gi h 20) (gi h 21) w.1 n l (gi h 19 0).toNat) = c l := fun l => by rw [hc]
  rw [← hc] at hK
  simp only [hcl] at hK
  have cb : ∀ l, 0 ≤ c l ∧ c l ≤ 16 := fun l => by have z := rkN_b (gi h 20) (gi h 21) w.1 n l (gi h 19 0).toNat; rw [hcl] at z; omega
  have loop : ∀ (mz : Nat) (b_ f u i : Int) (ls : List (Nat × Value)), ((9 - i).toNat = mz) → (1 ≤ n ∧ n ≤ 999) → (0 ≤ i ∧ i ≤ 9) → (0 ≤ b_ ∧ b_ ≤ 8) → (f = c b_) → (u = c w.2.1) → (b_ = w.2.1 ∨ (0 ≤ b_ ∧ b_ < i)) → (BST c w.2.1 (fun l => l = w.2.1 ∨ (0 ≤ l ∧ l < i)) b_) → lk ls 0 = some (.ref 0) → lk ls 1 = some (.int (I n)) → lk ls 2 = some (.int (I b_)) → lk ls 3 = some (.int (I f)) → lk ls 4 = some (.int (I u)) → lk ls 5 = some (.int (I i)) → K 41 ls [] h 0 0 := by
    intro mz
    induction mz using Nat.strongRecOn with
    | ind mz ih =>
    intro b_ f u i ls hm n0 i0 b0 f0 u0 mb bs l0 l1 l2 l3 l4 l5
    have ci := cb i
    have cbb := cb b_
    have cbl := cb w.2.1
    have ab : ∀ l, 0 ≤ l → l ≤ 8 → 0 ≤ apt w.2.1 l ∧ apt w.2.1 l ≤ 8 := fun l h1 h2 => by unfold apt; split <;> omega
    refine x_iload 43 hK rfl rfl l5 ?_
    refine x_bipush 45 hK rfl rfl rfl ?_
    refine x_if_icmp_gt 95 48 hK rfl rfl rfl (by omega) (by omega) (fun c3 => ?_) (fun c3 => ?_)
    · refine x_aload_n 96 hK rfl rfl l0 ?_
      refine x_getR 99 hK rfl rfl (sp_0 (h := h) hG) (rf_0_1 (h := h) hG) ?_
      refine x_iload_n 100 hK rfl rfl l3 ?_
      refine x_i2l 101 hK rfl rfl (by omega) ?_
      refine x_iload 103 hK rfl rfl l4 ?_
      refine x_i2l 104 hK rfl rfl (by omega) ?_
      refine x_callV 107 hK hmono rfl rfl [.ref 3, .long (J f), .long (J u)] [] rfl rfl (Nat.le_of_ble_eq_true rfl) (Nat.le_of_ble_eq_true rfl) rfl (sp_3 (h := h) hG) (CLd_le (Nat.le_of_ble_eq_true rfl) (ctX3_tellTwo hSP hG (by omega) (by omega))) ?_
      rintro v604 h604 ⟨rfl, hG604, hF604, t604, s604⟩
      refine x_iload_n 108 hK rfl rfl l2 ?_
      have bf : BST c w.2.1 (fun l => 0 ≤ l ∧ l ≤ 8) b_ := fun l hl => bs l (Or.inr ⟨hl.1, by omega⟩)
      exact x_iret hK rfl ⟨Or.inr ⟨n0, b_, rfl, b0, bf, t604, by rw [← f0, ← u0]; exact s604⟩, hG604, hF604⟩
    · refine x_aload_n 49 hK rfl rfl l0 ?_
      refine x_iload 51 hK rfl rfl l5 ?_
      refine x_iload_n 52 hK rfl rfl l1 ?_
      have cz605 := cb i
      refine x_callV 55 hK hmono rfl rfl [.ref 0, .int (I i), .int (I n)] [] rfl rfl (Nat.le_of_ble_eq_true rfl) (Nat.le_of_ble_eq_true rfl) rfl (sp_0 (h := h) hG) (CLd_le (Nat.le_of_ble_eq_true rfl) (ctX10_rocksInLaneF hSP hG hS hw hb hml (l := i) (n := n) (by omega) rn)) ?_
      rintro v9 h9 ⟨e9, rfl⟩
      rw [e9, hcl i]
      clear e9
      refine x_istore 57 hK rfl rfl _ rfl ?_
      refine x_iload 59 hK rfl rfl lk1_s ?_
      refine x_iload_n 60 hK rfl rfl (lk1_n l3 (by decide) (Or.inl rfl)) ?_
      refine x_if_icmp_lt 83 63 hK rfl rfl rfl (by omega) (by omega) (fun c20 => ?_) (fun c20 => ?_)
      · refine x_iload 85 hK rfl rfl lk1_s ?_
        refine x_istore_n 86 hK rfl rfl _ rfl ?_
        refine x_iload 88 hK rfl rfl (lk1_n (lk1_n l5 (by decide) (Or.inl rfl)) (by decide) (Or.inl rfl)) ?_
        refine x_istore_n 89 hK rfl rfl _ rfl ?_
        refine x_iinc 92 hK rfl rfl (lk1_n (lk1_n (lk1_n l5 (by decide) (Or.inl rfl)) (by decide) (Or.inl rfl)) (by decide) (Or.inl rfl)) _ rfl ?_
        refine x_goto 41 hK rfl rfl ?_
        have ax0 : b_ = w.2.1 → apt w.2.1 b_ = 0 := fun q => by rw [q]; unfold apt; split <;> omega
        have ai0 : apt w.2.1 i = 0 → i = w.2.1 := fun q => by unfold apt at q; split at q <;> omega
        have bn : BST c w.2.1 (fun l => l = w.2.1 ∨ (0 ≤ l ∧ l < i + 1)) i := by
          intro l hl
          have hl : l = w.2.1 ∨ (0 ≤ l ∧ l < i + 1) := hl
          by_cases y : l = i
          · rw [y]
            exact Or.inr ⟨rfl, Or.inr ⟨rfl, Int.le_refl _⟩⟩
          · have hl2 : l = w.2.1 ∨ (0 ≤ l ∧ l < i) := Or.elim hl Or.inl (fun q => Or.inr ⟨q.1, by omega⟩)
            have z := bs l hl2
            omega
        exact ih _ (by omega) i (c i) u (i + 1) _ rfl (n0) (by omega) (by omega) (rfl) (u0) (by omega) (bn) (lk1_n (lk1_n (lk1_n (lk1_n l0 (by decide) (Or.inl rfl)) (by decide) (Or.inl rfl)) (by decide) (Or.inl rfl)) (by decide) (Or.inl rfl)) (lk1_n (lk1_n (lk1_n (lk1_n l1 (by decide) (Or.inl rfl)) (by decide) (Or.inl rfl)) (by decide) (Or.inl rfl)) (by decide) (Or.inl rfl)) (lk1_n lk1_s (by decide) (Or.inl rfl)) (lk1_n (lk1_n lk1_s (by decide) (Or.inl rfl)) (by decide) (Or.inl rfl)) (lk1_n (lk1_n (lk1_n (lk1_n l4 (by decide) (Or.inl rfl)) (by decide) (Or.inl rfl)) (by decide) (Or.inl rfl)) (by decide) (Or.inl rfl)) lk1_s
      · refine x_iload 65 hK rfl rfl lk1_s ?_
        refine x_iload_n 66 hK rfl rfl (lk1_n l3 (by decide) (Or.inl rfl)) ?_
        refine x_if_icmp_ne 89 69 hK rfl rfl rfl (by omega) (by omega) (fun c30 => ?_) (fun c30 => ?_)
        · refine x_iinc 92 hK rfl rfl (lk1_n l5 (by decide) (Or.inl rfl)) _ rfl ?_
          refine x_goto 41 hK rfl rfl ?_
          have ax0 : b_ = w.2.1 → apt w.2.1 b_ = 0 := fun q => by rw [q]; unfold apt; split <;> omega
          have ai0 : apt w.2.1 i = 0 → i = w.2.1 := fun q => by unfold apt at q; split at q <;> omega
          have bn : BST c w.2.1 (fun l => l = w.2.1 ∨ (0 ≤ l ∧ l < i + 1)) b_ := by
            intro l hl
            have hl : l = w.2.1 ∨ (0 ≤ l ∧ l < i + 1) := hl
            by_cases y : l = i
            · rw [y]
              rcases mb with q | q
              · have q1 := ax0 q
                have q2 := ab i (by omega) (by omega)
                by_cases q3 : apt w.2.1 i = 0
                · have q4 := ai0 q3
                  omega
                · omega
              · omega
            · have hl2 : l = w.2.1 ∨ (0 ≤ l ∧ l < i) := Or.elim hl Or.inl (fun q => Or.inr ⟨q.1, by omega⟩)
              have z := bs l hl2
              omega
          exact ih _ (by omega) b_ f u (i + 1) _ rfl (n0) (by omega) (by omega) (f0) (u0) (by omega) (bn) (lk1_n (lk1_n l0 (by decide) (Or.inl rfl)) (by decide) (Or.inl rfl)) (lk1_n (lk1_n l1 (by decide) (Or.inl rfl)) (by decide) (Or.inl rfl)) (lk1_n (lk1_n l2 (by decide) (Or.inl rfl)) (by decide) (Or.inl rfl)) (lk1_n (lk1_n l3 (by decide) (Or.inl rfl)) (by decide) (Or.inl rfl)) (lk1_n (lk1_n l4 (by decide) (Or.inl rfl)) (by decide) (Or.inl rfl)) lk1_s
        · refine x_aload_n 70 hK rfl rfl (lk1_n l0 (by decide) (Or.inl rfl)) ?_
          refine x_iload 72 hK rfl rfl (lk1_n l5 (by decide) (Or.inl rfl)) ?_
          have az606 := ab i (by omega) (by omega)
          refine x_callV 75 hK hmono rfl rfl [.ref 0, .int (I i)] [] rfl rfl (Nat.le_of_ble_eq_true rfl) (Nat.le_of_ble_eq_true rfl) rfl (sp_0 (h := h) hG) (CLd_le (Nat.le_of_ble_eq_true rfl) (ctX10_apartF hSP hG (l := i) (by omega))) ?_
          rintro v9 h9 ⟨e9, rfl⟩
          rw [e9, k1]
          clear e9
          refine x_aload_n 76 hK rfl rfl (lk1_n l0 (by decide) (Or.inl rfl)) ?_
          refine x_iload_n 77 hK rfl rfl (lk1_n l2 (by decide) (Or.inl rfl)) ?_
          have az607 := ab b_ (by omega) (by omega)
          refine x_callV 80 hK hmono rfl rfl [.ref 0, .int (I b_)] [.int (I (apt w.2.1 i))] rfl rfl (Nat.le_of_ble_eq_true rfl) (Nat.le_of_ble_eq_true rfl) rfl (sp_0 (h := h) hG) (CLd_le (Nat.le_of_ble_eq_true rfl) (ctX10_apartF hSP hG (l := b_) (by omega))) ?_
          rintro v9 h9 ⟨e9, rfl⟩
          rw [e9, k1]
          clear e9
          refine x_if_icmp_ge 89 83 hK rfl rfl rfl (by omega) (by omega) (fun c40 => ?_) (fun c40 => ?_)
          · refine x_iinc 92 hK rfl rfl (lk1_n l5 (by decide) (Or.inl rfl)) _ rfl ?_
            refine x_goto 41 hK rfl rfl ?_
            have ax0 : b_ = w.2.1 → apt w.2.1 b_ = 0 := fun q => by rw [q]; unfold apt; split <;> omega
            have ai0 : apt w.2.1 i = 0 → i = w.2.1 := fun q => by unfold apt at q; split at q <;> omega
            have bn : BST c w.2.1 (fun l => l = w.2.1 ∨ (0 ≤ l ∧ l < i + 1)) b_ := by
              intro l hl
              have hl : l = w.2.1 ∨ (0 ≤ l ∧ l < i + 1) := hl
              by_cases y : l = i
              · rw [y]
                rcases mb with q | q
                · have q1 := ax0 q
                  have q2 := ab i (by omega) (by omega)
                  by_cases q3 : apt w.2.1 i = 0
                  · have q4 := ai0 q3
                    omega
                  · omega
                · omega
              · have hl2 : l = w.2.1 ∨ (0 ≤ l ∧ l < i) := Or.elim hl Or.inl (fun q => Or.inr ⟨q.1, by omega⟩)
                have z := bs l hl2
                omega
            exact ih _ (by omega) b_ f u (i + 1) _ rfl (n0) (by omega) (by omega) (f0) (u0) (by omega) (bn) (lk1_n (lk1_n l0 (by decide) (Or.inl rfl)) (by decide) (Or.inl rfl)) (lk1_n (lk1_n l1 (by decide) (Or.inl rfl)) (by decide) (Or.inl rfl)) (lk1_n (lk1_n l2 (by decide) (Or.inl rfl)) (by decide) (Or.inl rfl)) (lk1_n (lk1_n l3 (by decide) (Or.inl rfl)) (by decide) (Or.inl rfl)) (lk1_n (lk1_n l4 (by decide) (Or.inl rfl)) (by decide) (Or.inl rfl)) lk1_s
          · refine x_iload 85 hK rfl rfl lk1_s ?_
            refine x_istore_n 86 hK rfl rfl _ rfl ?_
            refine x_iload 88 hK rfl rfl (lk1_n (lk1_n l5 (by decide) (Or.inl rfl)) (by decide) (Or.inl rfl)) ?_
            refine x_istore_n 89 hK rfl rfl _ rfl ?_
            refine x_iinc 92 hK rfl rfl (lk1_n (lk1_n (lk1_n l5 (by decide) (Or.inl rfl)) (by decide) (Or.inl rfl)) (by decide) (Or.inl rfl)) _ rfl ?_
            refine x_goto 41 hK rfl rfl ?_
            have ax0 : b_ = w.2.1 → apt w.2.1 b_ = 0 := fun q => by rw [q]; unfold apt; split <;> omega
            have ai0 : apt w.2.1 i = 0 → i = w.2.1 := fun q => by unfold apt at q; split at q <;> omega
            have bn : BST c w.2.1 (fun l => l = w.2.1 ∨ (0 ≤ l ∧ l < i + 1)) i := by
              intro l hl
              have hl : l = w.2.1 ∨ (0 ≤ l ∧ l < i + 1) := hl
              by_cases y : l = i
              · rw [y]
                exact Or.inr ⟨rfl, Or.inr ⟨rfl, Int.le_refl _⟩⟩
              · have hl2 : l = w.2.1 ∨ (0 ≤ l ∧ l < i) := Or.elim hl Or.inl (fun q => Or.inr ⟨q.1, by omega⟩)
                have z := bs l hl2
                omega
            exact ih _ (by omega) i (c i) u (i + 1) _ rfl (n0) (by omega) (by omega) (rfl) (u0) (by omega) (bn) (lk1_n (lk1_n (lk1_n (lk1_n l0 (by decide) (Or.inl rfl)) (by decide) (Or.inl rfl)) (by decide) (Or.inl rfl)) (by decide) (Or.inl rfl)) (lk1_n (lk1_n (lk1_n (lk1_n l1 (by decide) (Or.inl rfl)) (by decide) (Or.inl rfl)) (by decide) (Or.inl rfl)) (by decide) (Or.inl rfl)) (lk1_n lk1_s (by decide) (Or.inl rfl)) (lk1_n (lk1_n lk1_s (by decide) (Or.inl rfl)) (by decide) (Or.inl rfl)) (lk1_n (lk1_n (lk1_n (lk1_n l4 (by decide) (Or.inl rfl)) (by decide) (Or.inl rfl)) (by decide) (Or.inl rfl)) (by decide) (Or.inl rfl)) lk1_s
  refine x_iload_n 1 hK rfl rfl rfl ?_
  refine x_iconst 2 hK rfl rfl ?_
  refine x_if_icmp_lt 12 5 hK rfl rfl rfl (by omega) (by omega) (fun c3 => ?_) (fun c3 => ?_)
  · refine x_iconst 13 hK rfl rfl ?_
    exact x_iret hK rfl ⟨Or.inl ⟨by omega, rfl, rfl⟩, hG, FRM.rf⟩
  · refine x_iload_n 6 hK rfl rfl rfl ?_
    refine x_sipush 9 hK rfl rfl rfl ?_
    refine x_if_icmp_le 14 12 hK rfl rfl rfl (by omega) (by omega) (fun c8 => ?_) (fun c8 => ?_)
    · refine x_aload_n 15 hK rfl rfl rfl ?_
      refine x_getR 18 hK rfl rfl (sp_0 (h := h) hG) (rf_0_10 (h := h) hG) ?_
      refine x_getE 21 hK rfl (Or.inl rfl) rfl (sp_23 (h := h) hG) (e := (w.2.1)) (k1) ?_
      refine x_istore_n 22 hK rfl rfl [(2, .int (I (w.2.1))), (0, .ref 0), (1, .int (I n))] rfl ?_
      refine x_aload_n 23 hK rfl rfl rfl ?_
      refine x_aload_n 24 hK rfl rfl rfl ?_
      refine x_getR 27 hK rfl rfl (sp_0 (h := h) hG) (rf_0_10 (h := h) hG) ?_
      refine x_getE 30 hK rfl (Or.inl rfl) rfl (sp_23 (h := h) hG) (e := (w.2.1)) (k1) ?_
      refine x_iload_n 31 hK rfl rfl rfl ?_
      have cz608 := cb (w.2.1)
      refine x_callV 34 hK hmono rfl rfl [.ref 0, .int (I (w.2.1)), .int (I n)] [] rfl rfl (Nat.le_of_ble_eq_true rfl) (Nat.le_of_ble_eq_true rfl) rfl (sp_0 (h := h) hG) (CLd_le (Nat.le_of_ble_eq_true rfl) (ctX10_rocksInLaneF hSP hG hS hw hb hml (l := (w.2.1)) (n := n) (by omega) rn)) ?_
      rintro v9 h9 ⟨e9, rfl⟩
      rw [e9, hcl (w.2.1)]
      clear e9
      refine x_istore_n 35 hK rfl rfl [(3, .int (I (c (w.2.1)))), (2, .int (I (w.2.1))), (0, .ref 0), (1, .int (I n))] rfl ?_
      refine x_iload_n 36 hK rfl rfl rfl ?_
      refine x_istore 38 hK rfl rfl [(4, .int (I (c (w.2.1)))), (3, .int (I (c (w.2.1)))), (2, .int (I (w.2.1))), (0, .ref 0), (1, .int (I n))] rfl ?_
      refine x_iconst 39 hK rfl rfl ?_
      refine x_istore 41 hK rfl rfl [(5, .int (I 0)), (4, .int (I (c (w.2.1)))), (3, .int (I (c (w.2.1)))), (2, .int (I (w.2.1))), (0, .ref 0), (1, .int (I n))] rfl ?_
      exact loop _ (w.2.1) (c (w.2.1)) (c (w.2.1)) 0 _ rfl (⟨by omega, by omega⟩) (by omega) (by omega) (rfl) (rfl) (by omega) (fun l hl => by
        rcases hl with q | q
        · rw [q]; exact Or.inr ⟨rfl, Or.inr ⟨rfl, Int.le_refl _⟩⟩
        · omega) rfl rfl rfl rfl rfl rfl
    · refine x_iconst 13 hK rfl rfl ?_
      exact x_iret hK rfl ⟨Or.inl ⟨by omega, rfl, rfl⟩, hG, FRM.rf⟩
set_option maxRecDepth 4000 in
theorem ctX11_rocksInF {SP : CT} (hSP : MONO SP) {sh : List (Nat × Nat)} {h : aH} (hG : GD gE gRL sh h) (h0 : 0 ≤ gi h 178 0 ∧ gi h 178 0 ≤ 1000000) {l n : Int} (rl : r32 l) (rn : r32 n) : CLd SP 2 mX11_rocksIn [.ref 171, .int (I l), .int (I n)] h 0 0 (fun rv h' => h' = h ∧ rv = some (.int (I (rkN (gi h 175) (gi h 176) (gi h 178 0) n l (gi h 171 6).toNat)))) := by
  refine x_met _ rfl (Nat.le_of_ble_eq_true rfl) (fun K hK => ?_)
  have hmono := MONO_CLd hSP 1
  have g6 := gri 0 16 hG (a := 171) (r := 54) (k := 6) rfl rfl
  have loop : ∀ (mz : Nat) (c i : Int) (ls : List (Nat × Value)), ((gi h 171 6 - i).toNat = mz) → (0 ≤ i ∧ i ≤ gi h 171 6) → (c = (rkN (gi h 175) (gi h 176) (gi h 178 0) n l i.toNat)) → lk ls 0 = some (.ref 171) → lk ls 1 = some (.int (I l)) → lk ls 2 = some (.int (I n)) → lk ls 3 = some (.int (I c)) → lk ls 4 = some (.int (I i)) → K 5 ls [] h 0 0 := by
    intro mz
    induction mz using Nat.strongRecOn with
    | ind mz ih =>
    intro c i ls hm i0 c0 l0 l1 l2 l3 l4
    have cb := rkN_b (gi h 175) (gi h 176) (gi h 178 0) n l i.toNat
    refine x_iload 7 hK rfl rfl l4 ?_
    refine x_aload_n 8 hK rfl rfl l0 ?_
    have g609 := gri (0) (16) hG (a := 171) (r := 54) (k := 6) rfl rfl
    refine x_getE 11 hK rfl (Or.inl rfl) rfl (sp_171 (h := h) hG) (e := (gi h 171 6)) (rfl) ?_
    refine x_if_icmp_ge 75 14 hK rfl rfl rfl (by omega) (by omega) (fun c4 => ?_) (fun c4 => ?_)
    · refine x_iload_n 76 hK rfl rfl l3 ?_
      exact x_iret hK rfl ⟨rfl, by rw [c0, show i.toNat = (gi h 171 6).toNat by omega]⟩
    · refine x_iload_n 15 hK rfl rfl l3 ?_
      refine x_aload_n 16 hK rfl rfl l0 ?_
      refine x_getR 19 hK rfl rfl (sp_171 (h := h) hG) (rf_171_12 (h := h) hG) ?_
      refine x_iload 21 hK rfl rfl l4 ?_
      have g610 := gi_r h 176 i.toNat
      refine x_ialoadE 22 hK rfl rfl (sp_176 (h := h) hG) (by omega) (by omega) (by omega) (e' := (gi h 176 i.toNat)) (rfl) ?_
      refine x_iload_n 23 hK rfl rfl l1 ?_
      refine x_if_icmp_ne 63 26 hK rfl rfl rfl (by omega) (by omega) (fun c13 => ?_) (fun c13 => ?_)
      · refine x_iconst 64 hK rfl rfl ?_
        refine x_callS 67 hK hmono rfl (Or.inl rfl) rfl [.int (I 0)] [.int (I c)] rfl rfl (Nat.le_of_ble_eq_true rfl) (Nat.le_of_ble_eq_true rfl) (CLd_le (Nat.le_of_ble_eq_true rfl) (ctX11_flag (by omega))) ?_
        rintro v9 h9 ⟨e9, rfl⟩
        rw [e9]
        clear e9
        refine x_iadd 68 hK rfl rfl ?_
        refine x_istore_n 69 hK rfl rfl _ rfl ?_
        refine x_iinc 72 hK rfl rfl (lk1_n l4 (by decide) (Or.inl rfl)) _ rfl ?_
        refine x_goto 5 hK rfl rfl ?_
        exact ih _ (by omega) (c + 0) (i + 1) _ rfl (by omega) (by rw [rkN_s i0.1, if_neg (by omega), c0]) (lk1_n (lk1_n l0 (by decide) (Or.inl rfl)) (by decide) (Or.inl rfl)) (lk1_n (lk1_n l1 (by decide) (Or.inl rfl)) (by decide) (Or.inl rfl)) (lk1_n (lk1_n l2 (by decide) (Or.inl rfl)) (by decide) (Or.inl rfl)) (lk1_n lk1_s (by decide) (Or.inl rfl)) lk1_s
      · refine x_aload_n 27 hK rfl rfl l0 ?_
        refine x_getR 30 hK rfl rfl (sp_171 (h := h) hG) (rf_171_11 (h := h) hG) ?_
        refine x_iload 32 hK rfl rfl l4 ?_
        have g612 := grn (0) (999) hG (a := 175) (r := 58) (k := i.toNat) rfl rfl (by omega)
        refine x_ialoadE 33 hK rfl rfl (sp_175 (h := h) hG) (by omega) (by omega) (by omega) (e' := (gi h 175 i.toNat)) (rfl) ?_
        refine x_i2l 34 hK rfl rfl (by omega) ?_
        refine x_aload_n 35 hK rfl rfl l0 ?_
        refine x_getR 38 hK rfl rfl (sp_171 (h := h) hG) (rf_171_14 (h := h) hG) ?_
        refine x_iconst 39 hK rfl rfl ?_
        have g613 := gi_r h 178 0
        refine x_ialoadE 40 hK rfl rfl (sp_178 (h := h) hG) (by omega) (by omega) (by omega) (e' := (gi h 178 0)) (rfl) ?_
        refine x_iconst 41 hK rfl rfl ?_
        refine x_iadd 42 hK rfl rfl ?_
        refine x_i2l 43 hK rfl rfl (by omega) ?_
        refine x_aload_n 44 hK rfl rfl l0 ?_
        refine x_getR 47 hK rfl rfl (sp_171 (h := h) hG) (rf_171_14 (h := h) hG) ?_
        refine x_iconst 48 hK rfl rfl ?_
        refine x_ialoadE 49 hK rfl rfl (sp_178 (h := h) hG) (by omega) (by omega) (by omega) (e' := (gi h 178 0)) (rfl) ?_
        refine x_i2l 50 hK rfl rfl (by omega) ?_
        refine x_iload_n 51 hK rfl rfl l2 ?_
        refine x_i2l 52 hK rfl rfl (by omega) ?_
        refine x_ladd 53 hK rfl rfl ?_
        refine x_callS 56 hK hmono rfl (Or.inl rfl) rfl [.long (J (gi h 175 i.toNat)), .long (J ((gi h 178 0) + 1)), .long (J ((gi h 178 0) + n))] [.int (I c)] rfl rfl (Nat.le_of_ble_eq_true rfl) (Nat.le_of_ble_eq_true rfl) (CLd_le (Nat.le_of_ble_eq_true rfl) (ctX11_in (by omega) (by omega) (by omega))) ?_
        rintro v9 h9 ⟨e9, ⟨rfl, i1614, i2614⟩ | ⟨rfl, i1614⟩⟩ <;> rw [e9] <;> clear e9
        · refine x_if_eq 63 59 hK rfl rfl rfl (by omega) (fun c => by omega) (fun _ => ?_)
          refine x_iconst 60 hK rfl rfl ?_
          refine x_goto 64 hK rfl rfl ?_
          refine x_callS 67 hK hmono rfl (Or.inl rfl) rfl [.int (I 1)] [.int (I c)] rfl rfl (Nat.le_of_ble_eq_true rfl) (Nat.le_of_ble_eq_true rfl) (CLd_le (Nat.le_of_ble_eq_true rfl) (ctX11_flag (by omega))) ?_
          rintro v9 h9 ⟨e9, rfl⟩
          rw [e9]
          clear e9
          refine x_iadd 68 hK rfl rfl ?_
          refine x_istore_n 69 hK rfl rfl _ rfl ?_
          refine x_iinc 72 hK rfl rfl (lk1_n l4 (by decide) (Or.inl rfl)) _ rfl ?_
          refine x_goto 5 hK rfl rfl ?_
          exact ih _ (by omega) (c + 1) (i + 1) _ rfl (by omega) (by rw [rkN_s i0.1, if_pos (by omega), c0]) (lk1_n (lk1_n l0 (by decide) (Or.inl rfl)) (by decide) (Or.inl rfl)) (lk1_n (lk1_n l1 (by decide) (Or.inl rfl)) (by decide) (Or.inl rfl)) (lk1_n (lk1_n l2 (by decide) (Or.inl rfl)) (by decide) (Or.inl rfl)) (lk1_n lk1_s (by decide) (Or.inl rfl)) lk1_s
        · refine x_if_eq 63 59 hK rfl rfl rfl (by omega) (fun _ => ?_) (fun c => by omega)
          refine x_iconst 64 hK rfl rfl ?_
          refine x_callS 67 hK hmono rfl (Or.inl rfl) rfl [.int (I 0)] [.int (I c)] rfl rfl (Nat.le_of_ble_eq_true rfl) (Nat.le_of_ble_eq_true rfl) (CLd_le (Nat.le_of_ble_eq_true rfl) (ctX11_flag (by omega))) ?_
          rintro v9 h9 ⟨e9, rfl⟩
          rw [e9]
          clear e9
          refine x_iadd 68 hK rfl rfl ?_
          refine x_istore_n 69 hK rfl rfl _ rfl ?_
          refine x_iinc 72 hK rfl rfl (lk1_n l4 (by decide) (Or.inl rfl)) _ rfl ?_
          refine x_goto 5 hK rfl rfl ?_
          exact ih _ (by omega) (c + 0) (i + 1) _ rfl (by omega) (by rw [rkN_s i0.1, if_neg (by omega), c0]) (lk1_n (lk1_n l0 (by decide) (Or.inl rfl)) (by decide) (Or.inl rfl)) (lk1_n (lk1_n l1 (by decide) (Or.inl rfl)) (by decide) (Or.inl rfl)) (lk1_n (lk1_n l2 (by decide) (Or.inl rfl)) (by decide) (Or.inl rfl)) (lk1_n lk1_s (by decide) (Or.inl rfl)) lk1_s
  refine x_iconst 1 hK rfl rfl ?_
  refine x_istore_n 2 hK rfl rfl [(3, .int (I 0)), (0, .ref 171), (1, .int (I l)), (2, .int (I n))] rfl ?_
  refine x_iconst 3 hK rfl rfl ?_
  refine x_istore 5 hK rfl rfl [(4, .int (I 0)), (3, .int (I 0)), (0, .ref 171), (1, .int (I l)), (2, .int (I n))] rfl ?_
  exact loop _ 0 0 _ rfl (by omega) (rfl) rfl rfl rfl rfl rfl
set_option maxRecDepth 4000 in
theorem ctX11_safestF {SP : CT} (hSP : MONO SP) {sh : List (Nat × Nat)} {h : aH} (hG : GD gE gRL sh h) (h0 : 0 ≤ gi h 178 0 ∧ gi h 178 0 ≤ 1000000) {n : Int} (rn : r32 n) : CLd SP 4 mX11_safest [.ref 171, .int (I n)] h 0 0 (fun rv h' => ((¬ (1 ≤ n ∧ n ≤ 999) ∧ rv = some (.int (I (-1))) ∧ mrow h' = mrow h ∧ gi h' 171 1 = gi h 171 1) ∨ ((1 ≤ n ∧ n ≤ 999) ∧ ∃ e : Int, rv = some (.int (I e)) ∧ (0 ≤ e ∧ e ≤ 8) ∧ BST (fun l => (rkN (gi h 175) (gi h 176) (gi h 178 0) n l (gi h 171 6).toNat)) (gi h 178 1) (fun l => 0 ≤ l ∧ l ≤ 8) e ∧ mrow h' = [(rkN (gi h 175) (gi h 176) (gi h 178 0) n e (gi h 171 6).toNat), (rkN (gi h 175) (gi h 176) (gi h 178 0) n (gi h 178 1) (gi h 171 6).toNat)])) ∧ GD gE gRL sh h' ∧ FRM gRL [(0, 54, 0, 0), (0, 54, 1, 1), (1, 55, 0, 39)] h h') := by
  refine x_met _ rfl (Nat.le_of_ble_eq_true rfl) (fun K hK => ?_)
  have hmono := MONO_CLd hSP 3
  have g6 := gri 0 16 hG (a := 171) (r := 54) (k := 6) rfl rfl
  have gl := gri 0 8 hG (a := 178) (r := 61) (k := 1) rfl rfl
  obtain ⟨c, hc⟩ : ∃ c : Int → Int, c = (fun l => (rkN (gi h 175) (gi h 176) (gi h 178 0) n l (gi h 171 6).toNat)) := ⟨_, rfl⟩
  have hcl : ∀ l, (rkN (gi h 175) (gi h 176) (gi h 178 0) n l (gi h 171 6).toNat) = c l := fun l => by rw [hc]
  rw [← hc] at hK
  simp only [hcl] at hK
  have cb : ∀ l, 0 ≤ c l ∧ c l ≤ 16 := fun l => by have z := rkN_b (gi h 175) (gi h 176) (gi h 178 0) n l (gi h 171 6).toNat; rw [hcl] at z; omega
  have loop : ∀ (mz : Nat) (b_ i : Int) (h4 : aH) (ls : List (Nat × Value)), ((9 - i).toNat = mz) → (1 ≤ n ∧ n ≤ 999) → (1 ≤ i ∧ i ≤ 9) → (0 ≤ b_ ∧ b_ < i) → (BST c (gi h 178 1) (fun l => 0 ≤ l ∧ l < i) b_) → (mrow h4 = mrow h) → (gi h4 171 1 = gi h 171 1) → lk ls 0 = some (.ref 171) → lk ls 1 = some (.int (I n)) → lk ls 2 = some (.int (I b_)) → lk ls 3 = some (.int (I i)) → GD gE gRL sh h4 → FRM gRL [(0, 54, 0, 0), (0, 54, 1, 1), (1, 55, 0, 39)] h h4 → K 23 ls [] h4 0 0 := by
    intro mz
    induction mz using Nat.strongRecOn with
    | ind mz ih =>
    intro b_ i h4 ls hm n0 i0 b0 bs rw4 r14 l0 l1 l2 l3 hG4 hF4
    have ci := cb i
    have cbb := cb b_
    have ab : ∀ l, 0 ≤ l → l ≤ 8 → 0 ≤ apt (gi h 178 1) l ∧ apt (gi h 178 1) l ≤ 8 := fun l h1 h2 => by unfold apt; split <;> omega
    have ai := ab i
    have abb := ab b_
    refine x_iload_n 24 hK rfl rfl l3 ?_
    refine x_bipush 26 hK rfl rfl rfl ?_
    refine x_if_icmp_ge 96 29 hK rfl rfl rfl (by omega) (by omega) (fun c3 => ?_) (fun c3 => ?_)
    · refine x_aload_n 97 hK rfl rfl l0 ?_
      refine x_iconst 98 hK rfl rfl ?_
      refine x_putI 101 hK rfl rfl (sp_171 (h := h4) hG4) ?_
      refine x_aload_n 102 hK rfl rfl l0 ?_
      refine x_aload_n 103 hK rfl rfl l0 ?_
      refine x_iload_n 104 hK rfl rfl l2 ?_
      refine x_iload_n 105 hK rfl rfl l1 ?_
      have hGp618 : GD gE gRL sh (wI h4 171 1 0) := GD_w1 (hG4) (r := 54) rfl (by omega) rfl (by omega) (by omega)
      have cz617 := cb b_
      have ez617 : rkN (gi (wI h4 171 1 0) 175) (gi (wI h4 171 1 0) 176) (gi (wI h4 171 1 0) 178 0) n b_ (gi (wI h4 171 1 0) 171 6).toNat = c b_ := by rw [← hcl, show gi (wI h4 171 1 0) 175 = gi h 175 from funext fun j => (gi_a (by decide) _).trans (FRM_gi hF4 (r := 58) rfl rfl), show gi (wI h4 171 1 0) 176 = gi h 176 from funext fun j => (gi_a (by decide) _).trans (FRM_gi hF4 (r := 59) rfl rfl), show gi (wI h4 171 1 0) 178 0 = gi h 178 0 from (gi_a (by decide) _).trans (FRM_gi hF4 (r := 61) rfl rfl), show gi (wI h4 171 1 0) 171 6 = gi h 171 6 from (gi_k (by decide) _).trans (FRM_gi hF4 (r := 54) rfl rfl)]
      refine x_callV 108 hK hmono rfl rfl [.ref 171, .int (I b_), .int (I n)] [.ref 171] rfl rfl (Nat.le_of_ble_eq_true rfl) (Nat.le_of_ble_eq_true rfl) rfl (sp_171 (h := h4) hG4) (CLd_le (Nat.le_of_ble_eq_true rfl) (ctX11_rocksInF hSP hGp618 (by rw [show gi (wI h4 171 1 0) 178 0 = gi h 178 0 from (gi_a (by decide) _).trans (FRM_gi hF4 (r := 61) rfl rfl)]; exact h0) (l := b_) (n := n) (by omega) rn)) ?_
      rintro v9 h9 ⟨e9, rfl⟩
      rw [e9, ez617]
      clear e9
      refine x_i2l 109 hK rfl rfl (by omega) ?_
      have hGp619 : GD gE gRL sh (wI h4 171 1 0) := GD_w1 (hG4) (r := 54) rfl (by omega) rfl (by omega) (by omega)
      have z621 : gi (wI h4 171 1 0) 171 1 = 0 := gi_same (by omega)
      have z621r : mrow (wI h4 171 1 0) = [] := mrow_0 (gi_same (by omega))
      refine x_callV 112 hK hmono rfl rfl [.ref 171, .long (J (c b_))] [] rfl rfl (Nat.le_of_ble_eq_true rfl) (Nat.le_of_ble_eq_true rfl) rfl (sp_171 (h := h4) hG4) (CLd_le (Nat.le_of_ble_eq_true rfl) (ctX11_entersF hSP hGp619 (by omega) (by omega))) ?_
      rintro v620 h620 ⟨rfl, hG620, hF620, t620, s620⟩
      rw [z621] at t620
      rw [z621r] at s620
      replace t620 : gi h620 171 1 = 1 := t620
      change mrow h620 = [(c b_)] at s620
      refine x_aload_n 113 hK rfl rfl l0 ?_
      refine x_aload_n 114 hK rfl rfl l0 ?_
      refine x_aload_n 115 hK rfl rfl l0 ?_
      refine x_getR 118 hK rfl rfl (sp_171 (h := h620) hG620) (rf_171_14 (h := h620) hG620) ?_
      refine x_iconst 119 hK rfl rfl ?_
      have g622 := gri (0) (8) hG (a := 178) (r := 61) (k := 1) rfl rfl
      refine x_ialoadE 120 hK rfl rfl (sp_178 (h := h620) hG620) (by omega) (by omega) (by omega) (e' := (gi h 178 1)) ((FRM_gi hF620 (r := 61) rfl rfl).trans ((gi_a (by decide) _).trans (FRM_gi hF4 (r := 61) rfl rfl))) ?_
      refine x_iload_n 121 hK rfl rfl l1 ?_
      have cz623 := cb (gi h 178 1)
      have ez623 : rkN (gi h620 175) (gi h620 176) (gi h620 178 0) n (gi h 178 1) (gi h620 171 6).toNat = c (gi h 178 1) := by rw [← hcl, show gi h620 175 = gi h 175 from funext fun j => (FRM_gi hF620 (r := 58) rfl rfl).trans ((gi_a (by decide) _).trans (FRM_gi hF4 (r := 58) rfl rfl)), show gi h620 176 = gi h 176 from funext fun j => (FRM_gi hF620 (r := 59) rfl rfl).trans ((gi_a (by decide) _).trans (FRM_gi hF4 (r := 59) rfl rfl)), show gi h620 178 0 = gi h 178 0 from (FRM_gi hF620 (r := 61) rfl rfl).trans ((gi_a (by decide) _).trans (FRM_gi hF4 (r := 61) rfl rfl)), show gi h620 171 6 = gi h 171 6 from (FRM_gi hF620 (r := 54) rfl rfl).trans ((gi_k (by decide) _).trans (FRM_gi hF4 (r := 54) rfl rfl))]
      refine x_callV 124 hK hmono rfl rfl [.ref 171, .int (I (gi h 178 1)), .int (I n)] [.ref 171] rfl rfl (Nat.le_of_ble_eq_true rfl) (Nat.le_of_ble_eq_true rfl) rfl (sp_171 (h := h620) hG620) (CLd_le (Nat.le_of_ble_eq_true rfl) (ctX11_rocksInF hSP hG620 (by rw [show gi h620 178 0 = gi h 178 0 from (FRM_gi hF620 (r := 61) rfl rfl).trans ((gi_a (by decide) _).trans (FRM_gi hF4 (r := 61) rfl rfl))]; exact h0) (l := (gi h 178 1)) (n := n) (by omega) rn)) ?_
      rintro v9 h9 ⟨e9, rfl⟩
      rw [e9, ez623]
      clear e9
      refine x_i2l 125 hK rfl rfl (by omega) ?_
      have z625 : gi h620 171 1 = 1 := t620
      have z625r : mrow h620 = [(c b_)] := s620
      refine x_callV 128 hK hmono rfl rfl [.ref 171, .long (J (c (gi h 178 1)))] [] rfl rfl (Nat.le_of_ble_eq_true rfl) (Nat.le_of_ble_eq_true rfl) rfl (sp_171 (h := h620) hG620) (CLd_le (Nat.le_of_ble_eq_true rfl) (ctX11_entersF hSP hG620 (by omega) (by omega))) ?_
      rintro v624 h624 ⟨rfl, hG624, hF624, t624, s624⟩
      rw [z625] at t624
      rw [z625r] at s624
      replace t624 : gi h624 171 1 = 2 := t624
      change mrow h624 = [(c b_), (c (gi h 178 1))] at s624
      refine x_iload_n 129 hK rfl rfl l2 ?_
      have bf : BST c (gi h 178 1) (fun l => 0 ≤ l ∧ l ≤ 8) b_ := fun l hl => bs l ⟨hl.1, by omega⟩
      exact x_iret hK rfl ⟨Or.inr ⟨n0, b_, rfl, by omega, bf, s624⟩, hG624, ((FRM_w (hF4) (r := 54) rfl rfl).trans ((hF620).mono rfl)).trans ((hF624).mono rfl)⟩
    · refine x_aload_n 30 hK rfl rfl l0 ?_
      refine x_iload_n 31 hK rfl rfl l3 ?_
      refine x_iload_n 32 hK rfl rfl l1 ?_
      have cz626 := cb i
      have ez626 : rkN (gi h4 175) (gi h4 176) (gi h4 178 0) n i (gi h4 171 6).toNat = c i := by rw [← hcl, show gi h4 175 = gi h 175 from funext fun j => FRM_gi hF4 (r := 58) rfl rfl, show gi h4 176 = gi h 176 from funext fun j => FRM_gi hF4 (r := 59) rfl rfl, show gi h4 178 0 = gi h 178 0 from FRM_gi hF4 (r := 61) rfl rfl, show gi h4 171 6 = gi h 171 6 from FRM_gi hF4 (r := 54) rfl rfl]
      refine x_callV 35 hK hmono rfl rfl [.ref 171, .int (I i), .int (I n)] [] rfl rfl (Nat.le_of_ble_eq_true rfl) (Nat.le_of_ble_eq_true rfl) rfl (sp_171 (h := h4) hG4) (CLd_le (Nat.le_of_ble_eq_true rfl) (ctX11_rocksInF hSP hG4 (by rw [show gi h4 178 0 = gi h 178 0 from FRM_gi hF4 (r := 61) rfl rfl]; exact h0) (l := i) (n := n) (by omega) rn)) ?_
      rintro v9 h9 ⟨e9, rfl⟩
      rw [e9, ez626]
      clear e9
      refine x_aload_n 36 hK rfl rfl l0 ?_
      refine x_iload_n 37 hK rfl rfl l2 ?_
      refine x_iload_n 38 hK rfl rfl l1 ?_
      have cz627 := cb b_
      have ez627 : rkN (gi h4 175) (gi h4 176) (gi h4 178 0) n b_ (gi h4 171 6).toNat = c b_ := by rw [← hcl, show gi h4 175 = gi h 175 from funext fun j => FRM_gi hF4 (r := 58) rfl rfl, show gi h4 176 = gi h 176 from funext fun j => FRM_gi hF4 (r := 59) rfl rfl, show gi h4 178 0 = gi h 178 0 from FRM_gi hF4 (r := 61) rfl rfl, show gi h4 171 6 = gi h 171 6 from FRM_gi hF4 (r := 54) rfl rfl]
      refine x_callV 41 hK hmono rfl rfl [.ref 171, .int (I b_), .int (I n)] [.int (I (c i))] rfl rfl (Nat.le_of_ble_eq_true rfl) (Nat.le_of_ble_eq_true rfl) rfl (sp_171 (h := h4) hG4) (CLd_le (Nat.le_of_ble_eq_true rfl) (ctX11_rocksInF hSP hG4 (by rw [show gi h4 178 0 = gi h 178 0 from FRM_gi hF4 (r := 61) rfl rfl]; exact h0) (l := b_) (n := n) (by omega) rn)) ?_
      rintro v9 h9 ⟨e9, rfl⟩
      rw [e9, ez627]
      clear e9
      refine x_isub 42 hK rfl rfl ?_
      refine x_istore 44 hK rfl rfl _ rfl ?_
      refine x_iload_n 45 hK rfl rfl (lk1_n l3 (by decide) (Or.inl rfl)) ?_
      refine x_aload_n 46 hK rfl rfl (lk1_n l0 (by decide) (Or.inl rfl)) ?_
      refine x_getR 49 hK rfl rfl (sp_171 (h := h4) hG4) (rf_171_14 (h := h4) hG4) ?_
      refine x_iconst 50 hK rfl rfl ?_
      have g628 := gri (0) (8) hG (a := 178) (r := 61) (k := 1) rfl rfl
      refine x_ialoadE 51 hK rfl rfl (sp_178 (h := h4) hG4) (by omega) (by omega) (by omega) (e' := (gi h 178 1)) (FRM_gi hF4 (r := 61) rfl rfl) ?_
      refine x_isub 52 hK rfl rfl ?_
      refine x_abs 55 hK rfl rfl (Nat.le_of_ble_eq_true rfl) (by omega) ?_
      refine x_iload_n 56 hK rfl rfl (lk1_n l2 (by decide) (Or.inl rfl)) ?_
      refine x_aload_n 57 hK rfl rfl (lk1_n l0 (by decide) (Or.inl rfl)) ?_
      refine x_getR 60 hK rfl rfl (sp_171 (h := h4) hG4) (rf_171_14 (h := h4) hG4) ?_
      refine x_iconst 61 hK rfl rfl ?_
      refine x_ialoadE 62 hK rfl rfl (sp_178 (h := h4) hG4) (by omega) (by omega) (by omega) (e' := (gi h 178 1)) (FRM_gi hF4 (r := 61) rfl rfl) ?_
      refine x_isub 63 hK rfl rfl ?_
      refine x_abs 66 hK rfl rfl (Nat.le_of_ble_eq_true rfl) (by omega) ?_
      refine x_isub 67 hK rfl rfl ?_
      refine x_istore 69 hK rfl rfl _ rfl ?_
      refine x_iload 71 hK rfl rfl (lk1_n lk1_s (by decide) (Or.inl rfl)) ?_
      refine x_if_lt 84 74 hK rfl rfl rfl (by omega) (fun c53 => ?_) (fun c53 => ?_)
      · refine x_iload_n 85 hK rfl rfl (lk1_n (lk1_n l3 (by decide) (Or.inl rfl)) (by decide) (Or.inl rfl)) ?_
        refine x_goto 89 hK rfl rfl ?_
        refine x_istore_n 90 hK rfl rfl _ rfl ?_
        refine x_iinc 93 hK rfl rfl (lk1_n (lk1_n (lk1_n l3 (by decide) (Or.inl rfl)) (by decide) (Or.inl rfl)) (by decide) (Or.inl rfl)) _ rfl ?_
        refine x_goto 23 hK rfl rfl ?_
        unfold apt at ai abb
        have ei : apt (gi h 178 1) i = (if 0 ≤ i - gi h 178 1 then i - gi h 178 1 else -(i - gi h 178 1)) := rfl
        have eb : apt (gi h 178 1) b_ = (if 0 ≤ b_ - gi h 178 1 then b_ - gi h 178 1 else -(b_ - gi h 178 1)) := rfl
        have bn : BST c (gi h 178 1) (fun l => 0 ≤ l ∧ l < i + 1) i := by
          intro l hl
          have hl : 0 ≤ l ∧ l < i + 1 := hl
          by_cases y : l = i
          · rw [y]
            exact Or.inr ⟨rfl, Or.inr ⟨rfl, Int.le_refl _⟩⟩
          · have hl2 : 0 ≤ l ∧ l < i := by omega
            have z := bs l hl2
            omega
        exact ih _ (by omega) i (i + 1) _ _ rfl (n0) (by omega) (by omega) (bn) (rw4) (r14) (lk1_n (lk1_n (lk1_n (lk1_n l0 (by decide) (Or.inl rfl)) (by decide) (Or.inl rfl)) (by decide) (Or.inl rfl)) (by decide) (Or.inl rfl)) (lk1_n (lk1_n (lk1_n (lk1_n l1 (by decide) (Or.inl rfl)) (by decide) (Or.inl rfl)) (by decide) (Or.inl rfl)) (by decide) (Or.inl rfl)) (lk1_n lk1_s (by decide) (Or.inl rfl)) lk1_s (hG4) (hF4)
      · refine x_iload 76 hK rfl rfl (lk1_n lk1_s (by decide) (Or.inl rfl)) ?_
        refine x_if_ne 88 79 hK rfl rfl rfl (by omega) (fun c61 => ?_) (fun c61 => ?_)
        · refine x_iload_n 89 hK rfl rfl (lk1_n (lk1_n l2 (by decide) (Or.inl rfl)) (by decide) (Or.inl rfl)) ?_
          refine x_istore_n 90 hK rfl rfl _ rfl ?_
          refine x_iinc 93 hK rfl rfl (lk1_n (lk1_n (lk1_n l3 (by decide) (Or.inl rfl)) (by decide) (Or.inl rfl)) (by decide) (Or.inl rfl)) _ rfl ?_
          refine x_goto 23 hK rfl rfl ?_
          unfold apt at ai abb
          have ei : apt (gi h 178 1) i = (if 0 ≤ i - gi h 178 1 then i - gi h 178 1 else -(i - gi h 178 1)) := rfl
          have eb : apt (gi h 178 1) b_ = (if 0 ≤ b_ - gi h 178 1 then b_ - gi h 178 1 else -(b_ - gi h 178 1)) := rfl
          have bn : BST c (gi h 178 1) (fun l => 0 ≤ l ∧ l < i + 1) b_ := by
            intro l hl
            have hl : 0 ≤ l ∧ l < i + 1 := hl
            by_cases y : l = i
            · rw [y]
              omega
            · have hl2 : 0 ≤ l ∧ l < i := by omega
              have z := bs l hl2
              omega
          exact ih _ (by omega) b_ (i + 1) _ _ rfl (n0) (by omega) (by omega) (bn) (rw4) (r14) (lk1_n (lk1_n (lk1_n (lk1_n l0 (by decide) (Or.inl rfl)) (by decide) (Or.inl rfl)) (by decide) (Or.inl rfl)) (by decide) (Or.inl rfl)) (lk1_n (lk1_n (lk1_n (lk1_n l1 (by decide) (Or.inl rfl)) (by decide) (Or.inl rfl)) (by decide) (Or.inl rfl)) (by decide) (Or.inl rfl)) (lk1_n lk1_s (by decide) (Or.inl rfl)) lk1_s (hG4) (hF4)
        · refine x_iload 81 hK rfl rfl lk1_s ?_
          refine x_if_ge 88 84 hK rfl rfl rfl (by omega) (fun c68 => ?_) (fun c68 => ?_)
          · refine x_iload_n 89 hK rfl rfl (lk1_n (lk1_n l2 (by decide) (Or.inl rfl)) (by decide) (Or.inl rfl)) ?_
            refine x_istore_n 90 hK rfl rfl _ rfl ?_
            refine x_iinc 93 hK rfl rfl (lk1_n (lk1_n (lk1_n l3 (by decide) (Or.inl rfl)) (by decide) (Or.inl rfl)) (by decide) (Or.inl rfl)) _ rfl ?_
            refine x_goto 23 hK rfl rfl ?_
            unfold apt at ai abb
            have ei : apt (gi h 178 1) i = (if 0 ≤ i - gi h 178 1 then i - gi h 178 1 else -(i - gi h 178 1)) := rfl
            have eb : apt (gi h 178 1) b_ = (if 0 ≤ b_ - gi h 178 1 then b_ - gi h 178 1 else -(b_ - gi h 178 1)) := rfl
            have bn : BST c (gi h 178 1) (fun l => 0 ≤ l ∧ l < i + 1) b_ := by
              intro l hl
              have hl : 0 ≤ l ∧ l < i + 1 := hl
              by_cases y : l = i
              · rw [y]
                omega
              · have hl2 : 0 ≤ l ∧ l < i := by omega
                have z := bs l hl2
                omega
            exact ih _ (by omega) b_ (i + 1) _ _ rfl (n0) (by omega) (by omega) (bn) (rw4) (r14) (lk1_n (lk1_n (lk1_n (lk1_n l0 (by decide) (Or.inl rfl)) (by decide) (Or.inl rfl)) (by decide) (Or.inl rfl)) (by decide) (Or.inl rfl)) (lk1_n (lk1_n (lk1_n (lk1_n l1 (by decide) (Or.inl rfl)) (by decide) (Or.inl rfl)) (by decide) (Or.inl rfl)) (by decide) (Or.inl rfl)) (lk1_n lk1_s (by decide) (Or.inl rfl)) lk1_s (hG4) (hF4)
          · refine x_iload_n 85 hK rfl rfl (lk1_n (lk1_n l3 (by decide) (Or.inl rfl)) (by decide) (Or.inl rfl)) ?_
            refine x_goto 89 hK rfl rfl ?_
            refine x_istore_n 90 hK rfl rfl _ rfl ?_
            refine x_iinc 93 hK rfl rfl (lk1_n (lk1_n (lk1_n l3 (by decide) (Or.inl rfl)) (by decide) (Or.inl rfl)) (by decide) (Or.inl rfl)) _ rfl ?_
            refine x_goto 23 hK rfl rfl ?_
            unfold apt at ai abb
            have ei : apt (gi h 178 1) i = (if 0 ≤ i - gi h 178 1 then i - gi h 178 1 else -(i - gi h 178 1)) := rfl
            have eb : apt (gi h 178 1) b_ = (if 0 ≤ b_ - gi h 178 1 then b_ - gi h 178 1 else -(b_ - gi h 178 1)) := rfl
            have bn : BST c (gi h 178 1) (fun l => 0 ≤ l ∧ l < i + 1) i := by
              intro l hl
              have hl : 0 ≤ l ∧ l < i + 1 := hl
              by_cases y : l = i
              · rw [y]
                exact Or.inr ⟨rfl, Or.inr ⟨rfl, Int.le_refl _⟩⟩
              · have hl2 : 0 ≤ l ∧ l < i := by omega
                have z := bs l hl2
                omega
            exact ih _ (by omega) i (i + 1) _ _ rfl (n0) (by omega) (by omega) (bn) (rw4) (r14) (lk1_n (lk1_n (lk1_n (lk1_n l0 (by decide) (Or.inl rfl)) (by decide) (Or.inl rfl)) (by decide) (Or.inl rfl)) (by decide) (Or.inl rfl)) (lk1_n (lk1_n (lk1_n (lk1_n l1 (by decide) (Or.inl rfl)) (by decide) (Or.inl rfl)) (by decide) (Or.inl rfl)) (by decide) (Or.inl rfl)) (lk1_n lk1_s (by decide) (Or.inl rfl)) lk1_s (hG4) (hF4)
  refine x_aload_n 1 hK rfl rfl rfl ?_
  refine x_iconst 2 hK rfl rfl ?_
  refine x_putI 5 hK rfl rfl (sp_171 (h := h) hG) ?_
  refine x_iload_n 6 hK rfl rfl rfl ?_
  refine x_i2l 7 hK rfl rfl (by omega) ?_
  refine x_lconstE 8 1 hK rfl rfl rfl ?_
  refine x_ldc2_w 11 hK rfl rfl ?_
  have hGp629 : GD gE gRL sh (wI h 171 0 0) := GD_w1 (hG) (r := 54) rfl (by omega) rfl (by omega) (by omega)
  refine x_callS 14 hK hmono rfl (Or.inl rfl) rfl [.long (J n), .long (J 1), .long (J 999)] [] rfl rfl (Nat.le_of_ble_eq_true rfl) (Nat.le_of_ble_eq_true rfl) (CLd_le (Nat.le_of_ble_eq_true rfl) (ctX11_in (by omega) (by omega) (by omega))) ?_
  rintro v9 h9 ⟨e9, ⟨rfl, i1630, i2630⟩ | ⟨rfl, i1630⟩⟩ <;> rw [e9] <;> clear e9
  · refine x_if_ne 19 17 hK rfl rfl rfl (by omega) (fun _ => ?_) (fun c => by omega)
    refine x_iconst 20 hK rfl rfl ?_
    refine x_istore_n 21 hK rfl rfl [(2, .int (I 0)), (0, .ref 171), (1, .int (I n))] rfl ?_
    refine x_iconst 22 hK rfl rfl ?_
    refine x_istore_n 23 hK rfl rfl [(3, .int (I 1)), (2, .int (I 0)), (0, .ref 171), (1, .int (I n))] rfl ?_
    exact loop _ 0 1 _ _ rfl (⟨by omega, by omega⟩) (by omega) (by omega) (fun l hl => by
      have q : l = 0 := by omega
      rw [q]; exact Or.inr ⟨rfl, Or.inr ⟨rfl, Int.le_refl _⟩⟩) (mrow_k (by decide)) (gi_k (by decide) _) rfl rfl rfl rfl (GD_w1 (hG) (r := 54) rfl (by omega) rfl (by omega) (by omega)) (FRM_w ((FRM.rf : FRM gRL [(0, 54, 0, 0), (0, 54, 1, 1), (1, 55, 0, 39)] h h)) (r := 54) rfl rfl)
  · refine x_if_ne 19 17 hK rfl rfl rfl (by omega) (fun c => by omega) (fun _ => ?_)
    refine x_iconst 18 hK rfl rfl ?_
    exact x_iret hK rfl ⟨Or.inl ⟨by omega, rfl, mrow_k (by decide), gi_k (by decide) _⟩, GD_w1 (hG) (r := 54) rfl (by omega) rfl (by omega) (by omega), FRM_w ((FRM.rf : FRM gRL [(0, 54, 0, 0), (0, 54, 1, 1), (1, 55, 0, 39)] h h)) (r := 54) rfl rfl⟩
