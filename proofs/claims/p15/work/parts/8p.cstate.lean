/-! WHAT A STATE OF THE CLASS DOES -/
theorem SRT_le {h : aH} {c n : Nat} (hs : SRT (kO h c n)) {i j : Nat} (hij : i ≤ j) (hj : j < n) : gi h (c + 1) i ≤ gi h (c + 1) j := by
  by_cases e : i = j
  · rw [e]; exact Int.le_refl _
  · have z := List.pairwise_iff_getElem.mp hs i j (by rw [kO_l]; omega) (by rw [kO_l]; omega) (by omega)
    unfold kO at z
    simp only [List.getElem_map, List.getElem_range] at z
    exact z
theorem kO_add (h : aH) (c k m : Nat) : kO h c (k + m) = kO h c k ++ (List.range m).map fun j => (gi h (c + 1) (k + j), gi h (c + 2) (k + j)) := by
  unfold kO
  rw [List.range_add, List.map_append, List.map_map]
  rfl
theorem kO_drop (h : aH) (c k n : Nat) (hk : k ≤ n) : (kO h c n).drop k = (List.range (n - k)).map fun j => (gi h (c + 1) (k + j), gi h (c + 2) (k + j)) := by
  have e := kO_add h c k (n - k)
  rw [show k + (n - k) = n by omega] at e
  rw [e, List.drop_append_of_le_length (by rw [kO_l]; exact Nat.le_refl _), List.drop_of_length_le (by rw [kO_l]; exact Nat.le_refl _), List.nil_append]
theorem kO_take (h : aH) (c k n : Nat) (hk : k ≤ n) : (kO h c n).take k = kO h c k := by
  have e := kO_add h c k (n - k)
  rw [show k + (n - k) = n by omega] at e
  rw [e, List.take_append_of_le_length (by rw [kO_l]; exact Nat.le_refl _), List.take_of_length_le (by rw [kO_l]; exact Nat.le_refl _)]
theorem kO_ins {h h' : aH} {c n k : Nat} {x : Int × Int} (hk : k ≤ n) (lo : ∀ j, j < k → gi h' (c + 1) j = gi h (c + 1) j ∧ gi h' (c + 2) j = gi h (c + 2) j) (a1 : gi h' (c + 1) k = x.1) (a2 : gi h' (c + 2) k = x.2) (hi : ∀ j, k ≤ j → j < n → gi h' (c + 1) (j + 1) = gi h (c + 1) j ∧ gi h' (c + 2) (j + 1) = gi h (c + 2) j) (sl : ∀ j, j < k → gi h (c + 1) j ≤ x.1) (sg : ∀ j, k ≤ j → j < n → x.1 < gi h (c + 1) j) : kO h' c (n + 1) = insO x (kO h c n) := by
  have e1 := kO_add h c k (n - k)
  rw [show k + (n - k) = n by omega] at e1
  have e2 := kO_add h' c k (1 + (n - k))
  rw [show k + (1 + (n - k)) = n + 1 by omega] at e2
  have e3 : (List.range (1 + (n - k))).map (fun j => (gi h' (c + 1) (k + j), gi h' (c + 2) (k + j))) = x :: (List.range (n - k)).map fun j => (gi h (c + 1) (k + j), gi h (c + 2) (k + j)) := by
    rw [List.range_add, List.map_append, List.map_map]
    show [(gi h' (c + 1) (k + 0), gi h' (c + 2) (k + 0))] ++ _ = [x] ++ _
    congr 1
    · show [(gi h' (c + 1) k, gi h' (c + 2) k)] = [x]
      rw [a1, a2]
    · refine List.map_congr_left fun j hj => ?_
      have := List.mem_range.mp hj
      obtain ⟨z1, z2⟩ := hi (k + j) (by omega) (by omega)
      show (gi h' (c + 1) (k + (1 + j)), gi h' (c + 2) (k + (1 + j))) = _
      rw [show k + (1 + j) = k + j + 1 by omega, z1, z2]
  rw [e2, e3, e1, kO_eq lo]
  refine (ins_at (fun y hy => ?_) (fun y hy => ?_)).symm
  · obtain ⟨j, hj, rfl⟩ := List.mem_map.mp hy
    exact sl j (List.mem_range.mp hj)
  · obtain ⟨j, hj, rfl⟩ := List.mem_map.mp hy
    have := List.mem_range.mp hj
    exact sg (k + j) (by omega) (by omega)
theorem tw_at {p : Int × Int → Bool} : ∀ {L : List (Int × Int)} {k : Nat}, k ≤ L.length → (∀ j q, j < k → L[j]? = some q → p q = true) → (∀ q, L[k]? = some q → p q = false) → L.takeWhile p = L.take k ∧ L.dropWhile p = L.drop k
  | [], k, hk, _, _ => by
    obtain rfl : k = 0 := by simpa using hk
    exact ⟨rfl, rfl⟩
  | y :: t, 0, _, _, h2 => by
    have z := h2 y rfl
    exact ⟨List.takeWhile_cons_of_neg (by rw [z]; exact Bool.noConfusion), List.dropWhile_cons_of_neg (by rw [z]; exact Bool.noConfusion)⟩
  | y :: t, k + 1, hk, h1, h2 => by
    have z := h1 0 y (by omega) rfl
    obtain ⟨i1, i2⟩ := tw_at (L := t) (k := k) (by rw [List.length_cons] at hk; omega) (fun j q hj hq => h1 (j + 1) q (by omega) hq) h2
    exact ⟨by rw [List.takeWhile_cons_of_pos z, i1]; rfl, by rw [List.dropWhile_cons_of_pos z, i2]; rfl⟩
theorem kO_s (h : aH) (c n : Nat) : kO h c (n + 1) = kO h c n ++ [(gi h (c + 1) n, gi h (c + 2) n)] := by
  unfold kO
  rw [List.range_succ, List.map_append]
  rfl
theorem cpt_b {l : Int} (hl : 0 ≤ l ∧ l ≤ 8) (q : Int × Int) : 0 ≤ cpt l q ∧ cpt l q ≤ 8 := by unfold cpt; omega
theorem cpF_b {l : Int} (hl : 0 ≤ l ∧ l ≤ 8) : ∀ L : List (Int × Int), 0 ≤ L.foldl cpt l ∧ L.foldl cpt l ≤ 8
  | [] => hl
  | q :: t => cpF_b (cpt_b hl q) t
set_option maxRecDepth 4000 in
theorem ctX8_addOrder {SP : CT} (hSP : MONO SP) {sh : List (Nat × Nat)} {h : aH} (hG : GD gE gRL sh h) {l v : Int} (hl : 0 ≤ l ∧ l ≤ 1000) (hv : r32 v) (hw : 0 ≤ gi h 23 0 ∧ gi h 23 0 ≤ 1000000) (hn : gi h 23 4 < 12) (hs : SRT (kO h 23 (gi h 23 4).toNat)) : CLd SP 1 mX8_addOrder [.ref 23, .int (I l), .int (I v)] h 0 0 (fun rv h' => rv = none ∧ GD gE gRL sh h' ∧ FRM gRL [(0, 17, 3, 4), (0, 18, 0, 11), (0, 19, 0, 11)] h h' ∧ kS h' 23 = ((kS h 23).1, (kS h 23).2.1, (kS h 23).2.2.1, (kS h 23).1, insO ((kS h 23).1 + l, v) (kS h 23).2.2.2.2.1, (kS h 23).2.2.2.2.2)) := by
  refine x_met _ rfl (Nat.le_of_ble_eq_true rfl) (fun K hK => ?_)
  have hmono := MONO_CLd hSP 0
  have g4 := gri 0 12 hG (a := 23) (r := 17) (k := 4) rfl rfl
  have g1 := gri 0 8 hG (a := 23) (r := 17) (k := 1) rfl rfl
  have loop : ∀ (mz : Nat) (k : Int) (h4 : aH) (ls : List (Nat × Value)), (k.toNat = mz) → (0 ≤ k ∧ k ≤ (gi h 23 4)) → (∀ j : Nat, (j : Int) < k → gi h4 24 j = gi h 24 j ∧ gi h4 25 j = gi h 25 j) → (∀ j : Nat, k ≤ (j : Int) → (j : Int) < (gi h 23 4) → gi h4 24 (j + 1) = gi h 24 j ∧ gi h4 25 (j + 1) = gi h 25 j) → (∀ j : Nat, k ≤ (j : Int) → (j : Int) < (gi h 23 4) → (gi h 23 0 + l) < gi h 24 j) → lk ls 0 = some (.ref 23) → lk ls 1 = some (.int (I l)) → lk ls 2 = some (.int (I v)) → lk ls 3 = some (.int (I k)) → GD gE gRL sh h4 → FRM gRL [(0, 18, 0, 11), (0, 19, 0, 11)] h h4 → K 15 ls [] h4 0 0 := by
    intro mz
    induction mz using Nat.strongRecOn with
    | ind mz ih =>
    intro k h4 ls hm k0 lo hi bg l0 l1 l2 l3 hG4 hF4
    have n4 : gi h4 23 0 = gi h 23 0 := FRM_gi hF4 (r := 17) rfl rfl
    have n44 : gi h4 23 4 = gi h 23 4 := FRM_gi hF4 (r := 17) rfl rfl
    have lk := fun z : 0 < k => lo (k - 1).toNat (by omega)
    refine x_iload_n 16 hK rfl rfl l3 ?_
    refine x_if_le 70 19 hK rfl rfl rfl (by omega) (fun c2 => ?_) (fun c2 => ?_)
    · refine x_aload_n 71 hK rfl rfl l0 ?_
      refine x_getR 74 hK rfl rfl (sp_23 (h := h4) hG4) (rf_23_5 (h := h4) hG4) ?_
      refine x_iload_n 75 hK rfl rfl l3 ?_
      refine x_aload_n 76 hK rfl rfl l0 ?_
      have g297 := gi_r h 23 0
      refine x_getE 79 hK rfl (Or.inl rfl) rfl (sp_23 (h := h4) hG4) (e := (gi h 23 0)) (n4) ?_
      refine x_iload_n 80 hK rfl rfl l1 ?_
      refine x_iadd 81 hK rfl rfl ?_
      refine x_iastore 82 hK rfl rfl (sp_24 (h := h4) hG4) (by omega) (by omega) (by omega) ?_
      refine x_aload_n 83 hK rfl rfl l0 ?_
      refine x_getR 86 hK rfl rfl (sp_23 (h := h4) hG4) (rf_23_6 (h := h4) hG4) ?_
      refine x_iload_n 87 hK rfl rfl l3 ?_
      refine x_iload_n 88 hK rfl rfl l2 ?_
      refine x_iastore 89 hK rfl rfl (sp_25 (h := h4) hG4) (by omega) (by omega) (by omega) ?_
      refine x_aload_n 90 hK rfl rfl l0 ?_
      refine x_dup 91 hK rfl rfl rfl ?_
      have g298 := gri (0) (12) hG (a := 23) (r := 17) (k := 4) rfl rfl
      refine x_getE 94 hK rfl (Or.inl rfl) rfl (sp_23 (h := h4) hG4) (e := (gi h 23 4)) ((gi_a (by decide) _).trans ((gi_a (by decide) _).trans (n44))) ?_
      refine x_iconst 95 hK rfl rfl ?_
      refine x_iadd 96 hK rfl rfl ?_
      refine x_putI 99 hK rfl rfl (sp_23 (h := h4) hG4) ?_
      refine x_aload_n 100 hK rfl rfl l0 ?_
      refine x_aload_n 101 hK rfl rfl l0 ?_
      refine x_getE 104 hK rfl (Or.inl rfl) rfl (sp_23 (h := h4) hG4) (e := (gi h 23 0)) ((gi_k (by decide) _).trans ((gi_a (by decide) _).trans ((gi_a (by decide) _).trans (n4)))) ?_
      refine x_putI 107 hK rfl rfl (sp_23 (h := h4) hG4) ?_
      have sl : ∀ j : Nat, (j : Int) < k → gi h 24 j ≤ (gi h 23 0 + l) := fun j hj => by
        have y : gi h 24 (k - 1).toNat ≤ (gi h 23 0 + l) := by omega
        exact Int.le_trans (SRT_le (c := 23) hs (show j ≤ (k - 1).toNat by omega) (by omega)) y
      have e5 : kO (wI (wI (wI (wI h4 24 k.toNat ((gi h 23 0) + l)) 25 k.toNat v) 23 4 ((gi h 23 4) + 1)) 23 3 (gi h 23 0)) 23 ((gi h 23 4).toNat + 1) = insO ((gi h 23 0 + l), v) (kO h 23 (gi h 23 4).toNat) := by
        refine kO_ins (k := k.toNat) (by omega) (fun j hj => ?_) ((gi_a (by decide) _).trans ((gi_a (by decide) _).trans ((gi_a (by decide) _).trans (gi_same (by omega))))) ((gi_a (by decide) _).trans ((gi_a (by decide) _).trans (gi_same (by omega)))) (fun j h1 h2 => ?_) (fun j hj => sl j (by omega)) (fun j h1 h2 => bg j (by omega) (by omega))
        · have z := lo j (by omega)
          exact ⟨(gi_a (by decide) _).trans ((gi_a (by decide) _).trans ((gi_a (by decide) _).trans ((gi_k (by omega) _).trans (z.1)))), (gi_a (by decide) _).trans ((gi_a (by decide) _).trans ((gi_k (by omega) _).trans ((gi_a (by decide) _).trans (z.2))))⟩
        · have z := hi j (by omega) (by omega)
          exact ⟨(gi_a (by decide) _).trans ((gi_a (by decide) _).trans ((gi_a (by decide) _).trans ((gi_k (by omega) _).trans (z.1)))), (gi_a (by decide) _).trans ((gi_a (by decide) _).trans ((gi_k (by omega) _).trans ((gi_a (by decide) _).trans (z.2))))⟩
      have ew : kS (wI (wI (wI (wI h4 24 k.toNat ((gi h 23 0) + l)) 25 k.toNat v) 23 4 ((gi h 23 4) + 1)) 23 3 (gi h 23 0)) 23 = ((kS h 23).1, (kS h 23).2.1, (kS h 23).2.2.1, (kS h 23).1, insO ((kS h 23).1 + l, v) (kS h 23).2.2.2.2.1, (kS h 23).2.2.2.2.2) := by
        unfold kS
        rw [show gi (wI (wI (wI (wI h4 24 k.toNat ((gi h 23 0) + l)) 25 k.toNat v) 23 4 ((gi h 23 4) + 1)) 23 3 (gi h 23 0)) 23 0 = gi h 23 0 from (gi_k (by decide) _).trans ((gi_k (by decide) _).trans ((gi_a (by decide) _).trans ((gi_a (by decide) _).trans (n4)))), show gi (wI (wI (wI (wI h4 24 k.toNat ((gi h 23 0) + l)) 25 k.toNat v) 23 4 ((gi h 23 4) + 1)) 23 3 (gi h 23 0)) 23 1 = gi h 23 1 from (gi_k (by decide) _).trans ((gi_k (by decide) _).trans ((gi_a (by decide) _).trans ((gi_a (by decide) _).trans (FRM_gi hF4 (r := 17) rfl rfl)))), show gi (wI (wI (wI (wI h4 24 k.toNat ((gi h 23 0) + l)) 25 k.toNat v) 23 4 ((gi h 23 4) + 1)) 23 3 (gi h 23 0)) 23 2 = gi h 23 2 from (gi_k (by decide) _).trans ((gi_k (by decide) _).trans ((gi_a (by decide) _).trans ((gi_a (by decide) _).trans (FRM_gi hF4 (r := 17) rfl rfl)))), show gi (wI (wI (wI (wI h4 24 k.toNat ((gi h 23 0) + l)) 25 k.toNat v) 23 4 ((gi h 23 4) + 1)) 23 3 (gi h 23 0)) 23 3 = gi h 23 0 from gi_same (by omega), show gi (wI (wI (wI (wI h4 24 k.toNat ((gi h 23 0) + l)) 25 k.toNat v) 23 4 ((gi h 23 4) + 1)) 23 3 (gi h 23 0)) 23 4 = (gi h 23 4) + 1 from (gi_k (by decide) _).trans (gi_same (by omega)), tn_s g4.1, e5]
        rw [show gi (wI (wI (wI (wI h4 24 k.toNat ((gi h 23 0) + l)) 25 k.toNat v) 23 4 ((gi h 23 4) + 1)) 23 3 (gi h 23 0)) (23 + 3) = gi h (23 + 3) from funext fun j => (gi_a (by decide) _).trans ((gi_a (by decide) _).trans ((gi_a (by decide) _).trans ((gi_a (by decide) _).trans (FRM_gi hF4 (r := 20) rfl rfl)))), show gi (wI (wI (wI (wI h4 24 k.toNat ((gi h 23 0) + l)) 25 k.toNat v) 23 4 ((gi h 23 4) + 1)) 23 3 (gi h 23 0)) (23 + 4) = gi h (23 + 4) from funext fun j => (gi_a (by decide) _).trans ((gi_a (by decide) _).trans ((gi_a (by decide) _).trans ((gi_a (by decide) _).trans (FRM_gi hF4 (r := 21) rfl rfl))))]
      exact x_vret hK rfl ⟨rfl, GD_w0 (GD_w1 (GD_wn (GD_wn (hG4) (r := 18) rfl rfl) (r := 19) rfl rfl) (r := 17) rfl (by omega) rfl (by omega) (by omega)) (r := 17) rfl rfl, FRM_w (FRM_w (FRM_wn 0 11 (FRM_wn 0 11 ((hF4).mono rfl) (r := 18) rfl rfl rfl (by omega) (by omega)) (r := 19) rfl rfl rfl (by omega) (by omega)) (r := 17) rfl rfl) (r := 17) rfl rfl, ew⟩
    · refine x_aload_n 20 hK rfl rfl l0 ?_
      refine x_getR 23 hK rfl rfl (sp_23 (h := h4) hG4) (rf_23_5 (h := h4) hG4) ?_
      refine x_iload_n 24 hK rfl rfl l3 ?_
      refine x_iconst 25 hK rfl rfl ?_
      refine x_isub 26 hK rfl rfl ?_
      have g299 := gi_r h 24 (k - 1).toNat
      refine x_ialoadE 27 hK rfl rfl (sp_24 (h := h4) hG4) (by omega) (by omega) (by omega) (e' := (gi h 24 (k - 1).toNat)) ((lk (by omega)).1) ?_
      refine x_aload_n 28 hK rfl rfl l0 ?_
      have g300 := gi_r h 23 0
      refine x_getE 31 hK rfl (Or.inl rfl) rfl (sp_23 (h := h4) hG4) (e := (gi h 23 0)) (n4) ?_
      refine x_iload_n 32 hK rfl rfl l1 ?_
      refine x_iadd 33 hK rfl rfl ?_
      refine x_if_icmp_le 70 36 hK rfl rfl rfl (by omega) (by omega) (fun c37 => ?_) (fun c37 => ?_)
      · refine x_aload_n 71 hK rfl rfl l0 ?_
        refine x_getR 74 hK rfl rfl (sp_23 (h := h4) hG4) (rf_23_5 (h := h4) hG4) ?_
        refine x_iload_n 75 hK rfl rfl l3 ?_
        refine x_aload_n 76 hK rfl rfl l0 ?_
        refine x_getE 79 hK rfl (Or.inl rfl) rfl (sp_23 (h := h4) hG4) (e := (gi h 23 0)) (n4) ?_
        refine x_iload_n 80 hK rfl rfl l1 ?_
        refine x_iadd 81 hK rfl rfl ?_
        refine x_iastore 82 hK rfl rfl (sp_24 (h := h4) hG4) (by omega) (by omega) (by omega) ?_
        refine x_aload_n 83 hK rfl rfl l0 ?_
        refine x_getR 86 hK rfl rfl (sp_23 (h := h4) hG4) (rf_23_6 (h := h4) hG4) ?_
        refine x_iload_n 87 hK rfl rfl l3 ?_
        refine x_iload_n 88 hK rfl rfl l2 ?_
        refine x_iastore 89 hK rfl rfl (sp_25 (h := h4) hG4) (by omega) (by omega) (by omega) ?_
        refine x_aload_n 90 hK rfl rfl l0 ?_
        refine x_dup 91 hK rfl rfl rfl ?_
        have g301 := gri (0) (12) hG (a := 23) (r := 17) (k := 4) rfl rfl
        refine x_getE 94 hK rfl (Or.inl rfl) rfl (sp_23 (h := h4) hG4) (e := (gi h 23 4)) ((gi_a (by decide) _).trans ((gi_a (by decide) _).trans (n44))) ?_
        refine x_iconst 95 hK rfl rfl ?_
        refine x_iadd 96 hK rfl rfl ?_
        refine x_putI 99 hK rfl rfl (sp_23 (h := h4) hG4) ?_
        refine x_aload_n 100 hK rfl rfl l0 ?_
        refine x_aload_n 101 hK rfl rfl l0 ?_
        refine x_getE 104 hK rfl (Or.inl rfl) rfl (sp_23 (h := h4) hG4) (e := (gi h 23 0)) ((gi_k (by decide) _).trans ((gi_a (by decide) _).trans ((gi_a (by decide) _).trans (n4)))) ?_
        refine x_putI 107 hK rfl rfl (sp_23 (h := h4) hG4) ?_
        have sl : ∀ j : Nat, (j : Int) < k → gi h 24 j ≤ (gi h 23 0 + l) := fun j hj => by
          have y : gi h 24 (k - 1).toNat ≤ (gi h 23 0 + l) := by omega
          exact Int.le_trans (SRT_le (c := 23) hs (show j ≤ (k - 1).toNat by omega) (by omega)) y
        have e5 : kO (wI (wI (wI (wI h4 24 k.toNat ((gi h 23 0) + l)) 25 k.toNat v) 23 4 ((gi h 23 4) + 1)) 23 3 (gi h 23 0)) 23 ((gi h 23 4).toNat + 1) = insO ((gi h 23 0 + l), v) (kO h 23 (gi h 23 4).toNat) := by
          refine kO_ins (k := k.toNat) (by omega) (fun j hj => ?_) ((gi_a (by decide) _).trans ((gi_a (by decide) _).trans ((gi_a (by decide) _).trans (gi_same (by omega))))) ((gi_a (by decide) _).trans ((gi_a (by decide) _).trans (gi_same (by omega)))) (fun j h1 h2 => ?_) (fun j hj => sl j (by omega)) (fun j h1 h2 => bg j (by omega) (by omega))
          · have z := lo j (by omega)
            exact ⟨(gi_a (by decide) _).trans ((gi_a (by decide) _).trans ((gi_a (by decide) _).trans ((gi_k (by omega) _).trans (z.1)))), (gi_a (by decide) _).trans ((gi_a (by decide) _).trans ((gi_k (by omega) _).trans ((gi_a (by decide) _).trans (z.2))))⟩
          · have z := hi j (by omega) (by omega)
            exact ⟨(gi_a (by decide) _).trans ((gi_a (by decide) _).trans ((gi_a (by decide) _).trans ((gi_k (by omega) _).trans (z.1)))), (gi_a (by decide) _).trans ((gi_a (by decide) _).trans ((gi_k (by omega) _).trans ((gi_a (by decide) _).trans (z.2))))⟩
        have ew : kS (wI (wI (wI (wI h4 24 k.toNat ((gi h 23 0) + l)) 25 k.toNat v) 23 4 ((gi h 23 4) + 1)) 23 3 (gi h 23 0)) 23 = ((kS h 23).1, (kS h 23).2.1, (kS h 23).2.2.1, (kS h 23).1, insO ((kS h 23).1 + l, v) (kS h 23).2.2.2.2.1, (kS h 23).2.2.2.2.2) := by
          unfold kS
          rw [show gi (wI (wI (wI (wI h4 24 k.toNat ((gi h 23 0) + l)) 25 k.toNat v) 23 4 ((gi h 23 4) + 1)) 23 3 (gi h 23 0)) 23 0 = gi h 23 0 from (gi_k (by decide) _).trans ((gi_k (by decide) _).trans ((gi_a (by decide) _).trans ((gi_a (by decide) _).trans (n4)))), show gi (wI (wI (wI (wI h4 24 k.toNat ((gi h 23 0) + l)) 25 k.toNat v) 23 4 ((gi h 23 4) + 1)) 23 3 (gi h 23 0)) 23 1 = gi h 23 1 from (gi_k (by decide) _).trans ((gi_k (by decide) _).trans ((gi_a (by decide) _).trans ((gi_a (by decide) _).trans (FRM_gi hF4 (r := 17) rfl rfl)))), show gi (wI (wI (wI (wI h4 24 k.toNat ((gi h 23 0) + l)) 25 k.toNat v) 23 4 ((gi h 23 4) + 1)) 23 3 (gi h 23 0)) 23 2 = gi h 23 2 from (gi_k (by decide) _).trans ((gi_k (by decide) _).trans ((gi_a (by decide) _).trans ((gi_a (by decide) _).trans (FRM_gi hF4 (r := 17) rfl rfl)))), show gi (wI (wI (wI (wI h4 24 k.toNat ((gi h 23 0) + l)) 25 k.toNat v) 23 4 ((gi h 23 4) + 1)) 23 3 (gi h 23 0)) 23 3 = gi h 23 0 from gi_same (by omega), show gi (wI (wI (wI (wI h4 24 k.toNat ((gi h 23 0) + l)) 25 k.toNat v) 23 4 ((gi h 23 4) + 1)) 23 3 (gi h 23 0)) 23 4 = (gi h 23 4) + 1 from (gi_k (by decide) _).trans (gi_same (by omega)), tn_s g4.1, e5]
          rw [show gi (wI (wI (wI (wI h4 24 k.toNat ((gi h 23 0) + l)) 25 k.toNat v) 23 4 ((gi h 23 4) + 1)) 23 3 (gi h 23 0)) (23 + 3) = gi h (23 + 3) from funext fun j => (gi_a (by decide) _).trans ((gi_a (by decide) _).trans ((gi_a (by decide) _).trans ((gi_a (by decide) _).trans (FRM_gi hF4 (r := 20) rfl rfl)))), show gi (wI (wI (wI (wI h4 24 k.toNat ((gi h 23 0) + l)) 25 k.toNat v) 23 4 ((gi h 23 4) + 1)) 23 3 (gi h 23 0)) (23 + 4) = gi h (23 + 4) from funext fun j => (gi_a (by decide) _).trans ((gi_a (by decide) _).trans ((gi_a (by decide) _).trans ((gi_a (by decide) _).trans (FRM_gi hF4 (r := 21) rfl rfl))))]
        exact x_vret hK rfl ⟨rfl, GD_w0 (GD_w1 (GD_wn (GD_wn (hG4) (r := 18) rfl rfl) (r := 19) rfl rfl) (r := 17) rfl (by omega) rfl (by omega) (by omega)) (r := 17) rfl rfl, FRM_w (FRM_w (FRM_wn 0 11 (FRM_wn 0 11 ((hF4).mono rfl) (r := 18) rfl rfl rfl (by omega) (by omega)) (r := 19) rfl rfl rfl (by omega) (by omega)) (r := 17) rfl rfl) (r := 17) rfl rfl, ew⟩
      · refine x_aload_n 37 hK rfl rfl l0 ?_
        refine x_getR 40 hK rfl rfl (sp_23 (h := h4) hG4) (rf_23_5 (h := h4) hG4) ?_
        refine x_iload_n 41 hK rfl rfl l3 ?_
        refine x_aload_n 42 hK rfl rfl l0 ?_
        refine x_getR 45 hK rfl rfl (sp_23 (h := h4) hG4) (rf_23_5 (h := h4) hG4) ?_
        refine x_iload_n 46 hK rfl rfl l3 ?_
        refine x_iconst 47 hK rfl rfl ?_
        refine x_isub 48 hK rfl rfl ?_
        refine x_ialoadE 49 hK rfl rfl (sp_24 (h := h4) hG4) (by omega) (by omega) (by omega) (e' := (gi h 24 (k - 1).toNat)) ((lk (by omega)).1) ?_
        refine x_iastore 50 hK rfl rfl (sp_24 (h := h4) hG4) (by omega) (by omega) (by omega) ?_
        refine x_aload_n 51 hK rfl rfl l0 ?_
        refine x_getR 54 hK rfl rfl (sp_23 (h := h4) hG4) (rf_23_6 (h := h4) hG4) ?_
        refine x_iload_n 55 hK rfl rfl l3 ?_
        refine x_aload_n 56 hK rfl rfl l0 ?_
        refine x_getR 59 hK rfl rfl (sp_23 (h := h4) hG4) (rf_23_6 (h := h4) hG4) ?_
        refine x_iload_n 60 hK rfl rfl l3 ?_
        refine x_iconst 61 hK rfl rfl ?_
        refine x_isub 62 hK rfl rfl ?_
        have g302 := gi_r h 25 (k - 1).toNat
        refine x_ialoadE 63 hK rfl rfl (sp_25 (h := h4) hG4) (by omega) (by omega) (by omega) (e' := (gi h 25 (k - 1).toNat)) ((gi_a (by decide) _).trans ((lk (by omega)).2)) ?_
        refine x_iastore 64 hK rfl rfl (sp_25 (h := h4) hG4) (by omega) (by omega) (by omega) ?_
        refine x_iinc 67 hK rfl rfl l3 _ rfl ?_
        refine x_goto 15 hK rfl rfl ?_
        have ln : ∀ j : Nat, (j : Int) < k - 1 → gi (wI (wI h4 24 k.toNat (gi h 24 (k - 1).toNat)) 25 k.toNat (gi h 25 (k - 1).toNat)) 24 j = gi h 24 j ∧ gi (wI (wI h4 24 k.toNat (gi h 24 (k - 1).toNat)) 25 k.toNat (gi h 25 (k - 1).toNat)) 25 j = gi h 25 j := fun j hj => by
          have z := lo j (by omega)
          exact ⟨((gi_a (by decide) _).trans (gi_k (by omega) _)).trans z.1, ((gi_k (by omega) _).trans (gi_a (by decide) _)).trans z.2⟩
        have hn : ∀ j : Nat, k - 1 ≤ (j : Int) → (j : Int) < (gi h 23 4) → gi (wI (wI h4 24 k.toNat (gi h 24 (k - 1).toNat)) 25 k.toNat (gi h 25 (k - 1).toNat)) 24 (j + 1) = gi h 24 j ∧ gi (wI (wI h4 24 k.toNat (gi h 24 (k - 1).toNat)) 25 k.toNat (gi h 25 (k - 1).toNat)) 25 (j + 1) = gi h 25 j := fun j h1 h2 => by
          by_cases c : (j : Int) = k - 1
          · have e1 : j + 1 = k.toNat := by omega
            have e2 : j = (k - 1).toNat := by omega
            rw [e1, e2]
            exact ⟨(gi_a (by decide) _).trans (gi_same (by omega)), gi_same (by omega)⟩
          · have z := hi j (by omega) h2
            exact ⟨((gi_a (by decide) _).trans (gi_k (by omega) _)).trans z.1, ((gi_k (by omega) _).trans (gi_a (by decide) _)).trans z.2⟩
        have bn : ∀ j : Nat, k - 1 ≤ (j : Int) → (j : Int) < (gi h 23 4) → (gi h 23 0 + l) < gi h 24 j := fun j h1 h2 => by
          by_cases c : (j : Int) = k - 1
          · rw [show j = (k - 1).toNat by omega]; omega
          · exact bg j (by omega) h2
        exact ih _ (by omega) (k + (-1)) _ _ rfl (by omega) (ln) (hn) (bn) (lk1_n l0 (by decide) (Or.inl rfl)) (lk1_n l1 (by decide) (Or.inl rfl)) (lk1_n l2 (by decide) (Or.inl rfl)) lk1_s (GD_wn (GD_wn (hG4) (r := 18) rfl rfl) (r := 19) rfl rfl) (FRM_wn 0 11 (FRM_wn 0 11 (hF4) (r := 18) rfl rfl rfl (by omega) (by omega)) (r := 19) rfl rfl rfl (by omega) (by omega))
  refine x_aload_n 1 hK rfl rfl rfl ?_
  have g303 := gri (0) (12) hG (a := 23) (r := 17) (k := 4) rfl rfl
  refine x_getE 4 hK rfl (Or.inl rfl) rfl (sp_23 (h := h) hG) (e := (gi h 23 4)) (rfl) ?_
  refine x_bipush 6 hK rfl rfl rfl ?_
  refine x_if_icmp_lt 10 9 hK rfl rfl rfl (by omega) (by omega) (fun c4 => ?_) (fun c4 => ?_)
  · refine x_aload_n 11 hK rfl rfl rfl ?_
    refine x_getE 14 hK rfl (Or.inl rfl) rfl (sp_23 (h := h) hG) (e := (gi h 23 4)) (rfl) ?_
    refine x_istore_n 15 hK rfl rfl [(3, .int (I (gi h 23 4))), (0, .ref 23), (1, .int (I l)), (2, .int (I v))] rfl ?_
    exact loop _ (gi h 23 4) _ _ rfl (by omega) (fun _ _ => ⟨rfl, rfl⟩) (fun j h1 h2 => absurd h1 (by omega)) (fun j h1 h2 => absurd h1 (by omega)) rfl rfl rfl rfl (hG) ((FRM.rf : FRM gRL [(0, 18, 0, 11), (0, 19, 0, 11)] h h))
  · exact absurd hn (by omega)
set_option maxRecDepth 4000 in
theorem ctX8_doDueOrders {SP : CT} (hSP : MONO SP) {sh : List (Nat × Nat)} {h : aH} (hG : GD gE gRL sh h) (hb : ∀ j : Nat, (j : Int) < gi h 23 4 → (-1 ≤ gi h 25 j ∧ gi h 25 j ≤ 1) ∧ 0 ≤ gi h 24 j ∧ gi h 24 j ≤ 2000000) (hw : 0 ≤ gi h 23 0 ∧ gi h 23 0 ≤ 1000000) : CLd SP 3 mX8_doDueOrders [.ref 23] h 0 0 (fun rv h' => rv = none ∧ GD gE gRL sh h' ∧ FRM gRL [(0, 17, 1, 1), (0, 17, 4, 4), (0, 18, 0, 11), (0, 19, 0, 11)] h h' ∧ kS h' 23 = ((kS h 23).1, ((kO h 23 (gi h 23 4).toNat).takeWhile (fun q => decide (q.1 ≤ gi h 23 0))).foldl cpt (kS h 23).2.1, (kS h 23).2.2.1, (kS h 23).2.2.2.1, (kO h 23 (gi h 23 4).toNat).dropWhile (fun q => decide (q.1 ≤ gi h 23 0)), (kS h 23).2.2.2.2.2)) := by
  refine x_met _ rfl (Nat.le_of_ble_eq_true rfl) (fun K hK => ?_)
  have hmono := MONO_CLd hSP 2
  have g4 := gri 0 12 hG (a := 23) (r := 17) (k := 4) rfl rfl
  have g1 := gri 0 8 hG (a := 23) (r := 17) (k := 1) rfl rfl
  have loop : ∀ (mz : Nat) (k : Int) (h4 : aH) (ls : List (Nat × Value)), (((gi h 23 4) - k).toNat = mz) → (0 ≤ k ∧ k ≤ (gi h 23 4)) → (gi h4 23 1 = (kO h 23 k.toNat).foldl cpt (gi h 23 1)) → (∀ j : Nat, (j : Int) < k → gi h 24 j ≤ gi h 23 0) → lk ls 0 = some (.ref 23) → lk ls 1 = some (.int (I k)) → GD gE gRL sh h4 → FRM gRL [(0, 17, 1, 1)] h h4 → K 2 ls [] h4 0 0 := by
    intro mz
    induction mz using Nat.strongRecOn with
    | ind mz ih =>
    intro k h4 ls hm k0 ln al l0 l1 hG4 hF4
    have lb := cpF_b g1 (kO h 23 k.toNat)
    have hbk := fun z : k < gi h 23 4 => hb k.toNat (by omega)
    refine x_iload_n 3 hK rfl rfl l1 ?_
    refine x_aload_n 4 hK rfl rfl l0 ?_
    have g304 := gri (0) (12) hG (a := 23) (r := 17) (k := 4) rfl rfl
    refine x_getE 7 hK rfl (Or.inl rfl) rfl (sp_23 (h := h4) hG4) (e := (gi h 23 4)) (FRM_gi hF4 (r := 17) rfl rfl) ?_
    refine x_if_icmp_ge 47 10 hK rfl rfl rfl (by omega) (by omega) (fun c4 => ?_) (fun c4 => ?_)
    · refine x_aload_n 48 hK rfl rfl l0 ?_
      refine x_dup 49 hK rfl rfl rfl ?_
      refine x_getE 52 hK rfl (Or.inl rfl) rfl (sp_23 (h := h4) hG4) (e := (gi h 23 4)) (FRM_gi hF4 (r := 17) rfl rfl) ?_
      refine x_iload_n 53 hK rfl rfl l1 ?_
      refine x_isub 54 hK rfl rfl ?_
      refine x_putI 57 hK rfl rfl (sp_23 (h := h4) hG4) ?_
      refine x_aload_n 58 hK rfl rfl l0 ?_
      refine x_getR 61 hK rfl rfl (sp_23 (h := h4) hG4) (rf_23_5 (h := h4) hG4) ?_
      refine x_iload_n 62 hK rfl rfl l1 ?_
      refine x_aload_n 63 hK rfl rfl l0 ?_
      refine x_getR 66 hK rfl rfl (sp_23 (h := h4) hG4) (rf_23_5 (h := h4) hG4) ?_
      refine x_iconst 67 hK rfl rfl ?_
      refine x_aload_n 68 hK rfl rfl l0 ?_
      refine x_getE 71 hK rfl (Or.inl rfl) rfl (sp_23 (h := h4) hG4) (e := ((gi h 23 4) - k)) (gi_same (by omega)) ?_
      refine x_acp 74 hK rfl rfl (by decide) (sp_24 (h := h4) hG4) (sp_24 (h := h4) hG4) (by omega) (by omega) (by omega) (by omega) (by omega) ?_
      obtain ⟨h305, e305⟩ : ∃ z, z = sC (wI h4 23 4 ((gi h 23 4) - k)) 24 (Int.toNat k) 24 (Int.toNat 0) (Int.toNat ((gi h 23 4) - k)) := ⟨_, rfl⟩
      rw [← e305]
      have hG305 : GD gE gRL sh h305 := by rw [e305]; exact GD_C (GD_w1 (hG4) (r := 17) rfl (by omega) rfl (by omega) (by omega)) (r := 18) rfl rfl
      have hF305 : FRM gRL [(0, 18, 0, 11)] (wI h4 23 4 ((gi h 23 4) - k)) h305 := by rw [e305]; exact FRM_C FRM.rf (r := 18) rfl fun k k1 k2 => mIn_r (x := 0) (y := 11) (by decide) k (by omega) (by omega)
      have oc305 : ∀ a9 k9, a9 ≠ 24 → gi h305 a9 k9 = gi (wI h4 23 4 ((gi h 23 4) - k)) a9 k9 := fun a9 k9 ha => by rw [e305]; exact gi_sCn ha k9
      have cc305 : ∀ j9, gi h305 24 j9 = if (Int.toNat 0) ≤ j9 ∧ j9 < (Int.toNat 0) + (Int.toNat ((gi h 23 4) - k)) then gi (wI h4 23 4 ((gi h 23 4) - k)) 24 ((Int.toNat k) + (j9 - (Int.toNat 0))) else gi (wI h4 23 4 ((gi h 23 4) - k)) 24 j9 := fun j9 => by rw [e305]; exact gi_sC j9
      refine x_aload_n 75 hK rfl rfl l0 ?_
      refine x_getR 78 hK rfl rfl (sp_23 (h := h305) hG305) (rf_23_6 (h := h305) hG305) ?_
      refine x_iload_n 79 hK rfl rfl l1 ?_
      refine x_aload_n 80 hK rfl rfl l0 ?_
      refine x_getR 83 hK rfl rfl (sp_23 (h := h305) hG305) (rf_23_6 (h := h305) hG305) ?_
      refine x_iconst 84 hK rfl rfl ?_
      refine x_aload_n 85 hK rfl rfl l0 ?_
      refine x_getE 88 hK rfl (Or.inl rfl) rfl (sp_23 (h := h305) hG305) (e := ((gi h 23 4) - k)) ((FRM_gi hF305 (r := 17) rfl rfl).trans (gi_same (by omega))) ?_
      refine x_acp 91 hK rfl rfl (by decide) (sp_25 (h := h305) hG305) (sp_25 (h := h305) hG305) (by omega) (by omega) (by omega) (by omega) (by omega) ?_
      obtain ⟨h306, e306⟩ : ∃ z, z = sC h305 25 (Int.toNat k) 25 (Int.toNat 0) (Int.toNat ((gi h 23 4) - k)) := ⟨_, rfl⟩
      rw [← e306]
      have hG306 : GD gE gRL sh h306 := by rw [e306]; exact GD_C (hG305) (r := 19) rfl rfl
      have hF306 : FRM gRL [(0, 19, 0, 11)] h305 h306 := by rw [e306]; exact FRM_C FRM.rf (r := 19) rfl fun k k1 k2 => mIn_r (x := 0) (y := 11) (by decide) k (by omega) (by omega)
      have oc306 : ∀ a9 k9, a9 ≠ 25 → gi h306 a9 k9 = gi h305 a9 k9 := fun a9 k9 ha => by rw [e306]; exact gi_sCn ha k9
      have cc306 : ∀ j9, gi h306 25 j9 = if (Int.toNat 0) ≤ j9 ∧ j9 < (Int.toNat 0) + (Int.toNat ((gi h 23 4) - k)) then gi h305 25 ((Int.toNat k) + (j9 - (Int.toNat 0))) else gi h305 25 j9 := fun j9 => by rw [e306]; exact gi_sC j9
      have tw := tw_at (p := (fun q => decide (q.1 ≤ gi h 23 0))) (L := (kO h 23 (gi h 23 4).toNat)) (k := k.toNat) (by rw [kO_l]; omega) (fun j q hj hq => by rw [kO_at (by omega)] at hq; cases hq; exact decide_eq_true (al j (by omega))) (fun q hq => by
        by_cases c : k < (gi h 23 4)
        · rw [kO_at (by omega)] at hq; cases hq; exact decide_eq_false (by show ¬ gi h 24 k.toNat ≤ gi h 23 0; omega)
        · rw [List.getElem?_eq_none (by rw [kO_l]; omega)] at hq; cases hq)
      have c1 : ∀ j, j < ((gi h 23 4) - k).toNat → gi h306 24 j = gi h 24 (k.toNat + j) := fun j hj => (oc306 _ j (by decide)).trans ((cc305 j).trans ((if_pos (by omega)).trans ((gi_to (show Int.toNat k + (j - Int.toNat 0) = k.toNat + j by omega)).trans ((gi_a (by decide) _).trans (FRM_gi hF4 (r := 18) rfl rfl)))))
      have c2 : ∀ j, j < ((gi h 23 4) - k).toNat → gi h306 25 j = gi h 25 (k.toNat + j) := fun j hj => (cc306 j).trans ((if_pos (by omega)).trans ((gi_to (show Int.toNat k + (j - Int.toNat 0) = k.toNat + j by omega)).trans ((oc305 _ _ (by decide)).trans ((gi_a (by decide) _).trans (FRM_gi hF4 (r := 19) rfl rfl)))))
      have e5 : kO h306 23 ((gi h 23 4) - k).toNat = (kO h 23 (gi h 23 4).toNat).drop k.toNat := by
        rw [kO_drop h 23 k.toNat (gi h 23 4).toNat (by omega), show (gi h 23 4).toNat - k.toNat = ((gi h 23 4) - k).toNat by omega]
        unfold kO
        exact List.map_congr_left fun j hj => by rw [c1 j (List.mem_range.mp hj), c2 j (List.mem_range.mp hj)]
      have ew : kS h306 23 = ((kS h 23).1, ((kO h 23 (gi h 23 4).toNat).takeWhile (fun q => decide (q.1 ≤ gi h 23 0))).foldl cpt (kS h 23).2.1, (kS h 23).2.2.1, (kS h 23).2.2.2.1, (kO h 23 (gi h 23 4).toNat).dropWhile (fun q => decide (q.1 ≤ gi h 23 0)), (kS h 23).2.2.2.2.2) := by
        rw [tw.1, tw.2, kO_take h 23 k.toNat (gi h 23 4).toNat (by omega)]
        unfold kS
        rw [show gi h306 23 0 = gi h 23 0 from (FRM_gi hF306 (r := 17) rfl rfl).trans ((FRM_gi hF305 (r := 17) rfl rfl).trans ((gi_k (by decide) _).trans (FRM_gi hF4 (r := 17) rfl rfl))), show gi h306 23 1 = (kO h 23 k.toNat).foldl cpt (gi h 23 1) from (FRM_gi hF306 (r := 17) rfl rfl).trans ((FRM_gi hF305 (r := 17) rfl rfl).trans ((gi_k (by decide) _).trans (ln))), show gi h306 23 2 = gi h 23 2 from (FRM_gi hF306 (r := 17) rfl rfl).trans ((FRM_gi hF305 (r := 17) rfl rfl).trans ((gi_k (by decide) _).trans (FRM_gi hF4 (r := 17) rfl rfl))), show gi h306 23 3 = gi h 23 3 from (FRM_gi hF306 (r := 17) rfl rfl).trans ((FRM_gi hF305 (r := 17) rfl rfl).trans ((gi_k (by decide) _).trans (FRM_gi hF4 (r := 17) rfl rfl))), show gi h306 23 4 = (gi h 23 4) - k from (FRM_gi hF306 (r := 17) rfl rfl).trans ((FRM_gi hF305 (r := 17) rfl rfl).trans (gi_same (by omega))), e5]
        rw [show gi h306 (23 + 3) = gi h (23 + 3) from funext fun j => (FRM_gi hF306 (r := 20) rfl rfl).trans ((FRM_gi hF305 (r := 20) rfl rfl).trans ((gi_a (by decide) _).trans (FRM_gi hF4 (r := 20) rfl rfl))), show gi h306 (23 + 4) = gi h (23 + 4) from funext fun j => (FRM_gi hF306 (r := 21) rfl rfl).trans ((FRM_gi hF305 (r := 21) rfl rfl).trans ((gi_a (by decide) _).trans (FRM_gi hF4 (r := 21) rfl rfl)))]
      exact x_vret hK rfl ⟨rfl, hG306, ((FRM_w ((hF4).mono rfl) (r := 17) rfl rfl).trans ((hF305).mono rfl)).trans ((hF306).mono rfl), ew⟩
    · refine x_aload_n 11 hK rfl rfl l0 ?_
      refine x_getR 14 hK rfl rfl (sp_23 (h := h4) hG4) (rf_23_5 (h := h4) hG4) ?_
      refine x_iload_n 15 hK rfl rfl l1 ?_
      have g307 := gi_r h 24 k.toNat
      refine x_ialoadE 16 hK rfl rfl (sp_24 (h := h4) hG4) (by omega) (by omega) (by omega) (e' := (gi h 24 k.toNat)) (FRM_gi hF4 (r := 18) rfl rfl) ?_
      refine x_aload_n 17 hK rfl rfl l0 ?_
      have g308 := gi_r h 23 0
      refine x_getE 20 hK rfl (Or.inl rfl) rfl (sp_23 (h := h4) hG4) (e := (gi h 23 0)) (FRM_gi hF4 (r := 17) rfl rfl) ?_
      refine x_if_icmp_gt 47 23 hK rfl rfl rfl (by omega) (by omega) (fun c36 => ?_) (fun c36 => ?_)
      · refine x_aload_n 48 hK rfl rfl l0 ?_
        refine x_dup 49 hK rfl rfl rfl ?_
        refine x_getE 52 hK rfl (Or.inl rfl) rfl (sp_23 (h := h4) hG4) (e := (gi h 23 4)) (FRM_gi hF4 (r := 17) rfl rfl) ?_
        refine x_iload_n 53 hK rfl rfl l1 ?_
        refine x_isub 54 hK rfl rfl ?_
        refine x_putI 57 hK rfl rfl (sp_23 (h := h4) hG4) ?_
        refine x_aload_n 58 hK rfl rfl l0 ?_
        refine x_getR 61 hK rfl rfl (sp_23 (h := h4) hG4) (rf_23_5 (h := h4) hG4) ?_
        refine x_iload_n 62 hK rfl rfl l1 ?_
        refine x_aload_n 63 hK rfl rfl l0 ?_
        refine x_getR 66 hK rfl rfl (sp_23 (h := h4) hG4) (rf_23_5 (h := h4) hG4) ?_
        refine x_iconst 67 hK rfl rfl ?_
        refine x_aload_n 68 hK rfl rfl l0 ?_
        refine x_getE 71 hK rfl (Or.inl rfl) rfl (sp_23 (h := h4) hG4) (e := ((gi h 23 4) - k)) (gi_same (by omega)) ?_
        refine x_acp 74 hK rfl rfl (by decide) (sp_24 (h := h4) hG4) (sp_24 (h := h4) hG4) (by omega) (by omega) (by omega) (by omega) (by omega) ?_
        obtain ⟨h309, e309⟩ : ∃ z, z = sC (wI h4 23 4 ((gi h 23 4) - k)) 24 (Int.toNat k) 24 (Int.toNat 0) (Int.toNat ((gi h 23 4) - k)) := ⟨_, rfl⟩
        rw [← e309]
        have hG309 : GD gE gRL sh h309 := by rw [e309]; exact GD_C (GD_w1 (hG4) (r := 17) rfl (by omega) rfl (by omega) (by omega)) (r := 18) rfl rfl
        have hF309 : FRM gRL [(0, 18, 0, 11)] (wI h4 23 4 ((gi h 23 4) - k)) h309 := by rw [e309]; exact FRM_C FRM.rf (r := 18) rfl fun k k1 k2 => mIn_r (x := 0) (y := 11) (by decide) k (by omega) (by omega)
        have oc309 : ∀ a9 k9, a9 ≠ 24 → gi h309 a9 k9 = gi (wI h4 23 4 ((gi h 23 4) - k)) a9 k9 := fun a9 k9 ha => by rw [e309]; exact gi_sCn ha k9
        have cc309 : ∀ j9, gi h309 24 j9 = if (Int.toNat 0) ≤ j9 ∧ j9 < (Int.toNat 0) + (Int.toNat ((gi h 23 4) - k)) then gi (wI h4 23 4 ((gi h 23 4) - k)) 24 ((Int.toNat k) + (j9 - (Int.toNat 0))) else gi (wI h4 23 4 ((gi h 23 4) - k)) 24 j9 := fun j9 => by rw [e309]; exact gi_sC j9
        refine x_aload_n 75 hK rfl rfl l0 ?_
        refine x_getR 78 hK rfl rfl (sp_23 (h := h309) hG309) (rf_23_6 (h := h309) hG309) ?_
        refine x_iload_n 79 hK rfl rfl l1 ?_
        refine x_aload_n 80 hK rfl rfl l0 ?_
        refine x_getR 83 hK rfl rfl (sp_23 (h := h309) hG309) (rf_23_6 (h := h309) hG309) ?_
        refine x_iconst 84 hK rfl rfl ?_
        refine x_aload_n 85 hK rfl rfl l0 ?_
        refine x_getE 88 hK rfl (Or.inl rfl) rfl (sp_23 (h := h309) hG309) (e := ((gi h 23 4) - k)) ((FRM_gi hF309 (r := 17) rfl rfl).trans (gi_same (by omega))) ?_
        refine x_acp 91 hK rfl rfl (by decide) (sp_25 (h := h309) hG309) (sp_25 (h := h309) hG309) (by omega) (by omega) (by omega) (by omega) (by omega) ?_
        obtain ⟨h310, e310⟩ : ∃ z, z = sC h309 25 (Int.toNat k) 25 (Int.toNat 0) (Int.toNat ((gi h 23 4) - k)) := ⟨_, rfl⟩
        rw [← e310]
        have hG310 : GD gE gRL sh h310 := by rw [e310]; exact GD_C (hG309) (r := 19) rfl rfl
        have hF310 : FRM gRL [(0, 19, 0, 11)] h309 h310 := by rw [e310]; exact FRM_C FRM.rf (r := 19) rfl fun k k1 k2 => mIn_r (x := 0) (y := 11) (by decide) k (by omega) (by omega)
        have oc310 : ∀ a9 k9, a9 ≠ 25 → gi h310 a9 k9 = gi h309 a9 k9 := fun a9 k9 ha => by rw [e310]; exact gi_sCn ha k9
        have cc310 : ∀ j9, gi h310 25 j9 = if (Int.toNat 0) ≤ j9 ∧ j9 < (Int.toNat 0) + (Int.toNat ((gi h 23 4) - k)) then gi h309 25 ((Int.toNat k) + (j9 - (Int.toNat 0))) else gi h309 25 j9 := fun j9 => by rw [e310]; exact gi_sC j9
        have tw := tw_at (p := (fun q => decide (q.1 ≤ gi h 23 0))) (L := (kO h 23 (gi h 23 4).toNat)) (k := k.toNat) (by rw [kO_l]; omega) (fun j q hj hq => by rw [kO_at (by omega)] at hq; cases hq; exact decide_eq_true (al j (by omega))) (fun q hq => by
          by_cases c : k < (gi h 23 4)
          · rw [kO_at (by omega)] at hq; cases hq; exact decide_eq_false (by show ¬ gi h 24 k.toNat ≤ gi h 23 0; omega)
          · rw [List.getElem?_eq_none (by rw [kO_l]; omega)] at hq; cases hq)
        have c1 : ∀ j, j < ((gi h 23 4) - k).toNat → gi h310 24 j = gi h 24 (k.toNat + j) := fun j hj => (oc310 _ j (by decide)).trans ((cc309 j).trans ((if_pos (by omega)).trans ((gi_to (show Int.toNat k + (j - Int.toNat 0) = k.toNat + j by omega)).trans ((gi_a (by decide) _).trans (FRM_gi hF4 (r := 18) rfl rfl)))))
        have c2 : ∀ j, j < ((gi h 23 4) - k).toNat → gi h310 25 j = gi h 25 (k.toNat + j) := fun j hj => (cc310 j).trans ((if_pos (by omega)).trans ((gi_to (show Int.toNat k + (j - Int.toNat 0) = k.toNat + j by omega)).trans ((oc309 _ _ (by decide)).trans ((gi_a (by decide) _).trans (FRM_gi hF4 (r := 19) rfl rfl)))))
        have e5 : kO h310 23 ((gi h 23 4) - k).toNat = (kO h 23 (gi h 23 4).toNat).drop k.toNat := by
          rw [kO_drop h 23 k.toNat (gi h 23 4).toNat (by omega), show (gi h 23 4).toNat - k.toNat = ((gi h 23 4) - k).toNat by omega]
          unfold kO
          exact List.map_congr_left fun j hj => by rw [c1 j (List.mem_range.mp hj), c2 j (List.mem_range.mp hj)]
        have ew : kS h310 23 = ((kS h 23).1, ((kO h 23 (gi h 23 4).toNat).takeWhile (fun q => decide (q.1 ≤ gi h 23 0))).foldl cpt (kS h 23).2.1, (kS h 23).2.2.1, (kS h 23).2.2.2.1, (kO h 23 (gi h 23 4).toNat).dropWhile (fun q => decide (q.1 ≤ gi h 23 0)), (kS h 23).2.2.2.2.2) := by
          rw [tw.1, tw.2, kO_take h 23 k.toNat (gi h 23 4).toNat (by omega)]
          unfold kS
          rw [show gi h310 23 0 = gi h 23 0 from (FRM_gi hF310 (r := 17) rfl rfl).trans ((FRM_gi hF309 (r := 17) rfl rfl).trans ((gi_k (by decide) _).trans (FRM_gi hF4 (r := 17) rfl rfl))), show gi h310 23 1 = (kO h 23 k.toNat).foldl cpt (gi h 23 1) from (FRM_gi hF310 (r := 17) rfl rfl).trans ((FRM_gi hF309 (r := 17) rfl rfl).trans ((gi_k (by decide) _).trans (ln))), show gi h310 23 2 = gi h 23 2 from (FRM_gi hF310 (r := 17) rfl rfl).trans ((FRM_gi hF309 (r := 17) rfl rfl).trans ((gi_k (by decide) _).trans (FRM_gi hF4 (r := 17) rfl rfl))), show gi h310 23 3 = gi h 23 3 from (FRM_gi hF310 (r := 17) rfl rfl).trans ((FRM_gi hF309 (r := 17) rfl rfl).trans ((gi_k (by decide) _).trans (FRM_gi hF4 (r := 17) rfl rfl))), show gi h310 23 4 = (gi h 23 4) - k from (FRM_gi hF310 (r := 17) rfl rfl).trans ((FRM_gi hF309 (r := 17) rfl rfl).trans (gi_same (by omega))), e5]
          rw [show gi h310 (23 + 3) = gi h (23 + 3) from funext fun j => (FRM_gi hF310 (r := 20) rfl rfl).trans ((FRM_gi hF309 (r := 20) rfl rfl).trans ((gi_a (by decide) _).trans (FRM_gi hF4 (r := 20) rfl rfl))), show gi h310 (23 + 4) = gi h (23 + 4) from funext fun j => (FRM_gi hF310 (r := 21) rfl rfl).trans ((FRM_gi hF309 (r := 21) rfl rfl).trans ((gi_a (by decide) _).trans (FRM_gi hF4 (r := 21) rfl rfl)))]
        exact x_vret hK rfl ⟨rfl, hG310, ((FRM_w ((hF4).mono rfl) (r := 17) rfl rfl).trans ((hF309).mono rfl)).trans ((hF310).mono rfl), ew⟩
      · refine x_aload_n 24 hK rfl rfl l0 ?_
        refine x_aload_n 25 hK rfl rfl l0 ?_
        refine x_getE 28 hK rfl (Or.inl rfl) rfl (sp_23 (h := h4) hG4) (e := ((kO h 23 k.toNat).foldl cpt (gi h 23 1))) (ln) ?_
        refine x_aload_n 29 hK rfl rfl l0 ?_
        refine x_getR 32 hK rfl rfl (sp_23 (h := h4) hG4) (rf_23_6 (h := h4) hG4) ?_
        refine x_iload_n 33 hK rfl rfl l1 ?_
        have g311 := gi_r h 25 k.toNat
        refine x_ialoadE 34 hK rfl rfl (sp_25 (h := h4) hG4) (by omega) (by omega) (by omega) (e' := (gi h 25 k.toNat)) (FRM_gi hF4 (r := 19) rfl rfl) ?_
        refine x_iadd 35 hK rfl rfl ?_
        refine x_callS 38 hK hmono rfl (Or.inr rfl) rfl [.int (I (((kO h 23 k.toNat).foldl cpt (gi h 23 1)) + (gi h 25 k.toNat)))] [.ref 23] rfl rfl (Nat.le_of_ble_eq_true rfl) (Nat.le_of_ble_eq_true rfl) (CLd_le (Nat.le_of_ble_eq_true rfl) (ctX10_keepOnSea hSP (v := (((kO h 23 k.toNat).foldl cpt (gi h 23 1)) + (gi h 25 k.toNat))) (by omega))) ?_
        rintro v9 h9 ⟨e9, rfl⟩
        rw [e9]
        clear e9
        refine x_putI 41 hK rfl rfl (sp_23 (h := h4) hG4) ?_
        refine x_iinc 44 hK rfl rfl l1 _ rfl ?_
        refine x_goto 2 hK rfl rfl ?_
        exact ih _ (by omega) (k + 1) _ _ rfl (by omega) ((by rw [tn_s k0.1, kO_s, List.foldl_append]; exact gi_same (by omega))) (fun j hj => by
          by_cases c : (j : Int) = k
          · rw [show j = k.toNat by omega]; omega
          · exact al j (by omega)) (lk1_n l0 (by decide) (Or.inl rfl)) lk1_s (GD_w1 (hG4) (r := 17) rfl (by omega) rfl (by omega) (by omega)) (FRM_w (hF4) (r := 17) rfl rfl)
  refine x_iconst 1 hK rfl rfl ?_
  refine x_istore_n 2 hK rfl rfl [(1, .int (I 0)), (0, .ref 23)] rfl ?_
  exact loop _ 0 _ _ rfl (by omega) (rfl) (fun j h1 => absurd h1 (by omega)) rfl rfl (hG) ((FRM.rf : FRM gRL [(0, 17, 1, 1)] h h))
set_option maxRecDepth 4000 in
theorem ctX8_eat {SP : CT} (hSP : MONO SP) {sh : List (Nat × Nat)} {h : aH} (hG : GD gE gRL sh h) {m e : Int} (hm : 0 ≤ m ∧ m < 8) (he : 0 ≤ e ∧ e ≤ 9) (hf : 0 ≤ gi h 26 m.toNat ∧ gi h 26 m.toNat ≤ 99) (hu : 0 ≤ gi h 27 m.toNat ∧ gi h 27 m.toNat ≤ 1000000) : CLd SP 1 mX8_eat [.ref 23, .int (I m), .int (I e)] h 0 0 (fun rv h' => rv = some (.int (I (if gi h 26 m.toNat < e then 0 else 1))) ∧ GD gE gRL sh h' ∧ FRM gRL [(0, 20, 0, 7), (0, 21, 0, 7)] h h' ∧ (∀ j, gi h' 26 j = if j = m.toNat then fdS (gi h 26 m.toNat) e else gi h 26 j) ∧ ∀ j, gi h' 27 j = if j = m.toNat then huS (gi h 27 m.toNat) (gi h 26 m.toNat) e else gi h 27 j) := by
  refine x_met _ rfl (Nat.le_of_ble_eq_true rfl) (fun K hK => ?_)
  have hmono := MONO_CLd hSP 0
  refine x_aload_n 1 hK rfl rfl rfl ?_
  refine x_getR 4 hK rfl rfl (sp_23 (h := h) hG) (rf_23_7 (h := h) hG) ?_
  refine x_iload_n 5 hK rfl rfl rfl ?_
  have g317 := gi_r h 26 m.toNat
  refine x_ialoadE 6 hK rfl rfl (sp_26 (h := h) hG) (by omega) (by omega) (by omega) (e' := (gi h 26 m.toNat)) (rfl) ?_
  refine x_iload_n 7 hK rfl rfl rfl ?_
  refine x_if_icmp_ge 29 10 hK rfl rfl rfl (by omega) (by omega) (fun c6 => ?_) (fun c6 => ?_)
  · refine x_aload_n 30 hK rfl rfl rfl ?_
    refine x_getR 33 hK rfl rfl (sp_23 (h := h) hG) (rf_23_7 (h := h) hG) ?_
    refine x_iload_n 34 hK rfl rfl rfl ?_
    refine x_dup2 35 hK rfl rfl rfl rfl ?_
    refine x_ialoadE 36 hK rfl rfl (sp_26 (h := h) hG) (by omega) (by omega) (by omega) (e' := (gi h 26 m.toNat)) (rfl) ?_
    refine x_iload_n 37 hK rfl rfl rfl ?_
    refine x_isub 38 hK rfl rfl ?_
    refine x_iastore 39 hK rfl rfl (sp_26 (h := h) hG) (by omega) (by omega) (by omega) ?_
    refine x_iconst 40 hK rfl rfl ?_
    have f1 : ∀ j, gi (wI h 26 m.toNat ((gi h 26 m.toNat) - e)) 26 j = if j = m.toNat then fdS (gi h 26 m.toNat) e else gi h 26 j := fun j => by
      by_cases c : j = m.toNat
      · rw [if_pos c, c]
        unfold fdS
        rw [if_neg (by omega)]
        exact gi_same (by omega)
      · rw [if_neg c]
        exact gi_k c _
    have f2 : ∀ j, gi (wI h 26 m.toNat ((gi h 26 m.toNat) - e)) 27 j = if j = m.toNat then huS (gi h 27 m.toNat) (gi h 26 m.toNat) e else gi h 27 j := fun j => by
      by_cases c : j = m.toNat
      · rw [if_pos c, c]
        unfold huS
        rw [if_neg (by omega)]
        exact gi_a (by decide) _
      · rw [if_neg c]
        exact gi_a (by decide) _
    exact x_zret hK rfl (by omega) ⟨by rw [if_neg (by omega)], GD_wn (hG) (r := 20) rfl rfl, FRM_wn 0 7 ((FRM.rf : FRM gRL [(0, 20, 0, 7), (0, 21, 0, 7)] h h)) (r := 20) rfl rfl rfl (by omega) (by omega), f1, f2⟩
  · refine x_aload_n 11 hK rfl rfl rfl ?_
    refine x_getR 14 hK rfl rfl (sp_23 (h := h) hG) (rf_23_7 (h := h) hG) ?_
    refine x_iload_n 15 hK rfl rfl rfl ?_
    refine x_iconst 16 hK rfl rfl ?_
    refine x_iastore 17 hK rfl rfl (sp_26 (h := h) hG) (by omega) (by omega) (by omega) ?_
    refine x_aload_n 18 hK rfl rfl rfl ?_
    refine x_getR 21 hK rfl rfl (sp_23 (h := h) hG) (rf_23_8 (h := h) hG) ?_
    refine x_iload_n 22 hK rfl rfl rfl ?_
    refine x_dup2 23 hK rfl rfl rfl rfl ?_
    have g318 := gi_r h 27 m.toNat
    refine x_ialoadE 24 hK rfl rfl (sp_27 (h := h) hG) (by omega) (by omega) (by omega) (e' := (gi h 27 m.toNat)) (gi_a (by decide) _) ?_
    refine x_iconst 25 hK rfl rfl ?_
    refine x_iadd 26 hK rfl rfl ?_
    refine x_iastore 27 hK rfl rfl (sp_27 (h := h) hG) (by omega) (by omega) (by omega) ?_
    refine x_iconst 28 hK rfl rfl ?_
    have f1 : ∀ j, gi (wI (wI h 26 m.toNat 0) 27 m.toNat ((gi h 27 m.toNat) + 1)) 26 j = if j = m.toNat then fdS (gi h 26 m.toNat) e else gi h 26 j := fun j => by
      by_cases c : j = m.toNat
      · rw [if_pos c, c]
        unfold fdS
        rw [if_pos (by omega)]
        exact (gi_a (by decide) _).trans (gi_same (by omega))
      · rw [if_neg c]
        exact (gi_a (by decide) _).trans (gi_k c _)
    have f2 : ∀ j, gi (wI (wI h 26 m.toNat 0) 27 m.toNat ((gi h 27 m.toNat) + 1)) 27 j = if j = m.toNat then huS (gi h 27 m.toNat) (gi h 26 m.toNat) e else gi h 27 j := fun j => by
      by_cases c : j = m.toNat
      · rw [if_pos c, c]
        unfold huS
        rw [if_pos (by omega)]
        exact gi_same (by omega)
      · rw [if_neg c]
        exact (gi_k c _).trans (gi_a (by decide) _)
    exact x_zret hK rfl (by omega) ⟨by rw [if_pos (by omega)], GD_wn (GD_wn (hG) (r := 20) rfl rfl) (r := 21) rfl rfl, FRM_wn 0 7 (FRM_wn 0 7 ((FRM.rf : FRM gRL [(0, 20, 0, 7), (0, 21, 0, 7)] h h)) (r := 20) rfl rfl rfl (by omega) (by omega)) (r := 21) rfl rfl rfl (by omega) (by omega), f1, f2⟩
set_option maxRecDepth 4000 in
theorem ctX8_gaveNow {SP : CT} (hSP : MONO SP) {sh : List (Nat × Nat)} {h : aH} (hG : GD gE gRL sh h) : CLd SP 1 mX8_gaveNow [.ref 23] h 0 0 (fun rv h' => h' = h ∧ rv = some (.int (I (if gi h 23 3 = gi h 23 0 then 1 else 0)))) := by
  refine x_met _ rfl (Nat.le_of_ble_eq_true rfl) (fun K hK => ?_)
  have hmono := MONO_CLd hSP 0
  refine x_aload_n 1 hK rfl rfl rfl ?_
  have g319 := gi_r h 23 3
  refine x_getE 4 hK rfl (Or.inl rfl) rfl (sp_23 (h := h) hG) (e := (gi h 23 3)) (rfl) ?_
  refine x_aload_n 5 hK rfl rfl rfl ?_
  have g320 := gi_r h 23 0
  refine x_getE 8 hK rfl (Or.inl rfl) rfl (sp_23 (h := h) hG) (e := (gi h 23 0)) (rfl) ?_
  refine x_if_icmp_ne 15 11 hK rfl rfl rfl (by omega) (by omega) (fun c5 => ?_) (fun c5 => ?_)
  · refine x_iconst 16 hK rfl rfl ?_
    exact x_zret hK rfl (by omega) ⟨rfl, by first | rw [if_pos (by omega)] | rw [if_neg (by omega)]⟩
  · refine x_iconst 12 hK rfl rfl ?_
    refine x_goto 16 hK rfl rfl ?_
    exact x_zret hK rfl (by omega) ⟨rfl, by first | rw [if_pos (by omega)] | rw [if_neg (by omega)]⟩
