/-! WHO FASTS -/
noncomputable def bc1 (x : Int) : Int := x - bAnd (bUsh x 1) 1431655765
noncomputable def bc2 (y : Int) : Int := bAnd y 858993459 + bAnd (bUsh y 2) 858993459
noncomputable def bc3 (y : Int) : Int := bAnd (y + bUsh y 4) 252645135
noncomputable def bc4 (y : Int) : Int := y + bUsh y 8
noncomputable def bc5 (y : Int) : Int := y + bUsh y 16
noncomputable def bcF (x : Int) : Int := bAnd (bc5 (bc4 (bc3 (bc2 (bc1 x))))) 63
theorem bcF_r (x : Int) : r32 (bcF x) := bAnd_r _ _
/-- what MESSES EAT in n STEPS, but for those of a set -/
noncomputable def esF (ea : Nat → Int) (n set : Int) : Nat → Int
  | 0 => 0
  | i + 1 => esF ea n set i + if bAnd (bShr set i) 1 = 1 then 0 else ea i * n
theorem esF_s {ea : Nat → Int} {n set i : Int} (h : 0 ≤ i) : esF ea n set (i + 1).toNat = esF ea n set i.toNat + if bAnd (bShr set i) 1 = 1 then 0 else ea i.toNat * n := by
  rw [tn_s h]
  show esF ea n set i.toNat + (if bAnd (bShr set (i.toNat : Int)) 1 = 1 then 0 else ea i.toNat * n) = _
  rw [show ((i.toNat : Nat) : Int) = i by omega]
theorem en_b {e n : Int} (he : 0 ≤ e ∧ e ≤ 9) (hn : 0 ≤ n ∧ n ≤ 99) : 0 ≤ e * n ∧ e * n ≤ 891 := by
  have p0 : 0 ≤ e * n := Int.mul_nonneg he.1 hn.1
  have p1 : e * n ≤ 9 * 99 := Int.mul_le_mul he.2 hn.2 hn.1 (by omega)
  omega
theorem esF_b {ea : Nat → Int} {n set m : Int} (hn : 0 ≤ n ∧ n ≤ 99) (he : ∀ j : Nat, (j : Int) < m → 0 ≤ ea j ∧ ea j ≤ 9) : ∀ i : Nat, (i : Int) ≤ m → 0 ≤ esF ea n set i ∧ esF ea n set i ≤ 891 * i
  | 0, _ => ⟨Int.le_refl _, Int.le_refl _⟩
  | i + 1, h => by
    have ih := esF_b (set := set) hn he i (by omega)
    have z := en_b (he i (by omega)) hn
    show 0 ≤ esF ea n set i + (if bAnd (bShr set i) 1 = 1 then 0 else ea i * n) ∧ esF ea n set i + (if bAnd (bShr set i) 1 = 1 then 0 else ea i * n) ≤ 891 * ((i + 1 : Nat) : Int)
    split <;> omega
noncomputable def rsF (fd ea : Nat → Int) (n ms set : Int) : Int := sumF fd 0 ms.toNat - esF ea n set ms.toNat
theorem shl1 {m : Int} (h : 1 ≤ m ∧ m ≤ 8) : 2 ≤ bShl 1 m ∧ bShl 1 m ≤ 256 ∧ ∀ i : Nat, (i : Int) < m → bAnd (bShr (bShl 1 m - 1) i) 1 = 1 := by
  obtain ⟨n, rfl⟩ : ∃ n : Nat, m = n := ⟨m.toNat, by omega⟩
  have k : ∀ n : Nat, n < 9 → 1 ≤ n → 2 ≤ bShl 1 n ∧ bShl 1 n ≤ 256 := by decide +kernel
  have k2 : ∀ n : Nat, n < 9 → ∀ i : Nat, i < n → bAnd (bShr (bShl 1 n - 1) i) 1 = 1 := by decide +kernel
  have a := k n (by omega) (by omega)
  exact ⟨a.1, a.2, fun i hi => k2 n (by omega) i (by omega)⟩
theorem es_0 {ea : Nat → Int} {n set : Int} : ∀ i : Nat, (∀ j : Nat, j < i → bAnd (bShr set j) 1 = 1) → esF ea n set i = 0
  | 0, _ => rfl
  | i + 1, h => by
    show esF ea n set i + (if bAnd (bShr set i) 1 = 1 then 0 else ea i * n) = 0
    rw [es_0 i fun j hj => h j (by omega), if_pos (h i (by omega))]
    rfl
/-- b is the set of fewest, of those that S holds -/
noncomputable def FB (rs : Int → Int) (S : Int → Prop) (b : Int) : Prop := 0 ≤ rs b ∧ ∀ s : Int, S s → 0 ≤ rs s → bcF b < bcF s ∨ (bcF b = bcF s ∧ b ≤ s)
theorem FB_u {rs : Int → Int} {S : Int → Prop} {b b' : Int} (hb : S b) (hb' : S b') (h : FB rs S b) (h' : FB rs S b') : b = b' := by
  have z := h.2 b' hb' h'.1
  have y := h'.2 b hb h.1
  omega
set_option maxRecDepth 4000 in
theorem ctJ6_bitCount_0f7a4F {SP : CT} (hSP : MONO SP) {h : aH} {x : Int} : CLd SP 1 mJ6_bitCount_0f7a4 [.int (I x)] h 0 0 (fun rv h' => h' = h ∧ rv = some (.int (I (bcF x)))) := by
  refine x_met _ rfl (Nat.le_of_ble_eq_true rfl) (fun K hK => ?_)
  have hmono := MONO_CLd hSP 0
  refine x_iload_n 1 hK rfl rfl rfl ?_
  refine x_iload_n 2 hK rfl rfl rfl ?_
  refine x_iconst 3 hK rfl rfl ?_
  have g578 := bUsh_r x 1
  refine x_iushrF 4 hK rfl rfl ?_
  refine x_ldc_w 7 hK rfl rfl ?_
  have g579 := bAnd_r (bUsh x 1) 1431655765
  refine x_iandF 8 hK rfl rfl ?_
  refine x_isub 9 hK rfl rfl ?_
  change K 9 _ (.int (I (bc1 x)) :: _) _ _ _
  refine x_istore_n 10 hK rfl rfl [(0, .int (I (bc1 x)))] rfl ?_
  refine x_iload_n 11 hK rfl rfl rfl ?_
  refine x_ldc_w 14 hK rfl rfl ?_
  have g580 := bAnd_r (bc1 x) 858993459
  refine x_iandF 15 hK rfl rfl ?_
  refine x_iload_n 16 hK rfl rfl rfl ?_
  refine x_iconst 17 hK rfl rfl ?_
  have g581 := bUsh_r (bc1 x) 2
  refine x_iushrF 18 hK rfl rfl ?_
  refine x_ldc_w 21 hK rfl rfl ?_
  have g582 := bAnd_r (bUsh (bc1 x) 2) 858993459
  refine x_iandF 22 hK rfl rfl ?_
  refine x_iadd 23 hK rfl rfl ?_
  change K 23 _ (.int (I (bc2 (bc1 x))) :: _) _ _ _
  refine x_istore_n 24 hK rfl rfl [(0, .int (I (bc2 (bc1 x))))] rfl ?_
  refine x_iload_n 25 hK rfl rfl rfl ?_
  refine x_iload_n 26 hK rfl rfl rfl ?_
  refine x_iconst 27 hK rfl rfl ?_
  have g583 := bUsh_r (bc2 (bc1 x)) 4
  refine x_iushrF 28 hK rfl rfl ?_
  refine x_iadd 29 hK rfl rfl ?_
  refine x_ldc_w 32 hK rfl rfl ?_
  have g584 := bAnd_r ((bc2 (bc1 x)) + (bUsh (bc2 (bc1 x)) 4)) 252645135
  refine x_iandF 33 hK rfl rfl ?_
  change K 33 _ (.int (I (bc3 (bc2 (bc1 x)))) :: _) _ _ _
  refine x_istore_n 34 hK rfl rfl [(0, .int (I (bc3 (bc2 (bc1 x)))))] rfl ?_
  refine x_iload_n 35 hK rfl rfl rfl ?_
  refine x_iload_n 36 hK rfl rfl rfl ?_
  refine x_bipush 38 hK rfl rfl rfl ?_
  have g585 := bUsh_r (bc3 (bc2 (bc1 x))) 8
  refine x_iushrF 39 hK rfl rfl ?_
  refine x_iadd 40 hK rfl rfl ?_
  change K 40 _ (.int (I (bc4 (bc3 (bc2 (bc1 x))))) :: _) _ _ _
  refine x_istore_n 41 hK rfl rfl [(0, .int (I (bc4 (bc3 (bc2 (bc1 x))))))] rfl ?_
  refine x_iload_n 42 hK rfl rfl rfl ?_
  refine x_iload_n 43 hK rfl rfl rfl ?_
  refine x_bipush 45 hK rfl rfl rfl ?_
  have g586 := bUsh_r (bc4 (bc3 (bc2 (bc1 x)))) 16
  refine x_iushrF 46 hK rfl rfl ?_
  refine x_iadd 47 hK rfl rfl ?_
  change K 47 _ (.int (I (bc5 (bc4 (bc3 (bc2 (bc1 x)))))) :: _) _ _ _
  refine x_istore_n 48 hK rfl rfl [(0, .int (I (bc5 (bc4 (bc3 (bc2 (bc1 x)))))))] rfl ?_
  refine x_iload_n 49 hK rfl rfl rfl ?_
  refine x_bipush 51 hK rfl rfl rfl ?_
  have g587 := bAnd_r (bc5 (bc4 (bc3 (bc2 (bc1 x))))) 63
  refine x_iandF 52 hK rfl rfl ?_
  exact x_iret hK rfl ⟨rfl, rfl⟩
set_option maxRecDepth 4000 in
theorem ctX10_foodLeftF {SP : CT} (hSP : MONO SP) {sh : List (Nat × Nat)} {h : aH} (hG : GD gE gRL sh h) {fd ea : Nat → Int} (hf : ∀ j : Nat, (j : Int) < gi h 0 9 → gi h 26 j = fd j ∧ 0 ≤ fd j ∧ fd j ≤ 99) (he : ∀ j : Nat, (j : Int) < gi h 0 9 → gi h 22 j = ea j ∧ 0 ≤ ea j ∧ ea j ≤ 9) {z n : Int} (hn : 0 ≤ n ∧ n ≤ 99) : CLd SP 1 mX10_foodLeft [.ref 0, .int (I z), .int (I n)] h 0 0 (fun rv h' => h' = h ∧ rv = some (.int (I (rsF fd ea n (gi h 0 9) z)))) := by
  refine x_met _ rfl (Nat.le_of_ble_eq_true rfl) (fun K hK => ?_)
  have hmono := MONO_CLd hSP 0
  have g9 := gri 0 8 hG (a := 0) (r := 0) (k := 9) rfl rfl
  have loop : ∀ (mz : Nat) (c i : Int) (ls : List (Nat × Value)), ((gi h 0 9 - i).toNat = mz) → (0 ≤ i ∧ i ≤ gi h 0 9) → (c = sumF fd 0 i.toNat - esF ea n z i.toNat) → lk ls 0 = some (.ref 0) → lk ls 1 = some (.int (I z)) → lk ls 2 = some (.int (I n)) → lk ls 3 = some (.int (I c)) → lk ls 4 = some (.int (I i)) → K 5 ls [] h 0 0 := by
    intro mz
    induction mz using Nat.strongRecOn with
    | ind mz ih =>
    intro c i ls hm i0 c0 l0 l1 l2 l3 l4
    have sb := sumF_b (f := fd) (a := 0) (B := 99) (m := gi h 0 9) (by omega) (by omega) (fun j hj => (hf j hj).2) i.toNat (by omega)
    have tb := esF_b (set := z) (m := gi h 0 9) hn (fun j hj => (he j hj).2) i.toNat (by omega)
    have fi := fun y : i < gi h 0 9 => hf i.toNat (by omega)
    have ei := fun y : i < gi h 0 9 => he i.toNat (by omega)
    have ss := sumF_s (f := fd) i0.1
    rw [Int.sub_zero, Int.sub_zero] at ss
    refine x_iload 7 hK rfl rfl l4 ?_
    refine x_aload_n 8 hK rfl rfl l0 ?_
    have g588 := gri (0) (8) hG (a := 0) (r := 0) (k := 9) rfl rfl
    refine x_getE 11 hK rfl (Or.inl rfl) rfl (sp_0 (h := h) hG) (e := (gi h 0 9)) (rfl) ?_
    refine x_if_icmp_ge 59 14 hK rfl rfl rfl (by omega) (by omega) (fun c4 => ?_) (fun c4 => ?_)
    · refine x_iload_n 60 hK rfl rfl l3 ?_
      exact x_iret hK rfl ⟨rfl, by rw [c0, show i.toNat = (gi h 0 9).toNat by omega]; rfl⟩
    · have fi2 := fi (by omega)
      have ei2 := ei (by omega)
      have nb := en_b ei2.2 hn
      refine x_iload_n 15 hK rfl rfl l3 ?_
      refine x_aload_n 16 hK rfl rfl l0 ?_
      refine x_getR 19 hK rfl rfl (sp_0 (h := h) hG) (rf_0_10 (h := h) hG) ?_
      refine x_getR 22 hK rfl rfl (sp_23 (h := h) hG) (rf_23_7 (h := h) hG) ?_
      refine x_iload 24 hK rfl rfl l4 ?_
      refine x_ialoadE 25 hK rfl rfl (sp_26 (h := h) hG) (by omega) (by omega) (by omega) (e' := (fd i.toNat)) ((fi (by omega)).1) ?_
      refine x_iadd 26 hK rfl rfl ?_
      refine x_istore_n 27 hK rfl rfl _ rfl ?_
      refine x_iload_n 28 hK rfl rfl lk1_s ?_
      refine x_iload_n 29 hK rfl rfl (lk1_n l1 (by decide) (Or.inl rfl)) ?_
      refine x_iload 31 hK rfl rfl (lk1_n l4 (by decide) (Or.inl rfl)) ?_
      have g589 := bShr_r z i
      refine x_ishrF 32 hK rfl rfl ?_
      refine x_iconst 33 hK rfl rfl ?_
      have g590 := bAnd_r (bShr z i) 1
      refine x_iandF 34 hK rfl rfl ?_
      refine x_iconst 35 hK rfl rfl ?_
      refine x_if_icmp_ne 42 38 hK rfl rfl rfl (by omega) (by omega) (fun c23 => ?_) (fun c23 => ?_)
      · refine x_aload_n 43 hK rfl rfl (lk1_n l0 (by decide) (Or.inl rfl)) ?_
        refine x_getR 46 hK rfl rfl (sp_0 (h := h) hG) (rf_0_8 (h := h) hG) ?_
        refine x_iload 48 hK rfl rfl (lk1_n l4 (by decide) (Or.inl rfl)) ?_
        refine x_ialoadE 49 hK rfl rfl (sp_22 (h := h) hG) (by omega) (by omega) (by omega) (e' := (ea i.toNat)) ((ei (by omega)).1) ?_
        refine x_iload_n 50 hK rfl rfl (lk1_n l2 (by decide) (Or.inl rfl)) ?_
        refine x_imul 51 hK rfl rfl ?_
        refine x_isub 52 hK rfl rfl ?_
        refine x_istore_n 53 hK rfl rfl _ rfl ?_
        refine x_iinc 56 hK rfl rfl (lk1_n (lk1_n l4 (by decide) (Or.inl rfl)) (by decide) (Or.inl rfl)) _ rfl ?_
        refine x_goto 5 hK rfl rfl ?_
        exact ih _ (by omega) ((c + (fd i.toNat)) - ((ea i.toNat) * n)) (i + 1) _ rfl (by omega) (by rw [ss, esF_s i0.1, if_neg (by omega), c0]; omega) (lk1_n (lk1_n (lk1_n l0 (by decide) (Or.inl rfl)) (by decide) (Or.inl rfl)) (by decide) (Or.inl rfl)) (lk1_n (lk1_n (lk1_n l1 (by decide) (Or.inl rfl)) (by decide) (Or.inl rfl)) (by decide) (Or.inl rfl)) (lk1_n (lk1_n (lk1_n l2 (by decide) (Or.inl rfl)) (by decide) (Or.inl rfl)) (by decide) (Or.inl rfl)) (lk1_n lk1_s (by decide) (Or.inl rfl)) lk1_s
      · refine x_iconst 39 hK rfl rfl ?_
        refine x_goto 51 hK rfl rfl ?_
        refine x_isub 52 hK rfl rfl ?_
        refine x_istore_n 53 hK rfl rfl _ rfl ?_
        refine x_iinc 56 hK rfl rfl (lk1_n (lk1_n l4 (by decide) (Or.inl rfl)) (by decide) (Or.inl rfl)) _ rfl ?_
        refine x_goto 5 hK rfl rfl ?_
        exact ih _ (by omega) ((c + (fd i.toNat)) - 0) (i + 1) _ rfl (by omega) (by rw [ss, esF_s i0.1, if_pos (by omega), c0]; omega) (lk1_n (lk1_n (lk1_n l0 (by decide) (Or.inl rfl)) (by decide) (Or.inl rfl)) (by decide) (Or.inl rfl)) (lk1_n (lk1_n (lk1_n l1 (by decide) (Or.inl rfl)) (by decide) (Or.inl rfl)) (by decide) (Or.inl rfl)) (lk1_n (lk1_n (lk1_n l2 (by decide) (Or.inl rfl)) (by decide) (Or.inl rfl)) (by decide) (Or.inl rfl)) (lk1_n lk1_s (by decide) (Or.inl rfl)) lk1_s
  refine x_iconst 1 hK rfl rfl ?_
  refine x_istore_n 2 hK rfl rfl [(3, .int (I 0)), (0, .ref 0), (1, .int (I z)), (2, .int (I n))] rfl ?_
  refine x_iconst 3 hK rfl rfl ?_
  refine x_istore 5 hK rfl rfl [(4, .int (I 0)), (3, .int (I 0)), (0, .ref 0), (1, .int (I z)), (2, .int (I n))] rfl ?_
  exact loop _ 0 0 _ rfl (by omega) (rfl) rfl rfl rfl rfl rfl
set_option maxRecDepth 4000 in
theorem ctX10_fastF {SP : CT} (hSP : MONO SP) {sh : List (Nat × Nat)} {h : aH} (hG : GD gE gRL sh h) {fd ea : Nat → Int} (hf : ∀ j : Nat, (j : Int) < gi h 0 9 → gi h 26 j = fd j ∧ 0 ≤ fd j ∧ fd j ≤ 99) (he : ∀ j : Nat, (j : Int) < gi h 0 9 → gi h 22 j = ea j ∧ 0 ≤ ea j ∧ ea j ≤ 9) {n : Int} (rn : r32 n) : CLd SP 3 mX10_fast [.ref 0, .int (I n)] h 0 0 (fun rv h' => ((¬ ((0 ≤ n ∧ n ≤ 99) ∧ gi h 0 9 ≠ 0) ∧ rv = some (.int (I (-1))) ∧ h' = h) ∨ (((0 ≤ n ∧ n ≤ 99) ∧ gi h 0 9 ≠ 0) ∧ ∃ e : Int, rv = some (.int (I e)) ∧ (0 ≤ e ∧ e < (bShl 1 (gi h 0 9))) ∧ FB (fun s => rsF fd ea n (gi h 0 9) s) (fun s => 0 ≤ s ∧ s < (bShl 1 (gi h 0 9))) e ∧ gi h' 3 1 = 2 ∧ crow h' = [bcF e, (rsF fd ea n (gi h 0 9) e)])) ∧ GD gE gRL sh h' ∧ FRM gRL [(0, 3, 1, 1), (1, 4, 0, 29)] h h') := by
  refine x_met _ rfl (Nat.le_of_ble_eq_true rfl) (fun K hK => ?_)
  have hmono := MONO_CLd hSP 2
  have g9 := gri 0 8 hG (a := 0) (r := 0) (k := 9) rfl rfl
  have s1 := fun z : 1 ≤ gi h 0 9 => shl1 ⟨z, g9.2⟩
  have rb : ∀ s, 0 ≤ n ∧ n ≤ 99 → -8000 ≤ rsF fd ea n (gi h 0 9) s ∧ rsF fd ea n (gi h 0 9) s ≤ 8000 := fun s hn => by
    have sb := sumF_b (f := fd) (a := 0) (B := 99) (m := gi h 0 9) (by omega) (by omega) (fun j hj => (hf j hj).2) (gi h 0 9).toNat (by omega)
    have tb := esF_b (set := s) (m := gi h 0 9) hn (fun j hj => (he j hj).2) (gi h 0 9).toNat (by omega)
    unfold rsF
    omega
  have loop : ∀ (mz : Nat) (b_ f i : Int) (ls : List (Nat × Value)), ((i + 1).toNat = mz) → ((0 ≤ n ∧ n ≤ 99) ∧ gi h 0 9 ≠ 0) → (-1 ≤ i ∧ i < (bShl 1 (gi h 0 9)) - 1) → (i < b_ ∧ b_ < (bShl 1 (gi h 0 9))) → (f = (rsF fd ea n (gi h 0 9) b_)) → (FB (fun s => rsF fd ea n (gi h 0 9) s) (fun s => i < s ∧ s < (bShl 1 (gi h 0 9))) b_) → lk ls 0 = some (.ref 0) → lk ls 1 = some (.int (I n)) → lk ls 2 = some (.int (I b_)) → lk ls 3 = some (.int (I f)) → lk ls 4 = some (.int (I i)) → K 40 ls [] h 0 0 := by
    intro mz
    induction mz using Nat.strongRecOn with
    | ind mz ih =>
    intro b_ f i ls hm n0 i0 b0 f0 fb l0 l1 l2 l3 l4
    have s2 := s1 (by omega)
    have rbb := rb b_ n0.1
    have rbi := rb i n0.1
    have bcb := bcF_r b_
    refine x_iload 42 hK rfl rfl l4 ?_
    refine x_if_lt 83 45 hK rfl rfl rfl (by omega) (fun c2 => ?_) (fun c2 => ?_)
    · refine x_aload_n 84 hK rfl rfl l0 ?_
      refine x_getR 87 hK rfl rfl (sp_0 (h := h) hG) (rf_0_1 (h := h) hG) ?_
      refine x_iload_n 88 hK rfl rfl l2 ?_
      have bz591 := bcF_r b_
      refine x_callS 91 hK hmono rfl (Or.inl rfl) rfl [.int (I b_)] [.ref 3] rfl rfl (Nat.le_of_ble_eq_true rfl) (Nat.le_of_ble_eq_true rfl) (CLd_le (Nat.le_of_ble_eq_true rfl) (ctJ6_bitCount_0f7a4F hSP (x := b_))) ?_
      rintro v9 h9 ⟨e9, rfl⟩
      rw [e9]
      clear e9
      refine x_i2l 92 hK rfl rfl (by omega) ?_
      refine x_iload_n 93 hK rfl rfl l3 ?_
      refine x_i2l 94 hK rfl rfl (by omega) ?_
      refine x_callV 97 hK hmono rfl rfl [.ref 3, .long (J (bcF b_)), .long (J f)] [] rfl rfl (Nat.le_of_ble_eq_true rfl) (Nat.le_of_ble_eq_true rfl) rfl (sp_3 (h := h) hG) (CLd_le (Nat.le_of_ble_eq_true rfl) (ctX3_tellTwo hSP hG (by omega) (by omega))) ?_
      rintro v592 h592 ⟨rfl, hG592, hF592, t592, s592⟩
      refine x_iload_n 98 hK rfl rfl l2 ?_
      obtain ei : i = -1 := by omega
      have ff : FB (fun s => rsF fd ea n (gi h 0 9) s) (fun s => 0 ≤ s ∧ s < (bShl 1 (gi h 0 9))) b_ := ⟨fb.1, fun s hs r0 => fb.2 s (by have hs : 0 ≤ s ∧ s < (bShl 1 (gi h 0 9)) := hs; exact ⟨by omega, hs.2⟩) r0⟩
      exact x_iret hK rfl ⟨Or.inr ⟨n0, b_, rfl, by omega, ff, t592, by rw [← f0]; exact s592⟩, hG592, hF592⟩
    · refine x_aload_n 46 hK rfl rfl l0 ?_
      refine x_iload 48 hK rfl rfl l4 ?_
      refine x_iload_n 49 hK rfl rfl l1 ?_
      refine x_callV 52 hK hmono rfl rfl [.ref 0, .int (I i), .int (I n)] [] rfl rfl (Nat.le_of_ble_eq_true rfl) (Nat.le_of_ble_eq_true rfl) rfl (sp_0 (h := h) hG) (CLd_le (Nat.le_of_ble_eq_true rfl) (ctX10_foodLeftF hSP hG hf he (z := i) (n := n) (by omega))) ?_
      rintro v9 h9 ⟨e9, rfl⟩
      rw [e9]
      clear e9
      have rz593 := rb i (by omega)
      refine x_istore 54 hK rfl rfl _ rfl ?_
      refine x_iload 56 hK rfl rfl lk1_s ?_
      refine x_if_lt 77 59 hK rfl rfl rfl (by omega) (fun c19 => ?_) (fun c19 => ?_)
      · refine x_iinc 80 hK rfl rfl (lk1_n l4 (by decide) (Or.inl rfl)) _ rfl ?_
        refine x_goto 40 hK rfl rfl ?_
        have fbn : FB (fun s => rsF fd ea n (gi h 0 9) s) (fun s => i - 1 < s ∧ s < (bShl 1 (gi h 0 9))) b_ := by
          refine ⟨by show 0 ≤ (rsF fd ea n (gi h 0 9) b_); exact fb.1, fun s hs rs0 => ?_⟩
          by_cases y : s = i
          · rw [y] at rs0 ⊢
            have rs0 : 0 ≤ (rsF fd ea n (gi h 0 9) i) := rs0
            omega
          · have z := fb.2 s (by have hs : i - 1 < s ∧ s < (bShl 1 (gi h 0 9)) := hs; exact ⟨by omega, hs.2⟩) rs0
            have hs : i - 1 < s ∧ s < (bShl 1 (gi h 0 9)) := hs
            omega
        exact ih _ (by omega) b_ f (i + (-1)) _ rfl (n0) (by omega) (by omega) (f0) (fbn) (lk1_n (lk1_n l0 (by decide) (Or.inl rfl)) (by decide) (Or.inl rfl)) (lk1_n (lk1_n l1 (by decide) (Or.inl rfl)) (by decide) (Or.inl rfl)) (lk1_n (lk1_n l2 (by decide) (Or.inl rfl)) (by decide) (Or.inl rfl)) (lk1_n (lk1_n l3 (by decide) (Or.inl rfl)) (by decide) (Or.inl rfl)) lk1_s
      · refine x_iload 61 hK rfl rfl (lk1_n l4 (by decide) (Or.inl rfl)) ?_
        have bz594 := bcF_r i
        refine x_callS 64 hK hmono rfl (Or.inl rfl) rfl [.int (I i)] [] rfl rfl (Nat.le_of_ble_eq_true rfl) (Nat.le_of_ble_eq_true rfl) (CLd_le (Nat.le_of_ble_eq_true rfl) (ctJ6_bitCount_0f7a4F hSP (x := i))) ?_
        rintro v9 h9 ⟨e9, rfl⟩
        rw [e9]
        clear e9
        refine x_iload_n 65 hK rfl rfl (lk1_n l2 (by decide) (Or.inl rfl)) ?_
        have bz595 := bcF_r b_
        refine x_callS 68 hK hmono rfl (Or.inl rfl) rfl [.int (I b_)] [.int (I (bcF i))] rfl rfl (Nat.le_of_ble_eq_true rfl) (Nat.le_of_ble_eq_true rfl) (CLd_le (Nat.le_of_ble_eq_true rfl) (ctJ6_bitCount_0f7a4F hSP (x := b_))) ?_
        rintro v9 h9 ⟨e9, rfl⟩
        rw [e9]
        clear e9
        refine x_if_icmp_gt 77 71 hK rfl rfl rfl (by omega) (by omega) (fun c27 => ?_) (fun c27 => ?_)
        · refine x_iinc 80 hK rfl rfl (lk1_n l4 (by decide) (Or.inl rfl)) _ rfl ?_
          refine x_goto 40 hK rfl rfl ?_
          have fbn : FB (fun s => rsF fd ea n (gi h 0 9) s) (fun s => i - 1 < s ∧ s < (bShl 1 (gi h 0 9))) b_ := by
            refine ⟨by show 0 ≤ (rsF fd ea n (gi h 0 9) b_); exact fb.1, fun s hs rs0 => ?_⟩
            by_cases y : s = i
            · rw [y] at rs0 ⊢
              have rs0 : 0 ≤ (rsF fd ea n (gi h 0 9) i) := rs0
              omega
            · have z := fb.2 s (by have hs : i - 1 < s ∧ s < (bShl 1 (gi h 0 9)) := hs; exact ⟨by omega, hs.2⟩) rs0
              have hs : i - 1 < s ∧ s < (bShl 1 (gi h 0 9)) := hs
              omega
          exact ih _ (by omega) b_ f (i + (-1)) _ rfl (n0) (by omega) (by omega) (f0) (fbn) (lk1_n (lk1_n l0 (by decide) (Or.inl rfl)) (by decide) (Or.inl rfl)) (lk1_n (lk1_n l1 (by decide) (Or.inl rfl)) (by decide) (Or.inl rfl)) (lk1_n (lk1_n l2 (by decide) (Or.inl rfl)) (by decide) (Or.inl rfl)) (lk1_n (lk1_n l3 (by decide) (Or.inl rfl)) (by decide) (Or.inl rfl)) lk1_s
        · refine x_iload 73 hK rfl rfl (lk1_n l4 (by decide) (Or.inl rfl)) ?_
          refine x_istore_n 74 hK rfl rfl _ rfl ?_
          refine x_iload 76 hK rfl rfl (lk1_n lk1_s (by decide) (Or.inl rfl)) ?_
          refine x_istore_n 77 hK rfl rfl _ rfl ?_
          refine x_iinc 80 hK rfl rfl (lk1_n (lk1_n (lk1_n l4 (by decide) (Or.inl rfl)) (by decide) (Or.inl rfl)) (by decide) (Or.inl rfl)) _ rfl ?_
          refine x_goto 40 hK rfl rfl ?_
          have fbn : FB (fun s => rsF fd ea n (gi h 0 9) s) (fun s => i - 1 < s ∧ s < (bShl 1 (gi h 0 9))) i := by
            refine ⟨by show 0 ≤ (rsF fd ea n (gi h 0 9) i); omega, fun s hs rs0 => ?_⟩
            by_cases y : s = i
            · rw [y]; exact Or.inr ⟨rfl, Int.le_refl _⟩
            · have z := fb.2 s (by have hs : i - 1 < s ∧ s < (bShl 1 (gi h 0 9)) := hs; exact ⟨by omega, hs.2⟩) rs0
              have hs : i - 1 < s ∧ s < (bShl 1 (gi h 0 9)) := hs
              omega
          exact ih _ (by omega) i (rsF fd ea n (gi h 0 9) i) (i + (-1)) _ rfl (n0) (by omega) (by omega) (rfl) (fbn) (lk1_n (lk1_n (lk1_n (lk1_n l0 (by decide) (Or.inl rfl)) (by decide) (Or.inl rfl)) (by decide) (Or.inl rfl)) (by decide) (Or.inl rfl)) (lk1_n (lk1_n (lk1_n (lk1_n l1 (by decide) (Or.inl rfl)) (by decide) (Or.inl rfl)) (by decide) (Or.inl rfl)) (by decide) (Or.inl rfl)) (lk1_n (lk1_n lk1_s (by decide) (Or.inl rfl)) (by decide) (Or.inl rfl)) (lk1_n lk1_s (by decide) (Or.inl rfl)) lk1_s
  refine x_iload_n 1 hK rfl rfl rfl ?_
  refine x_if_lt 17 4 hK rfl rfl rfl (by omega) (fun c2 => ?_) (fun c2 => ?_)
  · refine x_iconst 18 hK rfl rfl ?_
    exact x_iret hK rfl ⟨Or.inl ⟨fun z => by have z1 := z.1; have z2 := z.2; omega, rfl, rfl⟩, hG, FRM.rf⟩
  · refine x_iload_n 5 hK rfl rfl rfl ?_
    refine x_bipush 7 hK rfl rfl rfl ?_
    refine x_if_icmp_gt 17 10 hK rfl rfl rfl (by omega) (by omega) (fun c7 => ?_) (fun c7 => ?_)
    · refine x_iconst 18 hK rfl rfl ?_
      exact x_iret hK rfl ⟨Or.inl ⟨fun z => by have z1 := z.1; have z2 := z.2; omega, rfl, rfl⟩, hG, FRM.rf⟩
    · refine x_aload_n 11 hK rfl rfl rfl ?_
      have g596 := gri (0) (8) hG (a := 0) (r := 0) (k := 9) rfl rfl
      refine x_getE 14 hK rfl (Or.inl rfl) rfl (sp_0 (h := h) hG) (e := (gi h 0 9)) (rfl) ?_
      refine x_if_ne 19 17 hK rfl rfl rfl (by omega) (fun c12 => ?_) (fun c12 => ?_)
      · have s2 := s1 (by omega)
        refine x_iconst 20 hK rfl rfl ?_
        refine x_aload_n 21 hK rfl rfl rfl ?_
        refine x_getE 24 hK rfl (Or.inl rfl) rfl (sp_0 (h := h) hG) (e := (gi h 0 9)) (rfl) ?_
        have g597 := bShl_r 1 (gi h 0 9)
        refine x_ishlF 25 hK rfl rfl ?_
        refine x_iconst 26 hK rfl rfl ?_
        refine x_isub 27 hK rfl rfl ?_
        refine x_istore_n 28 hK rfl rfl [(2, .int (I ((bShl 1 (gi h 0 9)) - 1))), (0, .ref 0), (1, .int (I n))] rfl ?_
        refine x_aload_n 29 hK rfl rfl rfl ?_
        refine x_iload_n 30 hK rfl rfl rfl ?_
        refine x_iload_n 31 hK rfl rfl rfl ?_
        refine x_callV 34 hK hmono rfl rfl [.ref 0, .int (I ((bShl 1 (gi h 0 9)) - 1)), .int (I n)] [] rfl rfl (Nat.le_of_ble_eq_true rfl) (Nat.le_of_ble_eq_true rfl) rfl (sp_0 (h := h) hG) (CLd_le (Nat.le_of_ble_eq_true rfl) (ctX10_foodLeftF hSP hG hf he (z := ((bShl 1 (gi h 0 9)) - 1)) (n := n) (by omega))) ?_
        rintro v9 h9 ⟨e9, rfl⟩
        rw [e9]
        clear e9
        have rz598 := rb ((bShl 1 (gi h 0 9)) - 1) (by omega)
        refine x_istore_n 35 hK rfl rfl [(3, .int (I (rsF fd ea n (gi h 0 9) ((bShl 1 (gi h 0 9)) - 1)))), (2, .int (I ((bShl 1 (gi h 0 9)) - 1))), (0, .ref 0), (1, .int (I n))] rfl ?_
        refine x_iload_n 36 hK rfl rfl rfl ?_
        refine x_iconst 37 hK rfl rfl ?_
        refine x_isub 38 hK rfl rfl ?_
        refine x_istore 40 hK rfl rfl [(4, .int (I (((bShl 1 (gi h 0 9)) - 1) - 1))), (3, .int (I (rsF fd ea n (gi h 0 9) ((bShl 1 (gi h 0 9)) - 1)))), (2, .int (I ((bShl 1 (gi h 0 9)) - 1))), (0, .ref 0), (1, .int (I n))] rfl ?_
        have es : esF ea n ((bShl 1 (gi h 0 9)) - 1) (gi h 0 9).toNat = 0 := es_0 _ fun j hj => s2.2.2 j (by omega)
        have sb := sumF_b (f := fd) (a := 0) (B := 99) (m := gi h 0 9) (by omega) (by omega) (fun j hj => (hf j hj).2) (gi h 0 9).toNat (by omega)
        have r0 : 0 ≤ (rsF fd ea n (gi h 0 9) ((bShl 1 (gi h 0 9)) - 1)) := by unfold rsF; rw [es]; omega
        exact loop _ ((bShl 1 (gi h 0 9)) - 1) (rsF fd ea n (gi h 0 9) ((bShl 1 (gi h 0 9)) - 1)) (((bShl 1 (gi h 0 9)) - 1) - 1) _ rfl (⟨⟨by omega, by omega⟩, by omega⟩) (by omega) (by omega) (rfl) (⟨r0, fun s hs _ => Or.inr (by have hs : ((bShl 1 (gi h 0 9)) - 1) - 1 < s ∧ s < (bShl 1 (gi h 0 9)) := hs; rw [show s = ((bShl 1 (gi h 0 9)) - 1) by omega]; exact ⟨rfl, Int.le_refl _⟩)⟩) rfl rfl rfl rfl rfl
      · refine x_iconst 18 hK rfl rfl ?_
        exact x_iret hK rfl ⟨Or.inl ⟨fun z => by have z1 := z.1; have z2 := z.2; omega, rfl, rfl⟩, hG, FRM.rf⟩
set_option maxRecDepth 4000 in
theorem ctX11_hasF {SP : CT} (hSP : MONO SP) {h : aH} {x y : Int} : CLd SP 1 mX11_has [.int (I x), .int (I y)] h 0 0 (fun rv h' => h' = h ∧ ((rv = some (.int (I 1)) ∧ bAnd (bShr x y) 1 = 1) ∨ (rv = some (.int (I 0)) ∧ ¬ bAnd (bShr x y) 1 = 1))) := by
  refine x_met _ rfl (Nat.le_of_ble_eq_true rfl) (fun K hK => ?_)
  have hmono := MONO_CLd hSP 0
  refine x_iload_n 1 hK rfl rfl rfl ?_
  refine x_iload_n 2 hK rfl rfl rfl ?_
  have g599 := bShr_r x y
  refine x_ishrF 3 hK rfl rfl ?_
  refine x_iconst 4 hK rfl rfl ?_
  have g600 := bAnd_r (bShr x y) 1
  refine x_iandF 5 hK rfl rfl ?_
  refine x_iconst 6 hK rfl rfl ?_
  refine x_if_icmp_ne 13 9 hK rfl rfl rfl (by omega) (by omega) (fun c7 => ?_) (fun c7 => ?_)
  · refine x_iconst 14 hK rfl rfl ?_
    exact x_zret hK rfl (by omega) ⟨rfl, Or.inr ⟨rfl, by omega⟩⟩
  · refine x_iconst 10 hK rfl rfl ?_
    refine x_goto 14 hK rfl rfl ?_
    exact x_zret hK rfl (by omega) ⟨rfl, Or.inl ⟨rfl, by omega⟩⟩
set_option maxRecDepth 4000 in
theorem ctX11_fastF {SP : CT} (hSP : MONO SP) {sh : List (Nat × Nat)} {h : aH} (hG : GD gE gRL sh h) {fd ea : Nat → Int} (hf : ∀ j : Nat, (j : Int) < gi h 171 7 → gi h 178 (41 + j) = fd j ∧ 0 ≤ fd j ∧ fd j ≤ 99) (he : ∀ j : Nat, (j : Int) < gi h 171 7 → gi h 177 j = ea j ∧ 0 ≤ ea j ∧ ea j ≤ 9) {n : Int} (rn : r32 n) : CLd SP 3 mX11_fast [.ref 171, .int (I n)] h 0 0 (fun rv h' => ((¬ ((0 ≤ n ∧ n ≤ 99) ∧ (gi h 171 7) ≠ 0) ∧ rv = some (.int (I (-1))) ∧ mrow h' = mrow h ∧ gi h' 171 1 = gi h 171 1) ∨ (((0 ≤ n ∧ n ≤ 99) ∧ (gi h 171 7) ≠ 0) ∧ ∃ e : Int, rv = some (.int (I e)) ∧ (0 ≤ e ∧ e < (bShl 1 (gi h 171 7))) ∧ FB (fun s => rsF fd ea n (gi h 171 7) s) (fun s => 0 ≤ s ∧ s < (bShl 1 (gi h 171 7))) e ∧ mrow h' = [bcF e, (rsF fd ea n (gi h 171 7) e)])) ∧ GD gE gRL sh h' ∧ FRM gRL [(0, 54, 0, 0), (0, 54, 1, 1), (1, 55, 0, 39)] h h') := by
  refine x_met _ rfl (Nat.le_of_ble_eq_true rfl) (fun K hK => ?_)
  have hmono := MONO_CLd hSP 2
  have g9 := gri 0 8 hG (a := 171) (r := 54) (k := 7) rfl rfl
  have s1 := fun z : 1 ≤ (gi h 171 7) => shl1 ⟨z, g9.2⟩
  have sets : ∀ (mz : Nat) (t b_ f s : Int) (h4 : aH) (ls : List (Nat × Value)), (((bShl 1 (gi h 171 7)) - s).toNat = mz) → ((0 ≤ n ∧ n ≤ 99) ∧ (gi h 171 7) ≠ 0) → (gi h4 171 1 = gi h 171 1) → (mrow h4 = mrow h) → (t = sumF fd 0 (gi h 171 7).toNat) → (0 ≤ s ∧ s ≤ (bShl 1 (gi h 171 7))) → (-8000 ≤ f ∧ f ≤ 8000 ∧ -1 ≤ b_ ∧ b_ < s) → ((b_ = -1 ∧ ∀ q : Int, 0 ≤ q → q < s → ¬ 0 ≤ (rsF fd ea n (gi h 171 7) q)) ∨ (0 ≤ b_ ∧ f = (rsF fd ea n (gi h 171 7) b_) ∧ FB (fun q => rsF fd ea n (gi h 171 7) q) (fun q => 0 ≤ q ∧ q < s) b_)) → lk ls 0 = some (.ref 171) → lk ls 1 = some (.int (I n)) → lk ls 2 = some (.int (I t)) → lk ls 3 = some (.int (I b_)) → lk ls 4 = some (.int (I f)) → lk ls 5 = some (.int (I s)) → GD gE gRL sh h4 → FRM gRL [(0, 54, 0, 0), (0, 54, 1, 1), (1, 55, 0, 39)] h h4 → K 64 ls [] h4 0 0 := by
    intro mz
    induction mz using Nat.strongRecOn with
    | ind mz ih =>
    intro t b_ f s h4 ls hm n0 r14 rw4 t0 i0 fr b0 l0 l1 l2 l3 l4 l5 hG4 hF4
    have iho := ih
    have s2 := s1 (by omega)
    have m4 : gi h4 171 7 = (gi h 171 7) := FRM_gi hF4 (r := 54) rfl (by decide)
    have bcs := bcF_r s
    have bcb := bcF_r b_
    have stb := sumF_b (f := fd) (a := 0) (B := 99) (m := (gi h 171 7)) (by omega) (by omega) (fun j hj => (hf j hj).2) (gi h 171 7).toNat (by omega)
    have inner : ∀ (mz : Nat) (c i : Int) (ls : List (Nat × Value)), (((gi h 171 7) - i).toNat = mz) → (s < (bShl 1 (gi h 171 7))) → (0 ≤ i ∧ i ≤ (gi h 171 7)) → (c = sumF fd 0 (gi h 171 7).toNat - esF ea n s i.toNat) → lk ls 0 = some (.ref 171) → lk ls 1 = some (.int (I n)) → lk ls 2 = some (.int (I t)) → lk ls 3 = some (.int (I b_)) → lk ls 4 = some (.int (I f)) → lk ls 5 = some (.int (I s)) → lk ls 6 = some (.int (I c)) → lk ls 7 = some (.int (I i)) → K 81 ls [] h4 0 0 := by
      intro mz
      induction mz using Nat.strongRecOn with
      | ind mz ih =>
      intro c i ls hm ls_ j0 c0 l0 l1 l2 l3 l4 l5 l6 l7
      have tb := esF_b (set := s) (m := (gi h 171 7)) n0.1 (fun j hj => (he j hj).2) i.toNat (by omega)
      have ei := fun y : i < (gi h 171 7) => he i.toNat (by omega)
      refine x_iload 83 hK rfl rfl l7 ?_
      refine x_aload_n 84 hK rfl rfl l0 ?_
      have g601 := gri (0) (8) hG (a := 171) (r := 54) (k := 7) rfl rfl
      refine x_getE 87 hK rfl (Or.inl rfl) rfl (sp_171 (h := h4) hG4) (e := (gi h 171 7)) (m4) ?_
      refine x_if_icmp_ge 124 90 hK rfl rfl rfl (by omega) (by omega) (fun c4 => ?_) (fun c4 => ?_)
      · refine x_iload_n 125 hK rfl rfl l3 ?_
        refine x_if_lt 140 128 hK rfl rfl rfl (by omega) (fun c6 => ?_) (fun c6 => ?_)
        · refine x_iconst 141 hK rfl rfl ?_
          refine x_goto 145 hK rfl rfl ?_
          refine x_istore 147 hK rfl rfl _ rfl ?_
          refine x_iload 149 hK rfl rfl (lk1_n l6 (by decide) (Or.inl rfl)) ?_
          refine x_if_lt 162 152 hK rfl rfl rfl (by omega) (fun c11 => ?_) (fun c11 => ?_)
          · refine x_iload 164 hK rfl rfl (lk1_n l4 (by decide) (Or.inl rfl)) ?_
            refine x_istore 166 hK rfl rfl _ rfl ?_
            refine x_iload 168 hK rfl rfl (lk1_n (lk1_n l6 (by decide) (Or.inl rfl)) (by decide) (Or.inl rfl)) ?_
            refine x_if_lt 181 171 hK rfl rfl rfl (by omega) (fun _ => ?_) (fun c => by omega)
            refine x_iload_n 182 hK rfl rfl (lk1_n (lk1_n l3 (by decide) (Or.inl rfl)) (by decide) (Or.inl rfl)) ?_
            refine x_istore_n 183 hK rfl rfl _ rfl ?_
            refine x_iinc 186 hK rfl rfl (lk1_n (lk1_n (lk1_n l5 (by decide) (Or.inl rfl)) (by decide) (Or.inl rfl)) (by decide) (Or.inl rfl)) _ rfl ?_
            refine x_goto 64 hK rfl rfl ?_
            have cr : c = (rsF fd ea n (gi h 171 7) s) := by rw [c0]; unfold rsF; rw [show i.toNat = (gi h 171 7).toNat by omega]
            have bn : (b_ = -1 ∧ ∀ q : Int, 0 ≤ q → q < s + 1 → ¬ 0 ≤ (rsF fd ea n (gi h 171 7) q)) ∨ (0 ≤ b_ ∧ f = (rsF fd ea n (gi h 171 7) b_) ∧ FB (fun q => rsF fd ea n (gi h 171 7) q) (fun q => 0 ≤ q ∧ q < s + 1) b_) := by
              rcases b0 with ⟨b1, b2⟩ | ⟨b1, b2, b3⟩
              · refine Or.inl ⟨b1, fun q h1 h2 r0 => ?_⟩
                by_cases y : q = s
                · rw [y] at r0; omega
                · exact b2 q h1 (by omega) r0
              · refine Or.inr ⟨b1, b2, b3.1, fun q hq r0 => ?_⟩
                have hq : 0 ≤ q ∧ q < s + 1 := hq
                by_cases y : q = s
                · rw [y] at r0 ⊢
                  have r0 : 0 ≤ (rsF fd ea n (gi h 171 7) s) := r0
                  omega
                · exact b3.2 q ⟨hq.1, by omega⟩ r0
            exact iho _ (by omega) t b_ f (s + 1) _ _ rfl (n0) (r14) (rw4) (t0) (by omega) (by omega) (bn) (lk1_n (lk1_n (lk1_n (lk1_n l0 (by decide) (Or.inl rfl)) (by decide) (Or.inl rfl)) (by decide) (Or.inl rfl)) (by decide) (Or.inl rfl)) (lk1_n (lk1_n (lk1_n (lk1_n l1 (by decide) (Or.inl rfl)) (by decide) (Or.inl rfl)) (by decide) (Or.inl rfl)) (by decide) (Or.inl rfl)) (lk1_n (lk1_n (lk1_n (lk1_n l2 (by decide) (Or.inl rfl)) (by decide) (Or.inl rfl)) (by decide) (Or.inl rfl)) (by decide) (Or.inl rfl)) (lk1_n lk1_s (by decide) (Or.inl rfl)) (lk1_n (lk1_n lk1_s (by decide) (Or.inl rfl)) (by decide) (Or.inl rfl)) lk1_s (hG4) (hF4)
          · refine x_iload 154 hK rfl rfl lk1_s ?_
            refine x_if_eq 162 157 hK rfl rfl rfl (by omega) (fun c => by omega) (fun _ => ?_)
            refine x_iload 159 hK rfl rfl (lk1_n l6 (by decide) (Or.inl rfl)) ?_
            refine x_goto 164 hK rfl rfl ?_
            refine x_istore 166 hK rfl rfl _ rfl ?_
            refine x_iload 168 hK rfl rfl (lk1_n (lk1_n l6 (by decide) (Or.inl rfl)) (by decide) (Or.inl rfl)) ?_
            refine x_if_lt 181 171 hK rfl rfl rfl (by omega) (fun c => by omega) (fun _ => ?_)
            refine x_iload 173 hK rfl rfl (lk1_n lk1_s (by decide) (Or.inl rfl)) ?_
            refine x_if_eq 181 176 hK rfl rfl rfl (by omega) (fun c => by omega) (fun _ => ?_)
            refine x_iload 178 hK rfl rfl (lk1_n (lk1_n l5 (by decide) (Or.inl rfl)) (by decide) (Or.inl rfl)) ?_
            refine x_goto 182 hK rfl rfl ?_
            refine x_istore_n 183 hK rfl rfl _ rfl ?_
            refine x_iinc 186 hK rfl rfl (lk1_n (lk1_n (lk1_n l5 (by decide) (Or.inl rfl)) (by decide) (Or.inl rfl)) (by decide) (Or.inl rfl)) _ rfl ?_
            refine x_goto 64 hK rfl rfl ?_
            have cr : c = (rsF fd ea n (gi h 171 7) s) := by rw [c0]; unfold rsF; rw [show i.toNat = (gi h 171 7).toNat by omega]
            have bn : FB (fun q => rsF fd ea n (gi h 171 7) q) (fun q => 0 ≤ q ∧ q < s + 1) s := ⟨by show 0 ≤ (rsF fd ea n (gi h 171 7) s); omega, fun q hq r0 => by
              have hq : 0 ≤ q ∧ q < s + 1 := hq
              by_cases y : q = s
              · rw [y]; exact Or.inr ⟨rfl, Int.le_refl _⟩
              · rcases b0 with ⟨b1, b2⟩ | ⟨b1, b2, b3⟩
                · exact absurd (show 0 ≤ (rsF fd ea n (gi h 171 7) q) from r0) (b2 q hq.1 (by omega))
                · have z := b3.2 q ⟨hq.1, by omega⟩ r0
                  omega⟩
            exact iho _ (by omega) t s c (s + 1) _ _ rfl (n0) (r14) (rw4) (t0) (by omega) (by omega) (Or.inr ⟨i0.1, cr, bn⟩) (lk1_n (lk1_n (lk1_n (lk1_n l0 (by decide) (Or.inl rfl)) (by decide) (Or.inl rfl)) (by decide) (Or.inl rfl)) (by decide) (Or.inl rfl)) (lk1_n (lk1_n (lk1_n (lk1_n l1 (by decide) (Or.inl rfl)) (by decide) (Or.inl rfl)) (by decide) (Or.inl rfl)) (by decide) (Or.inl rfl)) (lk1_n (lk1_n (lk1_n (lk1_n l2 (by decide) (Or.inl rfl)) (by decide) (Or.inl rfl)) (by decide) (Or.inl rfl)) (by decide) (Or.inl rfl)) (lk1_n lk1_s (by decide) (Or.inl rfl)) (lk1_n (lk1_n lk1_s (by decide) (Or.inl rfl)) (by decide) (Or.inl rfl)) lk1_s (hG4) (hF4)
        · refine x_iload 130 hK rfl rfl l5 ?_
          have bz602 := bcF_r s
          refine x_callS 133 hK hmono rfl (Or.inl rfl) rfl [.int (I s)] [] rfl rfl (Nat.le_of_ble_eq_true rfl) (Nat.le_of_ble_eq_true rfl) (CLd_le (Nat.le_of_ble_eq_true rfl) (ctJ6_bitCount_0f7a4F hSP (x := s))) ?_
          rintro v9 h9 ⟨e9, rfl⟩
          rw [e9]
          clear e9
          refine x_iload_n 134 hK rfl rfl l3 ?_
          have bz603 := bcF_r b_
          refine x_callS 137 hK hmono rfl (Or.inl rfl) rfl [.int (I b_)] [.int (I (bcF s))] rfl rfl (Nat.le_of_ble_eq_true rfl) (Nat.le_of_ble_eq_true rfl) (CLd_le (Nat.le_of_ble_eq_true rfl) (ctJ6_bitCount_0f7a4F hSP (x := b_))) ?_
          rintro v9 h9 ⟨e9, rfl⟩
          rw [e9]
          clear e9
          refine x_if_icmp_ge 144 140 hK rfl rfl rfl (by omega) (by omega) (fun c40 => ?_) (fun c40 => ?_)
          · refine x_iconst 145 hK rfl rfl ?_
            refine x_istore 147 hK rfl rfl _ rfl ?_
            refine x_iload 149 hK rfl rfl (lk1_n l6 (by decide) (Or.inl rfl)) ?_
            refine x_if_lt 162 152 hK rfl rfl rfl (by omega) (fun c44 => ?_) (fun c44 => ?_)
            · refine x_iload 164 hK rfl rfl (lk1_n l4 (by decide) (Or.inl rfl)) ?_
              refine x_istore 166 hK rfl rfl _ rfl ?_
              refine x_iload 168 hK rfl rfl (lk1_n (lk1_n l6 (by decide) (Or.inl rfl)) (by decide) (Or.inl rfl)) ?_
              refine x_if_lt 181 171 hK rfl rfl rfl (by omega) (fun _ => ?_) (fun c => by omega)
              refine x_iload_n 182 hK rfl rfl (lk1_n (lk1_n l3 (by decide) (Or.inl rfl)) (by decide) (Or.inl rfl)) ?_
              refine x_istore_n 183 hK rfl rfl _ rfl ?_
              refine x_iinc 186 hK rfl rfl (lk1_n (lk1_n (lk1_n l5 (by decide) (Or.inl rfl)) (by decide) (Or.inl rfl)) (by decide) (Or.inl rfl)) _ rfl ?_
              refine x_goto 64 hK rfl rfl ?_
              have cr : c = (rsF fd ea n (gi h 171 7) s) := by rw [c0]; unfold rsF; rw [show i.toNat = (gi h 171 7).toNat by omega]
              have bn : (b_ = -1 ∧ ∀ q : Int, 0 ≤ q → q < s + 1 → ¬ 0 ≤ (rsF fd ea n (gi h 171 7) q)) ∨ (0 ≤ b_ ∧ f = (rsF fd ea n (gi h 171 7) b_) ∧ FB (fun q => rsF fd ea n (gi h 171 7) q) (fun q => 0 ≤ q ∧ q < s + 1) b_) := by
                rcases b0 with ⟨b1, b2⟩ | ⟨b1, b2, b3⟩
                · refine Or.inl ⟨b1, fun q h1 h2 r0 => ?_⟩
                  by_cases y : q = s
                  · rw [y] at r0; omega
                  · exact b2 q h1 (by omega) r0
                · refine Or.inr ⟨b1, b2, b3.1, fun q hq r0 => ?_⟩
                  have hq : 0 ≤ q ∧ q < s + 1 := hq
                  by_cases y : q = s
                  · rw [y] at r0 ⊢
                    have r0 : 0 ≤ (rsF fd ea n (gi h 171 7) s) := r0
                    omega
                  · exact b3.2 q ⟨hq.1, by omega⟩ r0
              exact iho _ (by omega) t b_ f (s + 1) _ _ rfl (n0) (r14) (rw4) (t0) (by omega) (by omega) (bn) (lk1_n (lk1_n (lk1_n (lk1_n l0 (by decide) (Or.inl rfl)) (by decide) (Or.inl rfl)) (by decide) (Or.inl rfl)) (by decide) (Or.inl rfl)) (lk1_n (lk1_n (lk1_n (lk1_n l1 (by decide) (Or.inl rfl)) (by decide) (Or.inl rfl)) (by decide) (Or.inl rfl)) (by decide) (Or.inl rfl)) (lk1_n (lk1_n (lk1_n (lk1_n l2 (by decide) (Or.inl rfl)) (by decide) (Or.inl rfl)) (by decide) (Or.inl rfl)) (by decide) (Or.inl rfl)) (lk1_n lk1_s (by decide) (Or.inl rfl)) (lk1_n (lk1_n lk1_s (by decide) (Or.inl rfl)) (by decide) (Or.inl rfl)) lk1_s (hG4) (hF4)
            · refine x_iload 154 hK rfl rfl lk1_s ?_
              refine x_if_eq 162 157 hK rfl rfl rfl (by omega) (fun _ => ?_) (fun c => by omega)
              refine x_iload 164 hK rfl rfl (lk1_n l4 (by decide) (Or.inl rfl)) ?_
              refine x_istore 166 hK rfl rfl _ rfl ?_
              refine x_iload 168 hK rfl rfl (lk1_n (lk1_n l6 (by decide) (Or.inl rfl)) (by decide) (Or.inl rfl)) ?_
              refine x_if_lt 181 171 hK rfl rfl rfl (by omega) (fun c => by omega) (fun _ => ?_)
              refine x_iload 173 hK rfl rfl (lk1_n lk1_s (by decide) (Or.inl rfl)) ?_
              refine x_if_eq 181 176 hK rfl rfl rfl (by omega) (fun _ => ?_) (fun c => by omega)
              refine x_iload_n 182 hK rfl rfl (lk1_n (lk1_n l3 (by decide) (Or.inl rfl)) (by decide) (Or.inl rfl)) ?_
              refine x_istore_n 183 hK rfl rfl _ rfl ?_
              refine x_iinc 186 hK rfl rfl (lk1_n (lk1_n (lk1_n l5 (by decide) (Or.inl rfl)) (by decide) (Or.inl rfl)) (by decide) (Or.inl rfl)) _ rfl ?_
              refine x_goto 64 hK rfl rfl ?_
              have cr : c = (rsF fd ea n (gi h 171 7) s) := by rw [c0]; unfold rsF; rw [show i.toNat = (gi h 171 7).toNat by omega]
              have bn : (b_ = -1 ∧ ∀ q : Int, 0 ≤ q → q < s + 1 → ¬ 0 ≤ (rsF fd ea n (gi h 171 7) q)) ∨ (0 ≤ b_ ∧ f = (rsF fd ea n (gi h 171 7) b_) ∧ FB (fun q => rsF fd ea n (gi h 171 7) q) (fun q => 0 ≤ q ∧ q < s + 1) b_) := by
                rcases b0 with ⟨b1, b2⟩ | ⟨b1, b2, b3⟩
                · refine Or.inl ⟨b1, fun q h1 h2 r0 => ?_⟩
                  by_cases y : q = s
                  · rw [y] at r0; omega
                  · exact b2 q h1 (by omega) r0
                · refine Or.inr ⟨b1, b2, b3.1, fun q hq r0 => ?_⟩
                  have hq : 0 ≤ q ∧ q < s + 1 := hq
                  by_cases y : q = s
                  · rw [y] at r0 ⊢
                    have r0 : 0 ≤ (rsF fd ea n (gi h 171 7) s) := r0
                    omega
                  · exact b3.2 q ⟨hq.1, by omega⟩ r0
              exact iho _ (by omega) t b_ f (s + 1) _ _ rfl (n0) (r14) (rw4) (t0) (by omega) (by omega) (bn) (lk1_n (lk1_n (lk1_n (lk1_n l0 (by decide) (Or.inl rfl)) (by decide) (Or.inl rfl)) (by decide) (Or.inl rfl)) (by decide) (Or.inl rfl)) (lk1_n (lk1_n (lk1_n (lk1_n l1 (by decide) (Or.inl rfl)) (by decide) (Or.inl rfl)) (by decide) (Or.inl rfl)) (by decide) (Or.inl rfl)) (lk1_n (lk1_n (lk1_n (lk1_n l2 (by decide) (Or.inl rfl)) (by decide) (Or.inl rfl)) (by decide) (Or.inl rfl)) (by decide) (Or.inl rfl)) (lk1_n lk1_s (by decide) (Or.inl rfl)) (lk1_n (lk1_n lk1_s (by decide) (Or.inl rfl)) (by decide) (Or.inl rfl)) lk1_s (hG4) (hF4)
          · refine x_iconst 141 hK rfl rfl ?_
            refine x_goto 145 hK rfl rfl ?_
            refine x_istore 147 hK rfl rfl _ rfl ?_
            refine x_iload 149 hK rfl rfl (lk1_n l6 (by decide) (Or.inl rfl)) ?_
            refine x_if_lt 162 152 hK rfl rfl rfl (by omega) (fun c71 => ?_) (fun c71 => ?_)
            · refine x_iload 164 hK rfl rfl (lk1_n l4 (by decide) (Or.inl rfl)) ?_
              refine x_istore 166 hK rfl rfl _ rfl ?_
              refine x_iload 168 hK rfl rfl (lk1_n (lk1_n l6 (by decide) (Or.inl rfl)) (by decide) (Or.inl rfl)) ?_
              refine x_if_lt 181 171 hK rfl rfl rfl (by omega) (fun _ => ?_) (fun c => by omega)
              refine x_iload_n 182 hK rfl rfl (lk1_n (lk1_n l3 (by decide) (Or.inl rfl)) (by decide) (Or.inl rfl)) ?_
              refine x_istore_n 183 hK rfl rfl _ rfl ?_
              refine x_iinc 186 hK rfl rfl (lk1_n (lk1_n (lk1_n l5 (by decide) (Or.inl rfl)) (by decide) (Or.inl rfl)) (by decide) (Or.inl rfl)) _ rfl ?_
              refine x_goto 64 hK rfl rfl ?_
              have cr : c = (rsF fd ea n (gi h 171 7) s) := by rw [c0]; unfold rsF; rw [show i.toNat = (gi h 171 7).toNat by omega]
              have bn : (b_ = -1 ∧ ∀ q : Int, 0 ≤ q → q < s + 1 → ¬ 0 ≤ (rsF fd ea n (gi h 171 7) q)) ∨ (0 ≤ b_ ∧ f = (rsF fd ea n (gi h 171 7) b_) ∧ FB (fun q => rsF fd ea n (gi h 171 7) q) (fun q => 0 ≤ q ∧ q < s + 1) b_) := by
                rcases b0 with ⟨b1, b2⟩ | ⟨b1, b2, b3⟩
                · refine Or.inl ⟨b1, fun q h1 h2 r0 => ?_⟩
                  by_cases y : q = s
                  · rw [y] at r0; omega
                  · exact b2 q h1 (by omega) r0
                · refine Or.inr ⟨b1, b2, b3.1, fun q hq r0 => ?_⟩
                  have hq : 0 ≤ q ∧ q < s + 1 := hq
                  by_cases y : q = s
                  · rw [y] at r0 ⊢
                    have r0 : 0 ≤ (rsF fd ea n (gi h 171 7) s) := r0
                    omega
                  · exact b3.2 q ⟨hq.1, by omega⟩ r0
              exact iho _ (by omega) t b_ f (s + 1) _ _ rfl (n0) (r14) (rw4) (t0) (by omega) (by omega) (bn) (lk1_n (lk1_n (lk1_n (lk1_n l0 (by decide) (Or.inl rfl)) (by decide) (Or.inl rfl)) (by decide) (Or.inl rfl)) (by decide) (Or.inl rfl)) (lk1_n (lk1_n (lk1_n (lk1_n l1 (by decide) (Or.inl rfl)) (by decide) (Or.inl rfl)) (by decide) (Or.inl rfl)) (by decide) (Or.inl rfl)) (lk1_n (lk1_n (lk1_n (lk1_n l2 (by decide) (Or.inl rfl)) (by decide) (Or.inl rfl)) (by decide) (Or.inl rfl)) (by decide) (Or.inl rfl)) (lk1_n lk1_s (by decide) (Or.inl rfl)) (lk1_n (lk1_n lk1_s (by decide) (Or.inl rfl)) (by decide) (Or.inl rfl)) lk1_s (hG4) (hF4)
            · refine x_iload 154 hK rfl rfl lk1_s ?_
              refine x_if_eq 162 157 hK rfl rfl rfl (by omega) (fun c => by omega) (fun _ => ?_)
              refine x_iload 159 hK rfl rfl (lk1_n l6 (by decide) (Or.inl rfl)) ?_
              refine x_goto 164 hK rfl rfl ?_
              refine x_istore 166 hK rfl rfl _ rfl ?_
              refine x_iload 168 hK rfl rfl (lk1_n (lk1_n l6 (by decide) (Or.inl rfl)) (by decide) (Or.inl rfl)) ?_
              refine x_if_lt 181 171 hK rfl rfl rfl (by omega) (fun c => by omega) (fun _ => ?_)
              refine x_iload 173 hK rfl rfl (lk1_n lk1_s (by decide) (Or.inl rfl)) ?_
              refine x_if_eq 181 176 hK rfl rfl rfl (by omega) (fun c => by omega) (fun _ => ?_)
              refine x_iload 178 hK rfl rfl (lk1_n (lk1_n l5 (by decide) (Or.inl rfl)) (by decide) (Or.inl rfl)) ?_
              refine x_goto 182 hK rfl rfl ?_
              refine x_istore_n 183 hK rfl rfl _ rfl ?_
              refine x_iinc 186 hK rfl rfl (lk1_n (lk1_n (lk1_n l5 (by decide) (Or.inl rfl)) (by decide) (Or.inl rfl)) (by decide) (Or.inl rfl)) _ rfl ?_
              refine x_goto 64 hK rfl rfl ?_
              have cr : c = (rsF fd ea n (gi h 171 7) s) := by rw [c0]; unfold rsF; rw [show i.toNat = (gi h 171 7).toNat by omega]
              have bn : FB (fun q => rsF fd ea n (gi h 171 7) q) (fun q => 0 ≤ q ∧ q < s + 1) s := ⟨by show 0 ≤ (rsF fd ea n (gi h 171 7) s); omega, fun q hq r0 => by
                have hq : 0 ≤ q ∧ q < s + 1 := hq
                by_cases y : q = s
                · rw [y]; exact Or.inr ⟨rfl, Int.le_refl _⟩
                · rcases b0 with ⟨b1, b2⟩ | ⟨b1, b2, b3⟩
                  · exact absurd (show 0 ≤ (rsF fd ea n (gi h 171 7) q) from r0) (b2 q hq.1 (by omega))
                  · have z := b3.2 q ⟨hq.1, by omega⟩ r0
                    omega⟩
              exact iho _ (by omega) t s c (s + 1) _ _ rfl (n0) (r14) (rw4) (t0) (by omega) (by omega) (Or.inr ⟨i0.1, cr, bn⟩) (lk1_n (lk1_n (lk1_n (lk1_n l0 (by decide) (Or.inl rfl)) (by decide) (Or.inl rfl)) (by decide) (Or.inl rfl)) (by decide) (Or.inl rfl)) (lk1_n (lk1_n (lk1_n (lk1_n l1 (by decide) (Or.inl rfl)) (by decide) (Or.inl rfl)) (by decide) (Or.inl rfl)) (by decide) (Or.inl rfl)) (lk1_n (lk1_n (lk1_n (lk1_n l2 (by decide) (Or.inl rfl)) (by decide) (Or.inl rfl)) (by decide) (Or.inl rfl)) (by decide) (Or.inl rfl)) (lk1_n lk1_s (by decide) (Or.inl rfl)) (lk1_n (lk1_n lk1_s (by decide) (Or.inl rfl)) (by decide) (Or.inl rfl)) lk1_s (hG4) (hF4)
      · have ei2 := ei (by omega)
        have nb := en_b ei2.2 n0.1
        have mc9 : n * ea i.toNat = ea i.toNat * n := Int.mul_comm _ _
        refine x_iload 92 hK rfl rfl l6 ?_
        refine x_iload 94 hK rfl rfl l5 ?_
        refine x_iload 96 hK rfl rfl l7 ?_
        refine x_callS 99 hK hmono rfl (Or.inl rfl) rfl [.int (I s), .int (I i)] [.int (I c)] rfl rfl (Nat.le_of_ble_eq_true rfl) (Nat.le_of_ble_eq_true rfl) (CLd_le (Nat.le_of_ble_eq_true rfl) (ctX11_hasF hSP (x := s) (y := i))) ?_
        rintro v9 h9 ⟨e9, ⟨rfl, hs9⟩ | ⟨rfl, hs9⟩⟩ <;> rw [e9] <;> clear e9
        · refine x_if_eq 106 102 hK rfl rfl rfl (by omega) (fun c => by omega) (fun _ => ?_)
          refine x_iconst 103 hK rfl rfl ?_
          refine x_goto 115 hK rfl rfl ?_
          refine x_isub 116 hK rfl rfl ?_
          refine x_istore 118 hK rfl rfl _ rfl ?_
          refine x_iinc 121 hK rfl rfl (lk1_n l7 (by decide) (Or.inl rfl)) _ rfl ?_
          refine x_goto 81 hK rfl rfl ?_
          exact ih _ (by omega) (c - 0) (i + 1) _ rfl (ls_) (by omega) (by rw [esF_s j0.1, if_pos hs9, c0]; omega) (lk1_n (lk1_n l0 (by decide) (Or.inl rfl)) (by decide) (Or.inl rfl)) (lk1_n (lk1_n l1 (by decide) (Or.inl rfl)) (by decide) (Or.inl rfl)) (lk1_n (lk1_n l2 (by decide) (Or.inl rfl)) (by decide) (Or.inl rfl)) (lk1_n (lk1_n l3 (by decide) (Or.inl rfl)) (by decide) (Or.inl rfl)) (lk1_n (lk1_n l4 (by decide) (Or.inl rfl)) (by decide) (Or.inl rfl)) (lk1_n (lk1_n l5 (by decide) (Or.inl rfl)) (by decide) (Or.inl rfl)) (lk1_n lk1_s (by decide) (Or.inl rfl)) lk1_s
        · refine x_if_eq 106 102 hK rfl rfl rfl (by omega) (fun _ => ?_) (fun c => by omega)
          refine x_iload_n 107 hK rfl rfl l1 ?_
          refine x_aload_n 108 hK rfl rfl l0 ?_
          refine x_getR 111 hK rfl rfl (sp_171 (h := h4) hG4) (rf_171_13 (h := h4) hG4) ?_
          refine x_iload 113 hK rfl rfl l7 ?_
          refine x_ialoadE 114 hK rfl rfl (sp_177 (h := h4) hG4) (by omega) (by omega) (by omega) (e' := (ea i.toNat)) (((FRM_gi hF4 (r := 60) rfl rfl).trans (ei (by omega)).1)) ?_
          refine x_imul 115 hK rfl rfl ?_
          refine x_isub 116 hK rfl rfl ?_
          refine x_istore 118 hK rfl rfl _ rfl ?_
          refine x_iinc 121 hK rfl rfl (lk1_n l7 (by decide) (Or.inl rfl)) _ rfl ?_
          refine x_goto 81 hK rfl rfl ?_
          exact ih _ (by omega) (c - (n * (ea i.toNat))) (i + 1) _ rfl (ls_) (by omega) (by rw [esF_s j0.1, if_neg hs9, c0]; omega) (lk1_n (lk1_n l0 (by decide) (Or.inl rfl)) (by decide) (Or.inl rfl)) (lk1_n (lk1_n l1 (by decide) (Or.inl rfl)) (by decide) (Or.inl rfl)) (lk1_n (lk1_n l2 (by decide) (Or.inl rfl)) (by decide) (Or.inl rfl)) (lk1_n (lk1_n l3 (by decide) (Or.inl rfl)) (by decide) (Or.inl rfl)) (lk1_n (lk1_n l4 (by decide) (Or.inl rfl)) (by decide) (Or.inl rfl)) (lk1_n (lk1_n l5 (by decide) (Or.inl rfl)) (by decide) (Or.inl rfl)) (lk1_n lk1_s (by decide) (Or.inl rfl)) lk1_s
    refine x_iload 66 hK rfl rfl l5 ?_
    refine x_iconst 67 hK rfl rfl ?_
    refine x_aload_n 68 hK rfl rfl l0 ?_
    have g604 := gri (0) (8) hG (a := 171) (r := 54) (k := 7) rfl rfl
    refine x_getE 71 hK rfl (Or.inl rfl) rfl (sp_171 (h := h4) hG4) (e := (gi h 171 7)) (m4) ?_
    have g605 := bShl_r 1 (gi h 171 7)
    refine x_ishlF 72 hK rfl rfl ?_
    refine x_if_icmp_ge 189 75 hK rfl rfl rfl (by omega) (by omega) (fun c6 => ?_) (fun c6 => ?_)
    · have es : esF ea n ((bShl 1 (gi h 171 7)) - 1) (gi h 171 7).toNat = 0 := es_0 _ fun j hj => s2.2.2 j (by omega)
      have r0 : 0 ≤ (rsF fd ea n (gi h 171 7) ((bShl 1 (gi h 171 7)) - 1)) := by unfold rsF; rw [es]; omega
      obtain ⟨b1, b2, b3⟩ : 0 ≤ b_ ∧ f = (rsF fd ea n (gi h 171 7) b_) ∧ FB (fun q => rsF fd ea n (gi h 171 7) q) (fun q => 0 ≤ q ∧ q < s) b_ := by
        rcases b0 with ⟨b1, b2⟩ | b0
        · exact absurd r0 (b2 ((bShl 1 (gi h 171 7)) - 1) (by omega) (by omega))
        · exact b0
      refine x_aload_n 190 hK rfl rfl l0 ?_
      refine x_iconst 191 hK rfl rfl ?_
      refine x_putI 194 hK rfl rfl (sp_171 (h := h4) hG4) ?_
      refine x_aload_n 195 hK rfl rfl l0 ?_
      refine x_iload_n 196 hK rfl rfl l3 ?_
      have bz606 := bcF_r b_
      refine x_callS 199 hK hmono rfl (Or.inl rfl) rfl [.int (I b_)] [.ref 171] rfl rfl (Nat.le_of_ble_eq_true rfl) (Nat.le_of_ble_eq_true rfl) (CLd_le (Nat.le_of_ble_eq_true rfl) (ctJ6_bitCount_0f7a4F hSP (x := b_))) ?_
      rintro v9 h9 ⟨e9, rfl⟩
      rw [e9]
      clear e9
      refine x_i2l 200 hK rfl rfl (by omega) ?_
      have hGp607 : GD gE gRL sh (wI h4 171 1 0) := GD_w1 (hG4) (r := 54) rfl (by omega) rfl (by omega) (by omega)
      have z609 : gi (wI h4 171 1 0) 171 1 = 0 := gi_same (by omega)
      have z609r : mrow (wI h4 171 1 0) = [] := mrow_0 (gi_same (by omega))
      refine x_callV 203 hK hmono rfl rfl [.ref 171, .long (J (bcF b_))] [] rfl rfl (Nat.le_of_ble_eq_true rfl) (Nat.le_of_ble_eq_true rfl) rfl (sp_171 (h := h4) hG4) (CLd_le (Nat.le_of_ble_eq_true rfl) (ctX11_entersF hSP hGp607 (by omega) (by omega))) ?_
      rintro v608 h608 ⟨rfl, hG608, hF608, t608, s608⟩
      rw [z609] at t608
      rw [z609r] at s608
      replace t608 : gi h608 171 1 = 1 := t608
      change mrow h608 = [(bcF b_)] at s608
      refine x_aload_n 204 hK rfl rfl l0 ?_
      refine x_iload 206 hK rfl rfl l4 ?_
      refine x_i2l 207 hK rfl rfl (by omega) ?_
      have z611 : gi h608 171 1 = 1 := t608
      have z611r : mrow h608 = [(bcF b_)] := s608
      refine x_callV 210 hK hmono rfl rfl [.ref 171, .long (J f)] [] rfl rfl (Nat.le_of_ble_eq_true rfl) (Nat.le_of_ble_eq_true rfl) rfl (sp_171 (h := h608) hG608) (CLd_le (Nat.le_of_ble_eq_true rfl) (ctX11_entersF hSP hG608 (by omega) (by omega))) ?_
      rintro v610 h610 ⟨rfl, hG610, hF610, t610, s610⟩
      rw [z611] at t610
      rw [z611r] at s610
      replace t610 : gi h610 171 1 = 2 := t610
      change mrow h610 = [(bcF b_), f] at s610
      refine x_iload_n 211 hK rfl rfl l3 ?_
      exact x_iret hK rfl ⟨Or.inr ⟨n0, b_, rfl, by omega, ⟨b3.1, fun q hq r0 => b3.2 q (by have hq : 0 ≤ q ∧ q < (bShl 1 (gi h 171 7)) := hq; exact ⟨hq.1, by omega⟩) r0⟩, by rw [← b2]; exact s610⟩, hG610, ((FRM_w (hF4) (r := 54) rfl rfl).trans ((hF608).mono rfl)).trans ((hF610).mono rfl)⟩
    · refine x_iload_n 76 hK rfl rfl l2 ?_
      refine x_istore 78 hK rfl rfl _ rfl ?_
      refine x_iconst 79 hK rfl rfl ?_
      refine x_istore 81 hK rfl rfl _ rfl ?_
      exact inner _ t 0 _ rfl (by omega) (by omega) (by rw [t0]; exact (Int.sub_zero _).symm) (lk1_n (lk1_n l0 (by decide) (Or.inl rfl)) (by decide) (Or.inl rfl)) (lk1_n (lk1_n l1 (by decide) (Or.inl rfl)) (by decide) (Or.inl rfl)) (lk1_n (lk1_n l2 (by decide) (Or.inl rfl)) (by decide) (Or.inl rfl)) (lk1_n (lk1_n l3 (by decide) (Or.inl rfl)) (by decide) (Or.inl rfl)) (lk1_n (lk1_n l4 (by decide) (Or.inl rfl)) (by decide) (Or.inl rfl)) (lk1_n (lk1_n l5 (by decide) (Or.inl rfl)) (by decide) (Or.inl rfl)) (lk1_n lk1_s (by decide) (Or.inl rfl)) lk1_s
  have all : ∀ (mz : Nat) (t i : Int) (h4 : aH) (ls : List (Nat × Value)), (((gi h 171 7) - i).toNat = mz) → ((0 ≤ n ∧ n ≤ 99) ∧ (gi h 171 7) ≠ 0) → (gi h4 171 1 = gi h 171 1) → (mrow h4 = mrow h) → (0 ≤ i ∧ i ≤ (gi h 171 7)) → (t = sumF fd 0 i.toNat) → lk ls 0 = some (.ref 171) → lk ls 1 = some (.int (I n)) → lk ls 2 = some (.int (I t)) → lk ls 3 = some (.int (I i)) → GD gE gRL sh h4 → FRM gRL [(0, 54, 0, 0), (0, 54, 1, 1), (1, 55, 0, 39)] h h4 → K 30 ls [] h4 0 0 := by
    intro mz
    induction mz using Nat.strongRecOn with
    | ind mz ih =>
    intro t i h4 ls hm n0 r14 rw4 i0 t0 l0 l1 l2 l3 hG4 hF4
    have m4 : gi h4 171 7 = (gi h 171 7) := FRM_gi hF4 (r := 54) rfl (by decide)
    have s2 := s1 (by omega)
    have fi := fun y : i < (gi h 171 7) => hf i.toNat (by omega)
    have stb := sumF_b (f := fd) (a := 0) (B := 99) (m := (gi h 171 7)) (by omega) (by omega) (fun j hj => (hf j hj).2) i.toNat (by omega)
    have ss := sumF_s (f := fd) i0.1
    rw [Int.sub_zero, Int.sub_zero] at ss
    refine x_iload_n 31 hK rfl rfl l3 ?_
    refine x_aload_n 32 hK rfl rfl l0 ?_
    have g612 := gri (0) (8) hG (a := 171) (r := 54) (k := 7) rfl rfl
    refine x_getE 35 hK rfl (Or.inl rfl) rfl (sp_171 (h := h4) hG4) (e := (gi h 171 7)) (m4) ?_
    refine x_if_icmp_ge 56 38 hK rfl rfl rfl (by omega) (by omega) (fun c4 => ?_) (fun c4 => ?_)
    · refine x_iconst 57 hK rfl rfl ?_
      refine x_istore_n 58 hK rfl rfl _ rfl ?_
      refine x_iconst 59 hK rfl rfl ?_
      refine x_istore 61 hK rfl rfl _ rfl ?_
      refine x_iconst 62 hK rfl rfl ?_
      refine x_istore 64 hK rfl rfl _ rfl ?_
      exact sets _ t (-1) 0 0 _ _ rfl (n0) (r14) (rw4) (by rw [t0, show i.toNat = (gi h 171 7).toNat by omega]) (by omega) (by omega) (Or.inl ⟨rfl, fun q h1 h2 => by omega⟩) (lk1_n (lk1_n (lk1_n l0 (by decide) (Or.inl rfl)) (by decide) (Or.inl rfl)) (by decide) (Or.inl rfl)) (lk1_n (lk1_n (lk1_n l1 (by decide) (Or.inl rfl)) (by decide) (Or.inl rfl)) (by decide) (Or.inl rfl)) (lk1_n (lk1_n (lk1_n l2 (by decide) (Or.inl rfl)) (by decide) (Or.inl rfl)) (by decide) (Or.inl rfl)) (lk1_n (lk1_n lk1_s (by decide) (Or.inl rfl)) (by decide) (Or.inl rfl)) (lk1_n lk1_s (by decide) (Or.inl rfl)) lk1_s (hG4) (hF4)
    · have fi2 := fi (by omega)
      refine x_iload_n 39 hK rfl rfl l2 ?_
      refine x_aload_n 40 hK rfl rfl l0 ?_
      refine x_getR 43 hK rfl rfl (sp_171 (h := h4) hG4) (rf_171_14 (h := h4) hG4) ?_
      refine x_bipush 45 hK rfl rfl rfl ?_
      refine x_iload_n 46 hK rfl rfl l3 ?_
      refine x_iadd 47 hK rfl rfl ?_
      refine x_ialoadE 48 hK rfl rfl (sp_178 (h := h4) hG4) (by omega) (by omega) (by omega) (e' := (fd i.toNat)) (((FRM_gi hF4 (r := 61) rfl rfl).trans ((gi_to (show (41 + i).toNat = 41 + i.toNat by omega)).trans (fi (by omega)).1))) ?_
      refine x_iadd 49 hK rfl rfl ?_
      refine x_istore_n 50 hK rfl rfl _ rfl ?_
      refine x_iinc 53 hK rfl rfl (lk1_n l3 (by decide) (Or.inl rfl)) _ rfl ?_
      refine x_goto 30 hK rfl rfl ?_
      exact ih _ (by omega) (t + (fd i.toNat)) (i + 1) _ _ rfl (n0) (r14) (rw4) (by omega) (by rw [ss, t0]) (lk1_n (lk1_n l0 (by decide) (Or.inl rfl)) (by decide) (Or.inl rfl)) (lk1_n (lk1_n l1 (by decide) (Or.inl rfl)) (by decide) (Or.inl rfl)) (lk1_n lk1_s (by decide) (Or.inl rfl)) lk1_s (hG4) (hF4)
  refine x_aload_n 1 hK rfl rfl rfl ?_
  refine x_iconst 2 hK rfl rfl ?_
  refine x_putI 5 hK rfl rfl (sp_171 (h := h) hG) ?_
  refine x_iload_n 6 hK rfl rfl rfl ?_
  refine x_i2l 7 hK rfl rfl (by omega) ?_
  refine x_lconstE 8 0 hK rfl rfl rfl ?_
  refine x_ldc2_w 11 hK rfl rfl ?_
  have hGp613 : GD gE gRL sh (wI h 171 0 0) := GD_w1 (hG) (r := 54) rfl (by omega) rfl (by omega) (by omega)
  refine x_callS 14 hK hmono rfl (Or.inl rfl) rfl [.long (J n), .long (J 0), .long (J 99)] [] rfl rfl (Nat.le_of_ble_eq_true rfl) (Nat.le_of_ble_eq_true rfl) (CLd_le (Nat.le_of_ble_eq_true rfl) (ctX11_in (by omega) (by omega) (by omega))) ?_
  rintro v9 h9 ⟨e9, ⟨rfl, i1614, i2614⟩ | ⟨rfl, i1614⟩⟩ <;> rw [e9] <;> clear e9
  · refine x_if_eq 24 17 hK rfl rfl rfl (by omega) (fun c => by omega) (fun _ => ?_)
    refine x_aload_n 18 hK rfl rfl rfl ?_
    have g615 := gri (0) (8) hG (a := 171) (r := 54) (k := 7) rfl rfl
    refine x_getE 21 hK rfl (Or.inl rfl) rfl (sp_171 (h := h) hG) (e := (gi h 171 7)) (gi_k (by decide) _) ?_
    refine x_if_ne 26 24 hK rfl rfl rfl (by omega) (fun c12 => ?_) (fun c12 => ?_)
    · refine x_iconst 27 hK rfl rfl ?_
      refine x_istore_n 28 hK rfl rfl [(2, .int (I 0)), (0, .ref 171), (1, .int (I n))] rfl ?_
      refine x_iconst 29 hK rfl rfl ?_
      refine x_istore_n 30 hK rfl rfl [(3, .int (I 0)), (2, .int (I 0)), (0, .ref 171), (1, .int (I n))] rfl ?_
      exact all _ 0 0 _ _ rfl (⟨⟨by omega, by omega⟩, by omega⟩) (gi_k (by decide) _) (mrow_k (by decide)) (by omega) (rfl) rfl rfl rfl rfl (GD_w1 (hG) (r := 54) rfl (by omega) rfl (by omega) (by omega)) (FRM_w ((FRM.rf : FRM gRL [(0, 54, 0, 0), (0, 54, 1, 1), (1, 55, 0, 39)] h h)) (r := 54) rfl rfl)
    · refine x_iconst 25 hK rfl rfl ?_
      exact x_iret hK rfl ⟨Or.inl ⟨fun z => by have z1 := z.1; have z2 := z.2; omega, rfl, mrow_k (by decide), gi_k (by decide) _⟩, GD_w1 (hG) (r := 54) rfl (by omega) rfl (by omega) (by omega), FRM_w ((FRM.rf : FRM gRL [(0, 54, 0, 0), (0, 54, 1, 1), (1, 55, 0, 39)] h h)) (r := 54) rfl rfl⟩
  · refine x_if_eq 24 17 hK rfl rfl rfl (by omega) (fun _ => ?_) (fun c => by omega)
    refine x_iconst 25 hK rfl rfl ?_
    exact x_iret hK rfl ⟨Or.inl ⟨fun z => by have z1 := z.1; have z2 := z.2; omega, rfl, mrow_k (by decide), gi_k (by decide) _⟩, GD_w1 (hG) (r := 54) rfl (by omega) rfl (by omega) (by omega), FRM_w ((FRM.rf : FRM gRL [(0, 54, 0, 0), (0, 54, 1, 1), (1, 55, 0, 39)] h h)) (r := 54) rfl rfl⟩
