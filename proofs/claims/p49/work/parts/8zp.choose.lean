section
/-! WHAT A PLAN CHOOSES (the class) -/
set_option maxRecDepth 4000 in
theorem ctX0_moveCostsG {SP : CT} (hSP : MONO SP) {sh : List (Nat × Nat)} {h : aH} (hG : GD gE gRL sh h) {v : Int} (hv : -1 ≤ v ∧ v ≤ 1) : CLd SP 1 mX0_moveCosts [.ref 127, .int (I v)] h 0 0 (fun rv h' => rv = none ∧ GD gE gRL sh h' ∧ FRM gRL [(0, 46, 0, 8)] h h' ∧ ∀ l, l < 9 → gi h' 132 l = mvC v (gi h 132) l) := by
  refine x_met _ rfl (Nat.le_of_ble_eq_true rfl) (fun K hK => ?_)
  have hmono := MONO_CLd hSP 0
  refine x_iload_n 1 hK rfl rfl rfl ?_
  refine x_if_le 55 4 hK rfl rfl rfl (by omega) (fun c2 => ?_) (fun c2 => ?_)
  · refine x_iload_n 56 hK rfl rfl rfl ?_
    refine x_if_ge 105 59 hK rfl rfl rfl (by omega) (fun c4 => ?_) (fun c4 => ?_)
    · exact x_vret hK rfl ⟨rfl, hG, FRM.rf, fun l _ => (mvC_0 (by omega) l).symm⟩
    · refine x_aload_n 60 hK rfl rfl rfl ?_
      refine x_getR 63 hK rfl rfl (sp_127 (h := h) hG) (rf_127_4 (h := h) hG) ?_
      refine x_iconst 64 hK rfl rfl ?_
      refine x_aload_n 65 hK rfl rfl rfl ?_
      refine x_getR 68 hK rfl rfl (sp_127 (h := h) hG) (rf_127_4 (h := h) hG) ?_
      refine x_iconst 69 hK rfl rfl ?_
      have g722 := gi_r h 132 0
      refine x_ialoadE 70 hK rfl rfl (sp_132 (h := h) hG) (by omega) (by omega) (by omega) (e' := (gi h 132 0)) (rfl) ?_
      refine x_aload_n 71 hK rfl rfl rfl ?_
      refine x_getR 74 hK rfl rfl (sp_127 (h := h) hG) (rf_127_4 (h := h) hG) ?_
      refine x_iconst 75 hK rfl rfl ?_
      have g723 := gi_r h 132 1
      refine x_ialoadE 76 hK rfl rfl (sp_132 (h := h) hG) (by omega) (by omega) (by omega) (e' := (gi h 132 1)) (rfl) ?_
      refine x_min 79 hK rfl rfl (Nat.le_of_ble_eq_true rfl) (by omega) (by omega) ?_
      refine x_iastore 80 hK rfl rfl (sp_132 (h := h) hG) (by omega) (by omega) (by omega) ?_
      refine x_aload_n 81 hK rfl rfl rfl ?_
      refine x_getR 84 hK rfl rfl (sp_127 (h := h) hG) (rf_127_4 (h := h) hG) ?_
      refine x_iconst 85 hK rfl rfl ?_
      refine x_aload_n 86 hK rfl rfl rfl ?_
      refine x_getR 89 hK rfl rfl (sp_127 (h := h) hG) (rf_127_4 (h := h) hG) ?_
      refine x_iconst 90 hK rfl rfl ?_
      refine x_bipush 92 hK rfl rfl rfl ?_
      refine x_acp 95 hK rfl rfl (by decide) (sp_132 (h := h) hG) (sp_132 (h := h) hG) (by omega) (by omega) (by omega) (by omega) (by omega) ?_
      change K 95 _ _ (sC (wI h 132 0 (min (gi h 132 0) (gi h 132 1))) 132 (Int.toNat 2) 132 (Int.toNat 1) (Int.toNat 7)) _ _
      obtain ⟨h724, e724⟩ : ∃ z, z = sC (wI h 132 0 (min (gi h 132 0) (gi h 132 1))) 132 (Int.toNat 2) 132 (Int.toNat 1) (Int.toNat 7) := ⟨_, rfl⟩
      rw [← e724]
      have hG724 : GD gE gRL sh h724 := by rw [e724]; exact GD_C (GD_w0 (hG) (r := 46) rfl rfl) (r := 46) rfl rfl
      have hF724 : FRM gRL [(0, 46, 0, 8)] (wI h 132 0 (min (gi h 132 0) (gi h 132 1))) h724 := by rw [e724]; exact FRM_C FRM.rf (r := 46) rfl fun k k1 k2 => mIn_r (x := 0) (y := 8) (by decide) k (by omega) (by omega)
      have oc724 : ∀ a9 k9, a9 ≠ 132 → gi h724 a9 k9 = gi (wI h 132 0 (min (gi h 132 0) (gi h 132 1))) a9 k9 := fun a9 k9 ha => by rw [e724]; exact gi_sCn ha k9
      have cc724 : ∀ j9, gi h724 132 j9 = if (Int.toNat 1) ≤ j9 ∧ j9 < (Int.toNat 1) + (Int.toNat 7) then gi (wI h 132 0 (min (gi h 132 0) (gi h 132 1))) 132 ((Int.toNat 2) + (j9 - (Int.toNat 1))) else gi (wI h 132 0 (min (gi h 132 0) (gi h 132 1))) 132 j9 := fun j9 => by rw [e724]; exact gi_sC j9
      refine x_aload_n 96 hK rfl rfl rfl ?_
      refine x_getR 99 hK rfl rfl (sp_127 (h := h724) hG724) (rf_127_4 (h := h724) hG724) ?_
      refine x_bipush 101 hK rfl rfl rfl ?_
      refine x_sipush 104 hK rfl rfl rfl ?_
      refine x_iastore 105 hK rfl rfl (sp_132 (h := h724) hG724) (by omega) (by omega) (by omega) ?_
      have cell : ∀ l, l < 9 → gi (wI h724 132 8 1000) 132 l = mvC v (gi h 132) l := fun l hl => by
        rw [mvC_dn (show v = -1 by omega)]
        by_cases q : l = 8
        · rw [if_pos q, q]
          exact gi_same (by omega)
        · rw [if_neg q, show gi (wI h724 132 8 1000) 132 l = gi h724 132 l from gi_k q _, cc724 l]
          by_cases q8 : l = 0
          · rw [if_pos q8, if_neg (fun z => by have z1 := z.1; have z2 := z.2; omega), q8]
            exact gi_same (by omega)
          · rw [if_neg q8, if_pos ⟨by show 1 ≤ l; omega, by show l < 1 + 7; omega⟩]
            exact (gi_to (show (Int.toNat 2 + (l - Int.toNat 1)) = l + 1 by show 2 + (l - 1) = _; omega)).trans (gi_k (by omega) _)
      exact x_vret hK rfl ⟨rfl, GD_w0 (hG724) (r := 46) rfl rfl, FRM_w ((FRM_w ((FRM.rf : FRM gRL [(0, 46, 0, 8)] h h)) (r := 46) rfl rfl).trans ((hF724).mono rfl)) (r := 46) rfl rfl, cell⟩
  · refine x_aload_n 5 hK rfl rfl rfl ?_
    refine x_getR 8 hK rfl rfl (sp_127 (h := h) hG) (rf_127_4 (h := h) hG) ?_
    refine x_bipush 10 hK rfl rfl rfl ?_
    refine x_aload_n 11 hK rfl rfl rfl ?_
    refine x_getR 14 hK rfl rfl (sp_127 (h := h) hG) (rf_127_4 (h := h) hG) ?_
    refine x_bipush 16 hK rfl rfl rfl ?_
    have g725 := gi_r h 132 8
    refine x_ialoadE 17 hK rfl rfl (sp_132 (h := h) hG) (by omega) (by omega) (by omega) (e' := (gi h 132 8)) (rfl) ?_
    refine x_aload_n 18 hK rfl rfl rfl ?_
    refine x_getR 21 hK rfl rfl (sp_127 (h := h) hG) (rf_127_4 (h := h) hG) ?_
    refine x_bipush 23 hK rfl rfl rfl ?_
    have g726 := gi_r h 132 7
    refine x_ialoadE 24 hK rfl rfl (sp_132 (h := h) hG) (by omega) (by omega) (by omega) (e' := (gi h 132 7)) (rfl) ?_
    refine x_min 27 hK rfl rfl (Nat.le_of_ble_eq_true rfl) (by omega) (by omega) ?_
    refine x_iastore 28 hK rfl rfl (sp_132 (h := h) hG) (by omega) (by omega) (by omega) ?_
    refine x_aload_n 29 hK rfl rfl rfl ?_
    refine x_getR 32 hK rfl rfl (sp_127 (h := h) hG) (rf_127_4 (h := h) hG) ?_
    refine x_iconst 33 hK rfl rfl ?_
    refine x_aload_n 34 hK rfl rfl rfl ?_
    refine x_getR 37 hK rfl rfl (sp_127 (h := h) hG) (rf_127_4 (h := h) hG) ?_
    refine x_iconst 38 hK rfl rfl ?_
    refine x_bipush 40 hK rfl rfl rfl ?_
    refine x_acp 43 hK rfl rfl (by decide) (sp_132 (h := h) hG) (sp_132 (h := h) hG) (by omega) (by omega) (by omega) (by omega) (by omega) ?_
    change K 43 _ _ (sC (wI h 132 8 (min (gi h 132 8) (gi h 132 7))) 132 (Int.toNat 0) 132 (Int.toNat 1) (Int.toNat 7)) _ _
    obtain ⟨h727, e727⟩ : ∃ z, z = sC (wI h 132 8 (min (gi h 132 8) (gi h 132 7))) 132 (Int.toNat 0) 132 (Int.toNat 1) (Int.toNat 7) := ⟨_, rfl⟩
    rw [← e727]
    have hG727 : GD gE gRL sh h727 := by rw [e727]; exact GD_C (GD_w0 (hG) (r := 46) rfl rfl) (r := 46) rfl rfl
    have hF727 : FRM gRL [(0, 46, 0, 8)] (wI h 132 8 (min (gi h 132 8) (gi h 132 7))) h727 := by rw [e727]; exact FRM_C FRM.rf (r := 46) rfl fun k k1 k2 => mIn_r (x := 0) (y := 8) (by decide) k (by omega) (by omega)
    have oc727 : ∀ a9 k9, a9 ≠ 132 → gi h727 a9 k9 = gi (wI h 132 8 (min (gi h 132 8) (gi h 132 7))) a9 k9 := fun a9 k9 ha => by rw [e727]; exact gi_sCn ha k9
    have cc727 : ∀ j9, gi h727 132 j9 = if (Int.toNat 1) ≤ j9 ∧ j9 < (Int.toNat 1) + (Int.toNat 7) then gi (wI h 132 8 (min (gi h 132 8) (gi h 132 7))) 132 ((Int.toNat 0) + (j9 - (Int.toNat 1))) else gi (wI h 132 8 (min (gi h 132 8) (gi h 132 7))) 132 j9 := fun j9 => by rw [e727]; exact gi_sC j9
    refine x_aload_n 44 hK rfl rfl rfl ?_
    refine x_getR 47 hK rfl rfl (sp_127 (h := h727) hG727) (rf_127_4 (h := h727) hG727) ?_
    refine x_iconst 48 hK rfl rfl ?_
    refine x_sipush 51 hK rfl rfl rfl ?_
    refine x_iastore 52 hK rfl rfl (sp_132 (h := h727) hG727) (by omega) (by omega) (by omega) ?_
    refine x_goto 105 hK rfl rfl ?_
    have cell : ∀ l, l < 9 → gi (wI h727 132 0 1000) 132 l = mvC v (gi h 132) l := fun l hl => by
      rw [mvC_up (show v = 1 by omega)]
      by_cases q : l = 0
      · rw [if_pos q, q]
        exact gi_same (by omega)
      · rw [if_neg q, show gi (wI h727 132 0 1000) 132 l = gi h727 132 l from gi_k q _, cc727 l]
        by_cases q8 : l = 8
        · rw [if_pos q8, if_neg (fun z => by have z1 := z.1; have z2 := z.2; omega), q8]
          exact gi_same (by omega)
        · rw [if_neg q8, if_pos ⟨by show 1 ≤ l; omega, by show l < 1 + 7; omega⟩]
          exact (gi_to (show (Int.toNat 0 + (l - Int.toNat 1)) = l - 1 by show 0 + (l - 1) = _; omega)).trans (gi_k (by omega) _)
    exact x_vret hK rfl ⟨rfl, GD_w0 (hG727) (r := 46) rfl rfl, FRM_w ((FRM_w ((FRM.rf : FRM gRL [(0, 46, 0, 8)] h h)) (r := 46) rfl rfl).trans ((hF727).mono rfl)) (r := 46) rfl rfl, cell⟩
set_option maxRecDepth 4000 in
theorem ctX0_doChosenG {SP : CT} (hSP : MONO SP) {sh : List (Nat × Nat)} {h : aH} (hG : GD gE gRL sh h) (hb : ∀ l, l < 9 → 0 ≤ gi h 132 l ∧ gi h 132 l ≤ 2000) : CLd SP 2 mX0_doChosen [.ref 127, .int (I 2)] h 0 0 (fun rv h' => rv = none ∧ GD gE gRL sh h' ∧ FRM gRL [(0, 46, 0, 8)] h h' ∧ ∀ l, l < 9 → gi h' 132 l = anC (gi h 132) l) := by
  refine x_met _ rfl (Nat.le_of_ble_eq_true rfl) (fun K hK => ?_)
  have hmono := MONO_CLd hSP 1
  have loop : ∀ (mz : Nat) (b_ i : Int) (h4 : aH) (ls : List (Nat × Value)), ((9 - i).toNat = mz) → (0 ≤ i ∧ i ≤ 9) → (b_ = if i.toNat = 0 then 1000 else gi h 132 (i.toNat - 1)) → (∀ l : Nat, (l : Int) < i → gi h4 132 l = anC (gi h 132) l) → (∀ l : Nat, i ≤ l → l < 9 → gi h4 132 l = gi h 132 l) → lk ls 0 = some (.ref 127) → lk ls 1 = some (.int (I 2)) → lk ls 2 = some (.int (I b_)) → lk ls 3 = some (.int (I i)) → GD gE gRL sh h4 → FRM gRL [(0, 46, 0, 8)] h h4 → K 11 ls [] h4 0 0 := by
    intro mz
    induction mz using Nat.strongRecOn with
    | ind mz ih =>
    intro b_ i h4 ls hm i0 b0 dn od l0 l1 l2 l3 hG4 hF4
    have a0 := fun z : i < 9 => hb i.toNat (by omega)
    have a1 := fun z : i < 8 => hb (i.toNat + 1) (by omega)
    have bb : 0 ≤ b_ ∧ b_ ≤ 2000 := by
      rw [b0]
      by_cases c : i.toNat = 0
      · rw [if_pos c]; omega
      · rw [if_neg c]; exact hb _ (by omega)
    have an : anC (gi h 132) i.toNat = min (gi h 132 i.toNat) (1 + min (if i.toNat = 0 then 1000 else gi h 132 (i.toNat - 1)) (if i.toNat = 8 then 1000 else gi h 132 (i.toNat + 1))) := rfl
    refine x_iload_n 12 hK rfl rfl l3 ?_
    refine x_bipush 14 hK rfl rfl rfl ?_
    refine x_if_icmp_gt 75 17 hK rfl rfl rfl (by omega) (by omega) (fun c3 => ?_) (fun c3 => ?_)
    · refine x_goto 123 hK rfl rfl ?_
      exact x_vret hK rfl ⟨rfl, hG4, hF4, fun l hl => dn l (by omega)⟩
    · have a00 := a0 (by omega)
      refine x_aload_n 18 hK rfl rfl l0 ?_
      refine x_getR 21 hK rfl rfl (sp_127 (h := h4) hG4) (rf_127_4 (h := h4) hG4) ?_
      refine x_iload_n 22 hK rfl rfl l3 ?_
      have g728 := gi_r h 132 i.toNat
      refine x_ialoadE 23 hK rfl rfl (sp_132 (h := h4) hG4) (by omega) (by omega) (by omega) (e' := (gi h 132 i.toNat)) ((od i.toNat (by omega) (by omega))) ?_
      refine x_istore 25 hK rfl rfl _ rfl ?_
      refine x_iload_n 26 hK rfl rfl (lk1_n l3 (by decide) (Or.inl rfl)) ?_
      refine x_bipush 28 hK rfl rfl rfl ?_
      refine x_if_icmp_ge 42 31 hK rfl rfl rfl (by omega) (by omega) (fun c14 => ?_) (fun c14 => ?_)
      · refine x_sipush 45 hK rfl rfl rfl ?_
        refine x_istore 47 hK rfl rfl _ rfl ?_
        refine x_aload_n 48 hK rfl rfl (lk1_n (lk1_n l0 (by decide) (Or.inl rfl)) (by decide) (Or.inl rfl)) ?_
        refine x_getR 51 hK rfl rfl (sp_127 (h := h4) hG4) (rf_127_4 (h := h4) hG4) ?_
        refine x_iload_n 52 hK rfl rfl (lk1_n (lk1_n l3 (by decide) (Or.inl rfl)) (by decide) (Or.inl rfl)) ?_
        refine x_iload 54 hK rfl rfl (lk1_n lk1_s (by decide) (Or.inl rfl)) ?_
        refine x_iconst 55 hK rfl rfl ?_
        refine x_iload_n 56 hK rfl rfl (lk1_n (lk1_n l2 (by decide) (Or.inl rfl)) (by decide) (Or.inl rfl)) ?_
        refine x_iload 58 hK rfl rfl lk1_s ?_
        refine x_min 61 hK rfl rfl (Nat.le_of_ble_eq_true rfl) (by omega) (by omega) ?_
        refine x_iadd 62 hK rfl rfl ?_
        refine x_min 65 hK rfl rfl (Nat.le_of_ble_eq_true rfl) (by omega) (by omega) ?_
        refine x_iastore 66 hK rfl rfl (sp_132 (h := h4) hG4) (by omega) (by omega) (by omega) ?_
        refine x_iload 68 hK rfl rfl (lk1_n lk1_s (by decide) (Or.inl rfl)) ?_
        refine x_istore_n 69 hK rfl rfl _ rfl ?_
        refine x_iinc 72 hK rfl rfl (lk1_n (lk1_n (lk1_n l3 (by decide) (Or.inl rfl)) (by decide) (Or.inl rfl)) (by decide) (Or.inl rfl)) _ rfl ?_
        refine x_goto 11 hK rfl rfl ?_
        have nn : ∀ l : Nat, (l : Int) < i + 1 → gi (wI h4 132 i.toNat (min (gi h 132 i.toNat) (1 + (min b_ 1000)))) 132 l = anC (gi h 132) l := fun l hl => by
          by_cases q : l = i.toNat
          · rw [q, an, ← b0, if_pos (by omega)]
            exact gi_same (by omega)
          · exact (gi_k q _).trans (dn l (by omega))
        exact ih _ (by omega) (gi h 132 i.toNat) (i + 1) _ _ rfl (by omega) (by rw [if_neg (by omega), show (i + 1).toNat - 1 = i.toNat by omega]) (nn) (fun l h1 h2 => (gi_k (by omega) _).trans (od l (by omega) h2)) (lk1_n (lk1_n (lk1_n (lk1_n l0 (by decide) (Or.inl rfl)) (by decide) (Or.inl rfl)) (by decide) (Or.inl rfl)) (by decide) (Or.inl rfl)) (lk1_n (lk1_n (lk1_n (lk1_n l1 (by decide) (Or.inl rfl)) (by decide) (Or.inl rfl)) (by decide) (Or.inl rfl)) (by decide) (Or.inl rfl)) (lk1_n lk1_s (by decide) (Or.inl rfl)) lk1_s (GD_wn (hG4) (r := 46) rfl rfl) (FRM_wn 0 8 (hF4) (r := 46) rfl rfl rfl (by omega) (by omega))
      · have a11 := a1 (by omega)
        refine x_aload_n 32 hK rfl rfl (lk1_n l0 (by decide) (Or.inl rfl)) ?_
        refine x_getR 35 hK rfl rfl (sp_127 (h := h4) hG4) (rf_127_4 (h := h4) hG4) ?_
        refine x_iload_n 36 hK rfl rfl (lk1_n l3 (by decide) (Or.inl rfl)) ?_
        refine x_iconst 37 hK rfl rfl ?_
        refine x_iadd 38 hK rfl rfl ?_
        refine x_ialoadE 39 hK rfl rfl (sp_132 (h := h4) hG4) (by omega) (by omega) (by omega) (e' := (gi h 132 (i.toNat + 1))) (((gi_to (show (i + 1).toNat = i.toNat + 1 by omega)).trans (od (i.toNat + 1) (by omega) (by omega)))) ?_
        refine x_goto 45 hK rfl rfl ?_
        refine x_istore 47 hK rfl rfl _ rfl ?_
        refine x_aload_n 48 hK rfl rfl (lk1_n (lk1_n l0 (by decide) (Or.inl rfl)) (by decide) (Or.inl rfl)) ?_
        refine x_getR 51 hK rfl rfl (sp_127 (h := h4) hG4) (rf_127_4 (h := h4) hG4) ?_
        refine x_iload_n 52 hK rfl rfl (lk1_n (lk1_n l3 (by decide) (Or.inl rfl)) (by decide) (Or.inl rfl)) ?_
        refine x_iload 54 hK rfl rfl (lk1_n lk1_s (by decide) (Or.inl rfl)) ?_
        refine x_iconst 55 hK rfl rfl ?_
        refine x_iload_n 56 hK rfl rfl (lk1_n (lk1_n l2 (by decide) (Or.inl rfl)) (by decide) (Or.inl rfl)) ?_
        refine x_iload 58 hK rfl rfl lk1_s ?_
        refine x_min 61 hK rfl rfl (Nat.le_of_ble_eq_true rfl) (by omega) (by omega) ?_
        refine x_iadd 62 hK rfl rfl ?_
        refine x_min 65 hK rfl rfl (Nat.le_of_ble_eq_true rfl) (by omega) (by omega) ?_
        refine x_iastore 66 hK rfl rfl (sp_132 (h := h4) hG4) (by omega) (by omega) (by omega) ?_
        refine x_iload 68 hK rfl rfl (lk1_n lk1_s (by decide) (Or.inl rfl)) ?_
        refine x_istore_n 69 hK rfl rfl _ rfl ?_
        refine x_iinc 72 hK rfl rfl (lk1_n (lk1_n (lk1_n l3 (by decide) (Or.inl rfl)) (by decide) (Or.inl rfl)) (by decide) (Or.inl rfl)) _ rfl ?_
        refine x_goto 11 hK rfl rfl ?_
        have nn : ∀ l : Nat, (l : Int) < i + 1 → gi (wI h4 132 i.toNat (min (gi h 132 i.toNat) (1 + (min b_ (gi h 132 (i.toNat + 1)))))) 132 l = anC (gi h 132) l := fun l hl => by
          by_cases q : l = i.toNat
          · rw [q, an, ← b0, if_neg (by omega)]
            exact gi_same (by omega)
          · exact (gi_k q _).trans (dn l (by omega))
        exact ih _ (by omega) (gi h 132 i.toNat) (i + 1) _ _ rfl (by omega) (by rw [if_neg (by omega), show (i + 1).toNat - 1 = i.toNat by omega]) (nn) (fun l h1 h2 => (gi_k (by omega) _).trans (od l (by omega) h2)) (lk1_n (lk1_n (lk1_n (lk1_n l0 (by decide) (Or.inl rfl)) (by decide) (Or.inl rfl)) (by decide) (Or.inl rfl)) (by decide) (Or.inl rfl)) (lk1_n (lk1_n (lk1_n (lk1_n l1 (by decide) (Or.inl rfl)) (by decide) (Or.inl rfl)) (by decide) (Or.inl rfl)) (by decide) (Or.inl rfl)) (lk1_n lk1_s (by decide) (Or.inl rfl)) lk1_s (GD_wn (hG4) (r := 46) rfl rfl) (FRM_wn 0 8 (hF4) (r := 46) rfl rfl rfl (by omega) (by omega))
  refine x_iload_n 1 hK rfl rfl rfl ?_
  refine x_iconst 2 hK rfl rfl ?_
  refine x_if_icmp_ne 78 5 hK rfl rfl rfl (by omega) (by omega) (fun c => by omega) (fun _ => ?_)
  refine x_sipush 8 hK rfl rfl rfl ?_
  refine x_istore_n 9 hK rfl rfl [(2, .int (I 1000)), (0, .ref 127), (1, .int (I 2))] rfl ?_
  refine x_iconst 10 hK rfl rfl ?_
  refine x_istore_n 11 hK rfl rfl [(3, .int (I 0)), (2, .int (I 1000)), (0, .ref 127), (1, .int (I 2))] rfl ?_
  exact loop _ 1000 0 _ _ rfl (by omega) (rfl) (fun l hl => absurd hl (by omega)) (fun l _ h2 => rfl) rfl rfl rfl rfl (hG) ((FRM.rf : FRM gRL [(0, 46, 0, 8)] h h))
set_option maxRecDepth 4000 in
theorem ctX0_doChosenV {SP : CT} (hSP : MONO SP) {sh : List (Nat × Nat)} {h : aH} (hG : GD gE gRL sh h) {v l : Int} (hv : v = -1 ∨ v = 1) (tu : gi h 127 5 = if l.tmod 2 = 1 then 1 else 0) (hb : ∀ l, l < 9 → 0 ≤ gi h 132 l ∧ gi h 132 l ≤ 2000) : CLd SP 2 mX0_doChosen [.ref 127, .int (I v)] h 0 0 (fun rv h' => rv = none ∧ GD gE gRL sh h' ∧ FRM gRL [(0, 46, 0, 8)] h h' ∧ ∀ i, i < 9 → gi h' 132 i = (mvC (tvF l v) (gi h 132)) i + 1) := by
  refine x_met _ rfl (Nat.le_of_ble_eq_true rfl) (fun K hK => ?_)
  have hmono := MONO_CLd hSP 1
  have tb := tvF_b (l := l) (v := v) (by omega)
  have te : tvF l v = if l.tmod 2 = 1 then -v else v := rfl
  have mb := mvC_b hb tb
  have loop : ∀ (mz : Nat) (i : Int) (h4 : aH) (ls : List (Nat × Value)), ((9 - i).toNat = mz) → (0 ≤ i ∧ i ≤ 9) → (∀ k : Nat, (k : Int) < i → gi h4 132 k = (mvC (tvF l v) (gi h 132)) k + 1) → (∀ k : Nat, i ≤ k → k < 9 → gi h4 132 k = (mvC (tvF l v) (gi h 132)) k) → lk ls 0 = some (.ref 127) → lk ls 1 = some (.int (I v)) → lk ls 2 = some (.int (I i)) → GD gE gRL sh h4 → FRM gRL [(0, 46, 0, 8)] h h4 → K 101 ls [] h4 0 0 := by
    intro mz
    induction mz using Nat.strongRecOn with
    | ind mz ih =>
    intro i h4 ls hm i0 dn od l0 l1 l2 hG4 hF4
    have a0 := fun z : i < 9 => mb i.toNat (by omega)
    refine x_iload_n 102 hK rfl rfl l2 ?_
    refine x_bipush 104 hK rfl rfl rfl ?_
    refine x_if_icmp_gt 123 107 hK rfl rfl rfl (by omega) (by omega) (fun c3 => ?_) (fun c3 => ?_)
    · exact x_vret hK rfl ⟨rfl, hG4, hF4, fun k hk => dn k (by omega)⟩
    · have a00 := a0 (by omega)
      refine x_aload_n 108 hK rfl rfl l0 ?_
      refine x_getR 111 hK rfl rfl (sp_127 (h := h4) hG4) (rf_127_4 (h := h4) hG4) ?_
      refine x_iload_n 112 hK rfl rfl l2 ?_
      refine x_dup2 113 hK rfl rfl rfl rfl ?_
      refine x_ialoadE 114 hK rfl rfl (sp_132 (h := h4) hG4) (by omega) (by omega) (by omega) (e' := ((mvC (tvF l v) (gi h 132)) i.toNat)) ((od i.toNat (by omega) (by omega))) ?_
      refine x_iconst 115 hK rfl rfl ?_
      refine x_iadd 116 hK rfl rfl ?_
      refine x_iastore 117 hK rfl rfl (sp_132 (h := h4) hG4) (by omega) (by omega) (by omega) ?_
      refine x_iinc 120 hK rfl rfl l2 _ rfl ?_
      refine x_goto 101 hK rfl rfl ?_
      exact ih _ (by omega) (i + 1) _ _ rfl (by omega) (fun k hk => if q : k = i.toNat then (by rw [q]; exact gi_same (by omega)) else (gi_k q _).trans (dn k (by omega))) (fun k h1 h2 => (gi_k (by omega) _).trans (od k (by omega) h2)) (lk1_n l0 (by decide) (Or.inl rfl)) (lk1_n l1 (by decide) (Or.inl rfl)) lk1_s (GD_wn (hG4) (r := 46) rfl rfl) (FRM_wn 0 8 (hF4) (r := 46) rfl rfl rfl (by omega) (by omega))
  refine x_iload_n 1 hK rfl rfl rfl ?_
  refine x_iconst 2 hK rfl rfl ?_
  refine x_if_icmp_ne 78 5 hK rfl rfl rfl (by omega) (by omega) (fun c3 => ?_) (fun c3 => ?_)
  · refine x_iload_n 79 hK rfl rfl rfl ?_
    refine x_if_eq 123 82 hK rfl rfl rfl (by omega) (fun c5 => ?_) (fun c5 => ?_)
    · omega
    · refine x_aload_n 83 hK rfl rfl rfl ?_
      refine x_aload_n 84 hK rfl rfl rfl ?_
      have g729 := gri (0) (1) hG (a := 127) (r := 41) (k := 5) rfl rfl
      refine x_getE 87 hK rfl (Or.inr rfl) rfl (sp_127 (h := h) hG) (e := (gi h 127 5)) (rfl) ?_
      rw [tu]
      by_cases ct : l.tmod 2 = 1
      · rw [if_pos ct] at te ⊢
        refine x_if_eq 95 90 hK rfl rfl rfl (by omega) (fun c => by omega) (fun _ => ?_)
        refine x_iload_n 91 hK rfl rfl rfl ?_
        refine x_ineg 92 hK rfl rfl ?_
        refine x_goto 96 hK rfl rfl ?_
        refine x_callV 99 hK hmono rfl rfl [.ref 127, .int (I (-v))] [] rfl rfl (Nat.le_of_ble_eq_true rfl) (Nat.le_of_ble_eq_true rfl) rfl (sp_127 (h := h) hG) (CLd_le (Nat.le_of_ble_eq_true rfl) (ctX0_moveCostsG hSP hG (v := (-v)) (by omega))) ?_
        rintro v730 h730 ⟨rfl, hG730, hF730, lg730⟩
        rw [← te] at lg730
        refine x_iconst 100 hK rfl rfl ?_
        refine x_istore_n 101 hK rfl rfl [(2, .int (I 0)), (0, .ref 127), (1, .int (I v))] rfl ?_
        exact loop _ 0 _ _ rfl (by omega) (fun k hk => absurd hk (by omega)) (fun k _ h2 => lg730 k h2) rfl rfl rfl (hG730) (hF730)
      · rw [if_neg ct] at te ⊢
        refine x_if_eq 95 90 hK rfl rfl rfl (by omega) (fun _ => ?_) (fun c => by omega)
        refine x_iload_n 96 hK rfl rfl rfl ?_
        refine x_callV 99 hK hmono rfl rfl [.ref 127, .int (I v)] [] rfl rfl (Nat.le_of_ble_eq_true rfl) (Nat.le_of_ble_eq_true rfl) rfl (sp_127 (h := h) hG) (CLd_le (Nat.le_of_ble_eq_true rfl) (ctX0_moveCostsG hSP hG (v := v) (by omega))) ?_
        rintro v731 h731 ⟨rfl, hG731, hF731, lg731⟩
        rw [← te] at lg731
        refine x_iconst 100 hK rfl rfl ?_
        refine x_istore_n 101 hK rfl rfl [(2, .int (I 0)), (0, .ref 127), (1, .int (I v))] rfl ?_
        exact loop _ 0 _ _ rfl (by omega) (fun k hk => absurd hk (by omega)) (fun k _ h2 => lg731 k h2) rfl rfl rfl (hG731) (hF731)
  · omega
set_option maxRecDepth 4000 in
theorem ctX0_fewestOrdersG {SP : CT} (hSP : MONO SP) {sh : List (Nat × Nat)} {h : aH} (hG : GD gE gRL sh h) {L : List (Int × Int × Int)} {now last l f n : Int} {dl : Int → Int} {hit : Int → Nat → Int} {cc : Int → Int} (en : gi h 23 0 = now) (eo : kO h 23 (gi h 23 4).toNat = srt L) (hd : ∀ s, 1 ≤ dl s ∧ dl s ≤ 12) (nr : 0 ≤ now ∧ now ≤ 1000000) (hr : ∀ i : Nat, (i : Int) < gi h 23 4 → now < gi h 24 i ∧ gi h 24 i ≤ now + 12 ∧ -1 ≤ gi h 25 i ∧ gi h 25 i ≤ 1) (dn : ∀ j : Nat, j < 30 → gi h 128 j = j + dl (now + j)) (ef : f = if last = now then 1 else 0) (hn : 0 ≤ n ∧ n ≤ 30) (rk : ∀ t : Nat, 1 ≤ t → t ≤ 30 → RB (gi h 129 t) (hit t)) (tu : gi h 127 5 = if l.tmod 2 = 1 then 1 else 0) (cv : ∀ j : Nat, (j : Int) < n → -1 ≤ cc j ∧ cc j ≤ 2) (cz : ∀ j : Nat, (j : Int) < n → gi h 131 j = if f ≤ (j : Int) ∧ gi h 128 j ≤ n then cc j else 0) : CLd SP 3 mX0_fewestOrders [.ref 127, .ref 23, .int (I n)] h 0 0 (fun rv h' => rv = some (.int (I (feN (nzL cc (opsT L now last dl n.toNat)) (XG cc l hit L now last dl (gi h 23 1) n.toNat) 9))) ∧ GD gE gRL sh h' ∧ FRM gRL [(0, 46, 0, 8)] h h' ∧ 0 ≤ feN (nzL cc (opsT L now last dl n.toNat)) (XG cc l hit L now last dl (gi h 23 1) n.toNat) 9 ∧ feN (nzL cc (opsT L now last dl n.toNat)) (XG cc l hit L now last dl (gi h 23 1) n.toNat) 9 ≤ 1000) := by
  refine x_met _ rfl (Nat.le_of_ble_eq_true rfl) (fun K hK => ?_)
  have hmono := MONO_CLd hSP 2
  have g4 := gri 0 12 hG (a := 23) (r := 17) (k := 4) rfl rfl
  have gl0 := gri 0 8 hG (a := 23) (r := 17) (k := 1) rfl rfl
  have fb : (f = 0 ∧ last ≠ now) ∨ (f = 1 ∧ last = now) := by
    rw [ef]
    split
    · exact Or.inr ⟨rfl, by assumption⟩
    · exact Or.inl ⟨rfl, by assumption⟩
  have so : ∀ i j : Nat, i ≤ j → (j : Int) < gi h 23 4 → gi h 24 i ≤ gi h 24 j := fun i j h1 h2 => by
    have z := SRT_at (K := kO h 23 (gi h 23 4).toNat) (by rw [eo]; exact srt_SRT L) h1 (kO_at (h := h) (c := 23) (n := (gi h 23 4).toNat) (j := i) (by omega)) (kO_at (h := h) (c := 23) (n := (gi h 23 4).toNat) (j := j) (by omega))
    exact z
  have least : ∀ (mz : Nat) (e i : Int) (h8 : aH) (ls : List (Nat × Value)), ((9 - i).toNat = mz) → (0 ≤ i ∧ i ≤ 9) → (RLC 900 (nzL cc (opsT L now last dl n.toNat)) (XG cc l hit L now last dl (gi h 23 1) n.toNat) (gi h8 132)) → (e = feN (nzL cc (opsT L now last dl n.toNat)) (XG cc l hit L now last dl (gi h 23 1) n.toNat) i.toNat) → lk ls 0 = some (.ref 127) → lk ls 1 = some (.ref 23) → lk ls 2 = some (.int (I n)) → lk ls 4 = some (.int (I e)) → lk ls 5 = some (.int (I i)) → GD gE gRL sh h8 → FRM gRL [(0, 46, 0, 8)] h h8 → K 184 ls [] h8 0 0 := by
    intro mz
    induction mz using Nat.strongRecOn with
    | ind mz ih =>
    intro e i h8 ls hm i0 lv ee l0 l1 l2 l4 l5 hG8 hF8
    have fb2 := feN_b lv (by omega) (i := i.toNat) (by omega)
    have c8 := fun z : i < 9 => RLC_b lv (by omega) i.toNat (by omega)
    refine x_iload 186 hK rfl rfl l5 ?_
    refine x_bipush 188 hK rfl rfl rfl ?_
    refine x_if_icmp_gt 211 191 hK rfl rfl rfl (by omega) (by omega) (fun c3 => ?_) (fun c3 => ?_)
    · refine x_iload 213 hK rfl rfl l4 ?_
      exact x_iret hK rfl ⟨by rw [ee, show i.toNat = 9 by omega], hG8, hF8, feN_b lv (by omega) (by omega)⟩
    · refine x_iload 193 hK rfl rfl l4 ?_
      refine x_aload_n 194 hK rfl rfl l0 ?_
      refine x_getR 197 hK rfl rfl (sp_127 (h := h8) hG8) (rf_127_4 (h := h8) hG8) ?_
      refine x_iload 199 hK rfl rfl l5 ?_
      have g732 := gi_r h8 132 i.toNat
      refine x_ialoadE 200 hK rfl rfl (sp_132 (h := h8) hG8) (by omega) (by omega) (by omega) (e' := (gi h8 132 i.toNat)) (rfl) ?_
      refine x_min 203 hK rfl rfl (Nat.le_of_ble_eq_true rfl) (by omega) (by omega) ?_
      refine x_istore 205 hK rfl rfl _ rfl ?_
      refine x_iinc 208 hK rfl rfl (lk1_n l5 (by decide) (Or.inl rfl)) _ rfl ?_
      refine x_goto 184 hK rfl rfl ?_
      exact ih _ (by omega) (min e (gi h8 132 i.toNat)) (i + 1) _ _ rfl (by omega) (lv) (by rw [tn_s i0.1, ee]; exact few_s lv (by omega) (by omega)) (lk1_n (lk1_n l0 (by decide) (Or.inl rfl)) (by decide) (Or.inl rfl)) (lk1_n (lk1_n l1 (by decide) (Or.inl rfl)) (by decide) (Or.inl rfl)) (lk1_n (lk1_n l2 (by decide) (Or.inl rfl)) (by decide) (Or.inl rfl)) (lk1_n lk1_s (by decide) (Or.inl rfl)) lk1_s (hG8) (hF8)
  have loop : ∀ (mz : Nat) (nx t : Int) (h4 : aH) (ls : List (Nat × Value)), ((n + 1 - t).toNat = mz) → (1 ≤ t ∧ t ≤ n + 1) → (0 ≤ nx ∧ nx ≤ gi h 23 4) → (∀ i : Nat, (i : Int) < nx → gi h 24 i < now + t) → (∀ i : Nat, nx ≤ i → (i : Int) < gi h 23 4 → now + t ≤ gi h 24 i) → (RLC (30 * (t - 1)) (nzL cc (opsT L now last dl (t - 1).toNat)) (XG cc l hit L now last dl (gi h 23 1) (t - 1).toNat) (gi h4 132)) → lk ls 0 = some (.ref 127) → lk ls 1 = some (.ref 23) → lk ls 2 = some (.int (I n)) → lk ls 3 = some (.int (I nx)) → lk ls 4 = some (.int (I t)) → GD gE gRL sh h4 → FRM gRL [(0, 46, 0, 8)] h h4 → K 25 ls [] h4 0 0 := by
    intro mz
    induction mz using Nat.strongRecOn with
    | ind mz ih =>
    intro nx t h4 ls hm t0 x0 lo hi lv l0 l1 l2 l3 l4 hG4 hF4
    have iht := ih
    have xr : rgV (XG cc l hit L now last dl (gi h 23 1) (t - 1).toNat) := XG_r _
    have wr : rgV (opsF cc l hit (wyF L (now + t)) (XG cc l hit L now last dl (gi h 23 1) (t - 1).toNat)) := opsF_r _ _ xr
    have yr : rgV (opsF cc l hit (blkC now last dl t t.toNat) (opsF cc l hit (wyF L (now + t)) (XG cc l hit L now last dl (gi h 23 1) (t - 1).toNat))) := opsF_r _ _ wr
    have rocks : ∀ (mz : Nat) (nz i : Int) (h7 : aH) (ls : List (Nat × Value)), ((9 - i).toNat = mz) → (t ≤ n) → (0 ≤ nz ∧ nz ≤ gi h 23 4) → (∀ q : Nat, (q : Int) < nz → gi h 24 q < now + (t + 1)) → (∀ q : Nat, nz ≤ q → (q : Int) < gi h 23 4 → now + (t + 1) ≤ gi h 24 q) → (0 ≤ i ∧ i ≤ 9) → (RLC (30 * t) ((nzL cc (opsT L now last dl (t - 1).toNat)) + nzL cc (blkC now last dl t t.toNat)) (fun g : Nat => if (g : Int) < i ∧ 0 < hit t g then 1000 else (opsF cc l hit (blkC now last dl t t.toNat) (opsF cc l hit (wyF L (now + t)) (XG cc l hit L now last dl (gi h 23 1) (t - 1).toNat))) g) (gi h7 132)) → lk ls 0 = some (.ref 127) → lk ls 1 = some (.ref 23) → lk ls 2 = some (.int (I n)) → lk ls 3 = some (.int (I nz)) → lk ls 4 = some (.int (I t)) → lk ls 5 = some (.int (I i)) → GD gE gRL sh h7 → FRM gRL [(0, 46, 0, 8)] h h7 → K 121 ls [] h7 0 0 := by
      intro mz
      induction mz using Nat.strongRecOn with
      | ind mz ih =>
      intro nz i h7 ls hm t1 z0 lo3 hi3 i0 lr l0 l1 l2 l3 l4 l5 hG7 hF7
      have rt := rk t.toNat (by omega) (by omega)
      rw [show ((t.toNat : Nat) : Int) = t by omega] at rt
      have rb := fun z : i < 9 => rt.2 i.toNat (by omega)
      unfold bitS at rb
      rw [show ((i.toNat : Nat) : Int) = i by omega] at rb
      refine x_iload 123 hK rfl rfl l5 ?_
      refine x_bipush 125 hK rfl rfl rfl ?_
      refine x_if_icmp_gt 170 128 hK rfl rfl rfl (by omega) (by omega) (fun c3 => ?_) (fun c3 => ?_)
      · refine x_iinc 173 hK rfl rfl l4 _ rfl ?_
        refine x_goto 25 hK rfl rfl ?_
        have lvn : RLC (30 * (t + 1 - 1)) (nzL cc (opsT L now last dl (t + 1 - 1).toNat)) (XG cc l hit L now last dl (gi h 23 1) (t + 1 - 1).toNat) (gi h7 132) := by
          rw [show t + 1 - 1 = t by omega]
          have xt := XG_t (cc := cc) (l := l) (hit := hit) (L := L) (now := now) (last := last) (dl := dl) (l0 := gi h 23 1) (t := t) (by omega)
          rw [xt.1, xt.2, op_2]
          refine RLC_ext lr fun l9 hl => Or.inl ⟨rfl, ?_⟩
          exact if_c ⟨fun z => ⟨by omega, z⟩, fun z => z.2⟩
        exact iht _ (by omega) nz (t + 1) _ _ rfl (by omega) (by omega) (lo3) (hi3) (lvn) (lk1_n l0 (by decide) (Or.inl rfl)) (lk1_n l1 (by decide) (Or.inl rfl)) (lk1_n l2 (by decide) (Or.inl rfl)) (lk1_n l3 (by decide) (Or.inl rfl)) lk1_s (hG7) (hF7)
      · refine x_aload_n 129 hK rfl rfl l0 ?_
        refine x_getR 132 hK rfl rfl (sp_127 (h := h7) hG7) (rf_127_4 (h := h7) hG7) ?_
        refine x_iload 134 hK rfl rfl l5 ?_
        refine x_aload_n 135 hK rfl rfl l0 ?_
        refine x_getR 138 hK rfl rfl (sp_127 (h := h7) hG7) (rf_127_1 (h := h7) hG7) ?_
        refine x_iload 140 hK rfl rfl l4 ?_
        have g733 := gi_r h 129 t.toNat
        refine x_ialoadE 141 hK rfl rfl (sp_129 (h := h7) hG7) (by omega) (by omega) (by omega) (e' := (gi h 129 t.toNat)) (FRM_gi hF7 (r := 43) rfl rfl) ?_
        refine x_iload 143 hK rfl rfl l5 ?_
        have g734 := bShr_r (gi h 129 t.toNat) i
        refine x_ishrF 144 hK rfl rfl ?_
        refine x_iconst 145 hK rfl rfl ?_
        have g735 := bAnd_r (bShr (gi h 129 t.toNat) i) 1
        refine x_iandF 146 hK rfl rfl ?_
        refine x_iconst 147 hK rfl rfl ?_
        refine x_if_icmp_ne 156 150 hK rfl rfl rfl (by omega) (by omega) (fun c19 => ?_) (fun c19 => ?_)
        · refine x_aload_n 157 hK rfl rfl l0 ?_
          refine x_getR 160 hK rfl rfl (sp_127 (h := h7) hG7) (rf_127_4 (h := h7) hG7) ?_
          refine x_iload 162 hK rfl rfl l5 ?_
          have g736 := gi_r h7 132 i.toNat
          refine x_ialoadE 163 hK rfl rfl (sp_132 (h := h7) hG7) (by omega) (by omega) (by omega) (e' := (gi h7 132 i.toNat)) (rfl) ?_
          refine x_iastore 164 hK rfl rfl (sp_132 (h := h7) hG7) (by omega) (by omega) (by omega) ?_
          refine x_iinc 167 hK rfl rfl l5 _ rfl ?_
          refine x_goto 121 hK rfl rfl ?_
          have hh : ¬ 0 < hit t i.toNat := fun z => absurd ((rb (by omega)).mpr z) (by omega)
          have nn : RLC (30 * t) ((nzL cc (opsT L now last dl (t - 1).toNat)) + nzL cc (blkC now last dl t t.toNat)) (fun g : Nat => if (g : Int) < (i + 1) ∧ 0 < hit t g then 1000 else (opsF cc l hit (blkC now last dl t t.toNat) (opsF cc l hit (wyF L (now + t)) (XG cc l hit L now last dl (gi h 23 1) (t - 1).toNat))) g) (gi (wI h7 132 i.toNat (gi h7 132 i.toNat)) 132) := RLC_ext lr fun l9 hl => by
            by_cases c : l9 = i.toNat
            · exact Or.inl ⟨by rw [c]; exact gi_same (gi_r _ _ _), (if_neg (fun z => hh (by rw [← c]; exact z.2))).trans (if_neg (fun z => by have := z.1; omega)).symm⟩
            · exact Or.inl ⟨gi_k c _, if_c ⟨fun z => ⟨by omega, z.2⟩, fun z => ⟨by omega, z.2⟩⟩⟩
          exact ih _ (by omega) nz (i + 1) _ _ rfl (t1) (by omega) (lo3) (hi3) (by omega) (nn) (lk1_n l0 (by decide) (Or.inl rfl)) (lk1_n l1 (by decide) (Or.inl rfl)) (lk1_n l2 (by decide) (Or.inl rfl)) (lk1_n l3 (by decide) (Or.inl rfl)) (lk1_n l4 (by decide) (Or.inl rfl)) lk1_s (GD_wn (hG7) (r := 46) rfl rfl) (FRM_wn 0 8 (hF7) (r := 46) rfl rfl rfl (by omega) (by omega))
        · refine x_sipush 153 hK rfl rfl rfl ?_
          refine x_goto 163 hK rfl rfl ?_
          refine x_iastore 164 hK rfl rfl (sp_132 (h := h7) hG7) (by omega) (by omega) (by omega) ?_
          refine x_iinc 167 hK rfl rfl l5 _ rfl ?_
          refine x_goto 121 hK rfl rfl ?_
          have hh : 0 < hit t i.toNat := (rb (by omega)).mp (by omega)
          have nn : RLC (30 * t) ((nzL cc (opsT L now last dl (t - 1).toNat)) + nzL cc (blkC now last dl t t.toNat)) (fun g : Nat => if (g : Int) < (i + 1) ∧ 0 < hit t g then 1000 else (opsF cc l hit (blkC now last dl t t.toNat) (opsF cc l hit (wyF L (now + t)) (XG cc l hit L now last dl (gi h 23 1) (t - 1).toNat))) g) (gi (wI h7 132 i.toNat 1000) 132) := RLC_ext lr fun l9 hl => by
            by_cases c : l9 = i.toNat
            · exact Or.inr ⟨if_pos ⟨by omega, by rw [c]; exact hh⟩, by rw [c]; exact gi_same (by omega)⟩
            · exact Or.inl ⟨gi_k c _, if_c ⟨fun z => ⟨by omega, z.2⟩, fun z => ⟨by omega, z.2⟩⟩⟩
          exact ih _ (by omega) nz (i + 1) _ _ rfl (t1) (by omega) (lo3) (hi3) (by omega) (nn) (lk1_n l0 (by decide) (Or.inl rfl)) (lk1_n l1 (by decide) (Or.inl rfl)) (lk1_n l2 (by decide) (Or.inl rfl)) (lk1_n l3 (by decide) (Or.inl rfl)) (lk1_n l4 (by decide) (Or.inl rfl)) lk1_s (GD_wn (hG7) (r := 46) rfl rfl) (FRM_wn 0 8 (hF7) (r := 46) rfl rfl rfl (by omega) (by omega))
    have inner : ∀ (mz : Nat) (nz i : Int) (h6 : aH) (ls : List (Nat × Value)), ((t - i).toNat = mz) → (t ≤ n) → (0 ≤ nz ∧ nz ≤ gi h 23 4) → (∀ q : Nat, (q : Int) < nz → gi h 24 q < now + (t + 1)) → (∀ q : Nat, nz ≤ q → (q : Int) < gi h 23 4 → now + (t + 1) ≤ gi h 24 q) → (0 ≤ i ∧ t - 12 ≤ i ∧ i ≤ 30) → (i ≤ t) → (RLC (30 * (t - 1) + i) ((nzL cc (opsT L now last dl (t - 1).toNat)) + nzL cc (blkC now last dl t i.toNat)) (opsF cc l hit (blkC now last dl t i.toNat) (opsF cc l hit (wyF L (now + t)) (XG cc l hit L now last dl (gi h 23 1) (t - 1).toNat))) (gi h6 132)) → lk ls 0 = some (.ref 127) → lk ls 1 = some (.ref 23) → lk ls 2 = some (.int (I n)) → lk ls 3 = some (.int (I nz)) → lk ls 4 = some (.int (I t)) → lk ls 5 = some (.int (I i)) → GD gE gRL sh h6 → FRM gRL [(0, 46, 0, 8)] h h6 → K 82 ls [] h6 0 0 := by
      intro mz
      induction mz using Nat.strongRecOn with
      | ind mz ih =>
      intro nz i h6 ls hm t1 z0 lo3 hi3 i0 i1 lc l0 l1 l2 l3 l4 l5 hG6 hF6
      have r6 : rgV (opsF cc l hit (blkC now last dl t i.toNat) (opsF cc l hit (wyF L (now + t)) (XG cc l hit L now last dl (gi h 23 1) (t - 1).toNat))) := opsF_r _ _ wr
      have dni : i < t → gi h 128 i.toNat = i + dl (now + i) := fun z => by
        have y := dn i.toNat (by omega)
        rw [show ((i.toNat : Nat) : Int) = i by omega] at y
        exact y
      have di := hd (now + i)
      have bn : (blkC now last dl t (i + 1).toNat) = (blkC now last dl t i.toNat) ++ if cmF now last dl i t = true then [(1, i)] else [] := by
        rw [tn_s (by omega)]
        show blkC now last dl t i.toNat ++ (if cmF now last dl ((i.toNat : Nat) : Int) t = true then [(1, ((i.toNat : Nat) : Int))] else []) = _
        rw [show ((i.toNat : Nat) : Int) = i by omega]
      refine x_iload 84 hK rfl rfl l5 ?_
      refine x_iload 86 hK rfl rfl l4 ?_
      refine x_if_icmp_ge 118 89 hK rfl rfl rfl (by omega) (by omega) (fun c3 => ?_) (fun c3 => ?_)
      · refine x_iconst 119 hK rfl rfl ?_
        refine x_istore 121 hK rfl rfl _ rfl ?_
        exact rocks _ nz 0 _ _ rfl (t1) (by omega) (lo3) (hi3) (by omega) (by
          rw [blk_hi (now := now) (last := last) (t := t) hd i.toNat (by omega)] at lc
          exact RLC_cast (RLC_ext lc fun l9 hl => Or.inl ⟨rfl, if_neg (fun z => by have := z.1; omega)⟩) (by omega) rfl) (lk1_n l0 (by decide) (Or.inl rfl)) (lk1_n l1 (by decide) (Or.inl rfl)) (lk1_n l2 (by decide) (Or.inl rfl)) (lk1_n l3 (by decide) (Or.inl rfl)) (lk1_n l4 (by decide) (Or.inl rfl)) lk1_s (hG6) (hF6)
      · refine x_aload_n 90 hK rfl rfl l0 ?_
        refine x_getR 93 hK rfl rfl (sp_127 (h := h6) hG6) (rf_127_0 (h := h6) hG6) ?_
        refine x_iload 95 hK rfl rfl l5 ?_
        refine x_ialoadE 96 hK rfl rfl (sp_128 (h := h6) hG6) (by omega) (by omega) (by omega) (e' := (i + dl (now + i))) (((FRM_gi hF6 (r := 42) rfl rfl).trans (dni (by omega)))) ?_
        refine x_iload 98 hK rfl rfl l4 ?_
        refine x_if_icmp_ne 112 101 hK rfl rfl rfl (by omega) (by omega) (fun c12 => ?_) (fun c12 => ?_)
        · refine x_iinc 115 hK rfl rfl l5 _ rfl ?_
          refine x_goto 82 hK rfl rfl ?_
          have cm : ¬ cmF now last dl i t = true := fun z => by
            have := (cmF_t z).2
            omega
          exact ih _ (by omega) nz (i + 1) _ _ rfl (t1) (by omega) (lo3) (hi3) (by omega) (by omega) (by rw [bn, if_neg cm, List.append_nil]; exact RLC_cast lc (by omega) rfl) (lk1_n l0 (by decide) (Or.inl rfl)) (lk1_n l1 (by decide) (Or.inl rfl)) (lk1_n l2 (by decide) (Or.inl rfl)) (lk1_n l3 (by decide) (Or.inl rfl)) (lk1_n l4 (by decide) (Or.inl rfl)) lk1_s (hG6) (hF6)
        · refine x_aload_n 102 hK rfl rfl l0 ?_
          refine x_aload_n 103 hK rfl rfl l0 ?_
          refine x_getR 106 hK rfl rfl (sp_127 (h := h6) hG6) (rf_127_3 (h := h6) hG6) ?_
          refine x_iload 108 hK rfl rfl l5 ?_
          have g737 := gi_r h 131 i.toNat
          refine x_ialoadE 109 hK rfl rfl (sp_131 (h := h6) hG6) (by omega) (by omega) (by omega) (e' := (gi h 131 i.toNat)) (FRM_gi hF6 (r := 45) rfl rfl) ?_
          have ci := cz i.toNat (by omega)
          rw [dni (by omega), show ((i.toNat : Nat) : Int) = i by omega] at ci
          have cvi := cv i.toNat (by omega)
          rw [show ((i.toNat : Nat) : Int) = i by omega] at cvi
          rcases (show (f ≤ i ∧ cc i = 2) ∨ (f ≤ i ∧ cc i = 0) ∨ (f ≤ i ∧ (cc i = -1 ∨ cc i = 1)) ∨ ¬ f ≤ i by omega) with ⟨fi, c2⟩ | ⟨fi, c2⟩ | ⟨fi, c2⟩ | fi
          · rw [if_pos ⟨fi, by omega⟩] at ci
            rw [ci, c2]
            have cm : cmF now last dl i t = true := cmF_i ⟨by omega, by omega⟩
            refine x_callV 112 hK hmono rfl rfl [.ref 127, .int (I 2)] [] rfl rfl (Nat.le_of_ble_eq_true rfl) (Nat.le_of_ble_eq_true rfl) rfl (sp_127 (h := h6) hG6) (CLd_le (Nat.le_of_ble_eq_true rfl) (ctX0_doChosenG hSP hG6 (RLC_b lc (by omega)))) ?_
            rintro v738 h738 ⟨rfl, hG738, hF738, lg738⟩
            refine x_iinc 115 hK rfl rfl l5 _ rfl ?_
            refine x_goto 82 hK rfl rfl ?_
            exact ih _ (by omega) nz (i + 1) _ _ rfl (t1) (by omega) (lo3) (hi3) (by omega) (by omega) (by rw [bn, if_pos cm, opsF_s, nzL_app]; exact RLC_cast (RLC_12 lc (by omega) r6 c2 lg738) (by omega) (by omega)) (lk1_n l0 (by decide) (Or.inl rfl)) (lk1_n l1 (by decide) (Or.inl rfl)) (lk1_n l2 (by decide) (Or.inl rfl)) (lk1_n l3 (by decide) (Or.inl rfl)) (lk1_n l4 (by decide) (Or.inl rfl)) lk1_s (hG738) ((hF6).trans ((hF738).mono rfl))
          · rw [if_pos ⟨fi, by omega⟩] at ci
            rw [ci, c2]
            have cm : cmF now last dl i t = true := cmF_i ⟨by omega, by omega⟩
            refine x_callV 112 hK hmono rfl rfl [.ref 127, .int (I 0)] [] rfl rfl (Nat.le_of_ble_eq_true rfl) (Nat.le_of_ble_eq_true rfl) rfl (sp_127 (h := h6) hG6) (CLd_le (Nat.le_of_ble_eq_true rfl) (ctX0_doChosen0 hSP hG6)) ?_
            rintro v9 h9 ⟨e9, rfl⟩
            rw [e9]
            clear e9
            refine x_iinc 115 hK rfl rfl l5 _ rfl ?_
            refine x_goto 82 hK rfl rfl ?_
            exact ih _ (by omega) nz (i + 1) _ _ rfl (t1) (by omega) (lo3) (hi3) (by omega) (by omega) (by rw [bn, if_pos cm, opsF_s, nzL_app]; exact RLC_cast (RLC_10 lc r6 c2) (by omega) (by omega)) (lk1_n l0 (by decide) (Or.inl rfl)) (lk1_n l1 (by decide) (Or.inl rfl)) (lk1_n l2 (by decide) (Or.inl rfl)) (lk1_n l3 (by decide) (Or.inl rfl)) (lk1_n l4 (by decide) (Or.inl rfl)) lk1_s (hG6) (hF6)
          · rw [if_pos ⟨fi, by omega⟩] at ci
            rw [ci]
            have cm : cmF now last dl i t = true := cmF_i ⟨by omega, by omega⟩
            refine x_callV 112 hK hmono rfl rfl [.ref 127, .int (I (cc i))] [] rfl rfl (Nat.le_of_ble_eq_true rfl) (Nat.le_of_ble_eq_true rfl) rfl (sp_127 (h := h6) hG6) (CLd_le (Nat.le_of_ble_eq_true rfl) (ctX0_doChosenV hSP hG6 (v := cc i) (l := l) c2 ((FRM_gi hF6 (r := 41) rfl rfl).trans tu) (RLC_b lc (by omega)))) ?_
            rintro v739 h739 ⟨rfl, hG739, hF739, lg739⟩
            refine x_iinc 115 hK rfl rfl l5 _ rfl ?_
            refine x_goto 82 hK rfl rfl ?_
            exact ih _ (by omega) nz (i + 1) _ _ rfl (t1) (by omega) (lo3) (hi3) (by omega) (by omega) (by rw [bn, if_pos cm, opsF_s, nzL_app]; exact RLC_cast (RLC_1v lc (by omega) r6 c2 lg739) (by omega) (by omega)) (lk1_n l0 (by decide) (Or.inl rfl)) (lk1_n l1 (by decide) (Or.inl rfl)) (lk1_n l2 (by decide) (Or.inl rfl)) (lk1_n l3 (by decide) (Or.inl rfl)) (lk1_n l4 (by decide) (Or.inl rfl)) lk1_s (hG739) ((hF6).trans ((hF739).mono rfl))
          · rw [if_neg (fun z => fi z.1)] at ci
            rw [ci]
            have cm : ¬ cmF now last dl i t = true := fun z => by
              have := (cmF_t z).1
              omega
            refine x_callV 112 hK hmono rfl rfl [.ref 127, .int (I 0)] [] rfl rfl (Nat.le_of_ble_eq_true rfl) (Nat.le_of_ble_eq_true rfl) rfl (sp_127 (h := h6) hG6) (CLd_le (Nat.le_of_ble_eq_true rfl) (ctX0_doChosen0 hSP hG6)) ?_
            rintro v9 h9 ⟨e9, rfl⟩
            rw [e9]
            clear e9
            refine x_iinc 115 hK rfl rfl l5 _ rfl ?_
            refine x_goto 82 hK rfl rfl ?_
            exact ih _ (by omega) nz (i + 1) _ _ rfl (t1) (by omega) (lo3) (hi3) (by omega) (by omega) (by rw [bn, if_neg cm, List.append_nil]; exact RLC_cast lc (by omega) rfl) (lk1_n l0 (by decide) (Or.inl rfl)) (lk1_n l1 (by decide) (Or.inl rfl)) (lk1_n l2 (by decide) (Or.inl rfl)) (lk1_n l3 (by decide) (Or.inl rfl)) (lk1_n l4 (by decide) (Or.inl rfl)) lk1_s (hG6) (hF6)
    have under : ∀ (mz : Nat) (ny : Int) (h5 : aH) (ls : List (Nat × Value)), ((gi h 23 4 - ny).toNat = mz) → (t ≤ n) → (0 ≤ ny ∧ ny ≤ gi h 23 4) → (∀ q : Nat, (q : Int) < ny → gi h 24 q < now + (t + 1)) → (∀ q : Nat, ny ≤ q → (q : Int) < gi h 23 4 → now + t ≤ gi h 24 q) → (RLC (30 * (t - 1)) (nzL cc (opsT L now last dl (t - 1).toNat)) (opsF cc l hit (wyS (kO h 23 ny.toNat) (now + t)) (XG cc l hit L now last dl (gi h 23 1) (t - 1).toNat)) (gi h5 132)) → lk ls 0 = some (.ref 127) → lk ls 1 = some (.ref 23) → lk ls 2 = some (.int (I n)) → lk ls 3 = some (.int (I ny)) → lk ls 4 = some (.int (I t)) → GD gE gRL sh h5 → FRM gRL [(0, 46, 0, 8)] h h5 → K 31 ls [] h5 0 0 := by
      intro mz
      induction mz using Nat.strongRecOn with
      | ind mz ih =>
      intro ny h5 ls hm t1 y0 lo2 hi2 lw l0 l1 l2 l3 l4 hG5 hF5
      have hrn := fun z : ny < gi h 23 4 => hr ny.toNat (by omega)
      have hin := fun z : ny < gi h 23 4 => hi2 ny.toNat (by omega) (by omega)
      refine x_iload_n 32 hK rfl rfl l3 ?_
      refine x_aload_n 33 hK rfl rfl l1 ?_
      have g740 := gri (0) (12) hG (a := 23) (r := 17) (k := 4) rfl rfl
      refine x_getE 36 hK rfl (Or.inl rfl) rfl (sp_23 (h := h5) hG5) (e := (gi h 23 4)) (FRM_gi hF5 (r := 17) rfl rfl) ?_
      refine x_if_icmp_ge 71 39 hK rfl rfl rfl (by omega) (by omega) (fun c4 => ?_) (fun c4 => ?_)
      · refine x_iconst 72 hK rfl rfl ?_
        refine x_iload 74 hK rfl rfl l4 ?_
        refine x_bipush 76 hK rfl rfl rfl ?_
        refine x_isub 77 hK rfl rfl ?_
        refine x_max 80 hK rfl rfl (Nat.le_of_ble_eq_true rfl) (by omega) (by omega) ?_
        refine x_istore 82 hK rfl rfl _ rfl ?_
        have hi' : ∀ q : Nat, ny ≤ q → (q : Int) < gi h 23 4 → now + (t + 1) ≤ gi h 24 q := fun q h1 h2 => by
          first
          | omega
          | (have := so ny.toNat q (by omega) h2; omega)
        have ew : (wyS (kO h 23 ny.toNat) (now + t)) = wyF L (now + t) := by
          rw [← wyS_srt, ← eo]
          have z := wyS_ext (h := h) (d := now + t) (n := ny.toNat) (gi h 23 4 - ny).toNat fun q h1 h2 => by
            have := hi' q (by omega) (by omega)
            omega
          rw [show ny.toNat + (gi h 23 4 - ny).toNat = (gi h 23 4).toNat by omega] at z
          exact z.symm
        have bk : (blkC now last dl t (max 0 (t - 12)).toNat) = [] := blk_lo _ fun k hk hc => by
          have z2 := (cmF_t hc).2
          have z3 := hd (now + (k : Int))
          omega
        rw [ew] at lw
        exact inner _ ny (max 0 (t - 12)) _ _ rfl (t1) (by omega) (lo2) (hi') (by omega) (by omega) (by rw [bk]; exact RLC_cast lw (by omega) (Int.add_zero _).symm) (lk1_n l0 (by decide) (Or.inl rfl)) (lk1_n l1 (by decide) (Or.inl rfl)) (lk1_n l2 (by decide) (Or.inl rfl)) (lk1_n l3 (by decide) (Or.inl rfl)) (lk1_n l4 (by decide) (Or.inl rfl)) lk1_s (hG5) (hF5)
      · have hr1 := hrn (by omega)
        have hi1 := hin (by omega)
        refine x_aload_n 40 hK rfl rfl l1 ?_
        refine x_getR 43 hK rfl rfl (sp_23 (h := h5) hG5) (rf_23_5 (h := h5) hG5) ?_
        refine x_iload_n 44 hK rfl rfl l3 ?_
        have g741 := gi_r h 24 ny.toNat
        refine x_ialoadE 45 hK rfl rfl (sp_24 (h := h5) hG5) (by omega) (by omega) (by omega) (e' := (gi h 24 ny.toNat)) (FRM_gi hF5 (r := 18) rfl rfl) ?_
        refine x_aload_n 46 hK rfl rfl l1 ?_
        refine x_getE 49 hK rfl (Or.inl rfl) rfl (sp_23 (h := h5) hG5) (e := now) (((FRM_gi hF5 (r := 17) rfl rfl).trans en)) ?_
        refine x_isub 50 hK rfl rfl ?_
        refine x_iload 52 hK rfl rfl l4 ?_
        refine x_if_icmp_gt 71 55 hK rfl rfl rfl (by omega) (by omega) (fun c21 => ?_) (fun c21 => ?_)
        · refine x_iconst 72 hK rfl rfl ?_
          refine x_iload 74 hK rfl rfl l4 ?_
          refine x_bipush 76 hK rfl rfl rfl ?_
          refine x_isub 77 hK rfl rfl ?_
          refine x_max 80 hK rfl rfl (Nat.le_of_ble_eq_true rfl) (by omega) (by omega) ?_
          refine x_istore 82 hK rfl rfl _ rfl ?_
          have hi' : ∀ q : Nat, ny ≤ q → (q : Int) < gi h 23 4 → now + (t + 1) ≤ gi h 24 q := fun q h1 h2 => by
            first
            | omega
            | (have := so ny.toNat q (by omega) h2; omega)
          have ew : (wyS (kO h 23 ny.toNat) (now + t)) = wyF L (now + t) := by
            rw [← wyS_srt, ← eo]
            have z := wyS_ext (h := h) (d := now + t) (n := ny.toNat) (gi h 23 4 - ny).toNat fun q h1 h2 => by
              have := hi' q (by omega) (by omega)
              omega
            rw [show ny.toNat + (gi h 23 4 - ny).toNat = (gi h 23 4).toNat by omega] at z
            exact z.symm
          have bk : (blkC now last dl t (max 0 (t - 12)).toNat) = [] := blk_lo _ fun k hk hc => by
            have z2 := (cmF_t hc).2
            have z3 := hd (now + (k : Int))
            omega
          rw [ew] at lw
          exact inner _ ny (max 0 (t - 12)) _ _ rfl (t1) (by omega) (lo2) (hi') (by omega) (by omega) (by rw [bk]; exact RLC_cast lw (by omega) (Int.add_zero _).symm) (lk1_n l0 (by decide) (Or.inl rfl)) (lk1_n l1 (by decide) (Or.inl rfl)) (lk1_n l2 (by decide) (Or.inl rfl)) (lk1_n l3 (by decide) (Or.inl rfl)) (lk1_n l4 (by decide) (Or.inl rfl)) lk1_s (hG5) (hF5)
        · refine x_aload_n 56 hK rfl rfl l0 ?_
          refine x_aload_n 57 hK rfl rfl l1 ?_
          refine x_getR 60 hK rfl rfl (sp_23 (h := h5) hG5) (rf_23_6 (h := h5) hG5) ?_
          refine x_iload_n 61 hK rfl rfl l3 ?_
          have g742 := gi_r h 25 ny.toNat
          refine x_ialoadE 62 hK rfl rfl (sp_25 (h := h5) hG5) (by omega) (by omega) (by omega) (e' := (gi h 25 ny.toNat)) (FRM_gi hF5 (r := 19) rfl rfl) ?_
          refine x_callV 65 hK hmono rfl rfl [.ref 127, .int (I (gi h 25 ny.toNat))] [] rfl rfl (Nat.le_of_ble_eq_true rfl) (Nat.le_of_ble_eq_true rfl) rfl (sp_127 (h := h5) hG5) (CLd_le (Nat.le_of_ble_eq_true rfl) (ctX0_moveCostsG hSP hG5 (v := (gi h 25 ny.toNat)) (by omega))) ?_
          rintro v743 h743 ⟨rfl, hG743, hF743, lg743⟩
          refine x_iinc 68 hK rfl rfl l3 _ rfl ?_
          refine x_goto 31 hK rfl rfl ?_
          exact ih _ (by omega) (ny + 1) _ _ rfl (t1) (by omega) (fun q hq => by
            by_cases c : q = ny.toNat
            · rw [c]; omega
            · exact lo2 q (by omega)) (fun q h1 h2 => hi2 q (by omega) h2) (by rw [tn_s y0.1, kO_s, wyS_s, if_pos (show gi h (23 + 1) ny.toNat = now + t by show gi h 24 ny.toNat = now + t; omega), opsF_s]; exact RLC_mv lw (by omega) (opsF_r _ _ xr) (by show -1 ≤ gi h 25 ny.toNat ∧ gi h 25 ny.toNat ≤ 1; omega) lg743) (lk1_n l0 (by decide) (Or.inl rfl)) (lk1_n l1 (by decide) (Or.inl rfl)) (lk1_n l2 (by decide) (Or.inl rfl)) lk1_s (lk1_n l4 (by decide) (Or.inl rfl)) (hG743) ((hF5).trans ((hF743).mono rfl))
    refine x_iload 27 hK rfl rfl l4 ?_
    refine x_iload_n 28 hK rfl rfl l2 ?_
    refine x_if_icmp_gt 176 31 hK rfl rfl rfl (by omega) (by omega) (fun c3 => ?_) (fun c3 => ?_)
    · refine x_sipush 179 hK rfl rfl rfl ?_
      refine x_istore 181 hK rfl rfl _ rfl ?_
      refine x_iconst 182 hK rfl rfl ?_
      refine x_istore 184 hK rfl rfl _ rfl ?_
      exact least _ 1000 0 _ _ rfl (by omega) (by rw [show t - 1 = n by omega] at lv; exact RLC_cast lv (by omega) rfl) (rfl) (lk1_n (lk1_n l0 (by decide) (Or.inl rfl)) (by decide) (Or.inl rfl)) (lk1_n (lk1_n l1 (by decide) (Or.inl rfl)) (by decide) (Or.inl rfl)) (lk1_n (lk1_n l2 (by decide) (Or.inl rfl)) (by decide) (Or.inl rfl)) (lk1_n lk1_s (by decide) (Or.inl rfl)) lk1_s (hG4) (hF4)
    · exact under _ nx _ _ rfl (by omega) (by omega) (fun q hq => by have := lo q hq; omega) (hi) (by rw [wyS_lo (fun i hi => lo i (by omega))]; exact lv) l0 l1 l2 l3 l4 (hG4) (hF4)
  refine x_aload_n 1 hK rfl rfl rfl ?_
  refine x_getR 4 hK rfl rfl (sp_127 (h := h) hG) (rf_127_4 (h := h) hG) ?_
  refine x_sipush 7 hK rfl rfl rfl ?_
  refine x_callS 10 hK hmono rfl (Or.inl rfl) rfl [.ref 132, .int (I 1000)] [] rfl rfl (Nat.le_of_ble_eq_true rfl) (Nat.le_of_ble_eq_true rfl) (CLd_le (Nat.le_of_ble_eq_true rfl) (ctJ7_fill_53178132 hSP hG)) ?_
  rintro v744 h744 ⟨rfl, hG744, hF744, fz744⟩
  refine x_aload_n 11 hK rfl rfl rfl ?_
  refine x_getR 14 hK rfl rfl (sp_127 (h := h744) hG744) (rf_127_4 (h := h744) hG744) ?_
  refine x_aload_n 15 hK rfl rfl rfl ?_
  have g745 := gri (0) (8) hG (a := 23) (r := 17) (k := 1) rfl rfl
  refine x_getE 18 hK rfl (Or.inl rfl) rfl (sp_23 (h := h744) hG744) (e := (gi h 23 1)) (FRM_gi hF744 (r := 17) rfl rfl) ?_
  refine x_iconst 19 hK rfl rfl ?_
  refine x_iastore 20 hK rfl rfl (sp_132 (h := h744) hG744) (by omega) (by omega) (by omega) ?_
  refine x_iconst 21 hK rfl rfl ?_
  refine x_istore_n 22 hK rfl rfl [(3, .int (I 0)), (0, .ref 127), (1, .ref 23), (2, .int (I n))] rfl ?_
  refine x_iconst 23 hK rfl rfl ?_
  refine x_istore 25 hK rfl rfl [(4, .int (I 1)), (3, .int (I 0)), (0, .ref 127), (1, .ref 23), (2, .int (I n))] rfl ?_
  have lv0 : RLC (30 * ((1 : Int) - 1)) (nzL cc (opsT L now last dl ((1 : Int) - 1).toNat)) (XG cc l hit L now last dl (gi h 23 1) ((1 : Int) - 1).toNat) (gi (wI h744 132 (gi h 23 1).toNat 0) 132) := by
    refine ⟨by omega, Int.le_refl 0, fun l9 hl => ?_⟩
    show 0 ≤ (if (l9 : Int) = gi h 23 1 then (0 : Int) else 1000) ∧ (((if (l9 : Int) = gi h 23 1 then (0 : Int) else 1000) + 0 ≤ 30 * ((1 : Int) - 1) ∧ gi (wI h744 132 (gi h 23 1).toNat 0) 132 l9 = (if (l9 : Int) = gi h 23 1 then (0 : Int) else 1000) + 0) ∨ ((if (l9 : Int) = gi h 23 1 then (0 : Int) else 1000) = 1000 ∧ 1000 ≤ gi (wI h744 132 (gi h 23 1).toNat 0) 132 l9 ∧ gi (wI h744 132 (gi h 23 1).toNat 0) 132 l9 ≤ 1000 + 30 * ((1 : Int) - 1)))
    by_cases c : l9 = (gi h 23 1).toNat
    · have y : gi (wI h744 132 (gi h 23 1).toNat 0) 132 l9 = 0 := by rw [c]; exact gi_same (by omega)
      rw [if_pos (by omega)]
      omega
    · have y : gi (wI h744 132 (gi h 23 1).toNat 0) 132 l9 = 1000 := (gi_k c _).trans (fz744 l9 hl)
      rw [if_neg (by omega)]
      omega
  exact loop _ 0 1 _ _ rfl (by omega) (by omega) (fun i hi => absurd hi (by omega)) (fun i h1 h2 => by have := hr i h2; omega) (lv0) rfl rfl rfl rfl rfl (GD_wn (hG744) (r := 46) rfl rfl) (FRM_wn 0 8 (hF744) (r := 46) rfl rfl rfl (by omega) (by omega))
set_option maxRecDepth 4000 in
theorem ctX10_lookAheadT {SP : CT} (hSP : MONO SP) {sh : List (Nat × Nat)} {h : aH} (hG : GD gE gRL sh h) {s u : Nat} (hP : PT h) (hX : XI h) (hD : DR h s u) (h0 : 0 ≤ (gi h 23 0) ∧ (gi h 23 0) ≤ 1000000) (hml : ∀ j : Nat, (j : Int) < gi h 19 0 → 0 ≤ gi h 20 j ∧ gi h 20 j ≤ 999) : CLd SP 7 mX10_lookAhead [.ref 0] h 0 0 (fun rv h' => rv = none ∧ GD gE gRL sh h' ∧ FRM gRL [(0, 8, 3, 3), (0, 10, 0, 39), (0, 41, 5, 5), (0, 42, 0, 29), (0, 43, 0, 30)] h h' ∧ gi h' 127 5 = (if (gi h 171 5).tmod 2 = 1 then 1 else 0) ∧ (∀ j : Nat, j < 30 → gi h' 128 j = dnF h (gi h 23 0) j) ∧ ∀ t : Nat, 1 ≤ t → t ≤ 30 → RB (gi h' 129 t) (fun g : Nat => hitN (gi h 20) (gi h 21) ((gi h 23 0) + (t : Int)) (g : Int) (gi h 19 0).toNat)) := by
  refine x_met _ rfl (Nat.le_of_ble_eq_true rfl) (fun K hK => ?_)
  have hmono := MONO_CLd hSP 6
  have hD2 := hD
  obtain ⟨h5, hu, pS, pL, ⟨c0, c1, c2⟩, r0, r1, r2⟩ := hD2
  have g19 := gri 0 16 hG (a := 19) (r := 13) (k := 0) rfl rfl
  have tm := tm2 (gi h 171 5)
  have rocks : ∀ (mz : Nat) (i : Int) (h4 : aH) (ls : List (Nat × Value)), ((gi h 19 0 - i).toNat = mz) → (0 ≤ i ∧ i ≤ gi h 19 0) → (gi h4 127 5 = (if (gi h 171 5).tmod 2 = 1 then 1 else 0)) → (∀ j : Nat, j < 30 → gi h4 128 j = dnF h (gi h 23 0) j) → (∀ t : Nat, 1 ≤ t → t ≤ 30 → RB (gi h4 129 t) (fun g : Nat => hitN (gi h 20) (gi h 21) ((gi h 23 0) + (t : Int)) (g : Int) i.toNat)) → lk ls 0 = some (.ref 0) → lk ls 1 = some (.int (I i)) → GD gE gRL sh h4 → FRM gRL [(0, 8, 3, 3), (0, 10, 0, 39), (0, 41, 5, 5), (0, 42, 0, 29), (0, 43, 0, 30)] h h4 → K 100 ls [] h4 0 0 := by
    intro mz
    induction mz using Nat.strongRecOn with
    | ind mz ih =>
    intro i h4 ls hm i0 tu dn rb l0 l1 hG4 hF4
    have gm := fun z : i < gi h 19 0 => hml i.toNat (by omega)
    have gl2 := fun z : i < gi h 19 0 => grn 0 8 hG (a := 21) (r := 15) (k := i.toNat) rfl rfl (by omega)
    refine x_iload_n 101 hK rfl rfl l1 ?_
    refine x_aload_n 102 hK rfl rfl l0 ?_
    refine x_getR 105 hK rfl rfl (sp_0 (h := h4) hG4) (rf_0_7 (h := h4) hG4) ?_
    have g746 := gri (0) (16) hG (a := 19) (r := 13) (k := 0) rfl rfl
    refine x_getE 108 hK rfl (Or.inl rfl) rfl (sp_19 (h := h4) hG4) (e := (gi h 19 0)) (FRM_gi hF4 (r := 13) rfl rfl) ?_
    refine x_if_icmp_ge 169 111 hK rfl rfl rfl (by omega) (by omega) (fun c5 => ?_) (fun c5 => ?_)
    · exact x_vret hK rfl ⟨rfl, hG4, hF4, tu, dn, fun t h1 h2 => by
        rw [show (gi h 19 0).toNat = i.toNat by omega]
        exact rb t h1 h2⟩
    · have gm2 := gm (by omega)
      have gl3 := gl2 (by omega)
      refine x_aload_n 112 hK rfl rfl l0 ?_
      refine x_getR 115 hK rfl rfl (sp_0 (h := h4) hG4) (rf_0_7 (h := h4) hG4) ?_
      refine x_getR 118 hK rfl rfl (sp_19 (h := h4) hG4) (rf_19_1 (h := h4) hG4) ?_
      refine x_iload_n 119 hK rfl rfl l1 ?_
      have g747 := gi_r h 20 i.toNat
      refine x_ialoadE 120 hK rfl rfl (sp_20 (h := h4) hG4) (by omega) (by omega) (by omega) (e' := (gi h 20 i.toNat)) (FRM_gi hF4 (r := 14) rfl rfl) ?_
      refine x_aload_n 121 hK rfl rfl l0 ?_
      refine x_getR 124 hK rfl rfl (sp_0 (h := h4) hG4) (rf_0_10 (h := h4) hG4) ?_
      have g748 := gi_r h 23 0
      refine x_getE 127 hK rfl (Or.inl rfl) rfl (sp_23 (h := h4) hG4) (e := (gi h 23 0)) (FRM_gi hF4 (r := 17) rfl rfl) ?_
      refine x_isub 128 hK rfl rfl ?_
      refine x_istore_n 129 hK rfl rfl _ rfl ?_
      refine x_iload_n 130 hK rfl rfl lk1_s ?_
      refine x_iconst 131 hK rfl rfl ?_
      refine x_if_icmp_lt 163 134 hK rfl rfl rfl (by omega) (by omega) (fun c20 => ?_) (fun c20 => ?_)
      · refine x_iinc 166 hK rfl rfl (lk1_n l1 (by decide) (Or.inl rfl)) _ rfl ?_
        refine x_goto 100 hK rfl rfl ?_
        have rb2 : ∀ t : Nat, 1 ≤ t → t ≤ 30 → RB (gi h4 129 t) (fun g : Nat => hitN (gi h 20) (gi h 21) ((gi h 23 0) + (t : Int)) (g : Int) (i + 1).toNat) := fun t h1 h2 => by
          refine RB_c (rb t h1 h2) fun g hg => ?_
          show 0 < hitN (gi h 20) (gi h 21) ((gi h 23 0) + (t : Int)) (g : Int) i.toNat ↔ 0 < hitN (gi h 20) (gi h 21) ((gi h 23 0) + (t : Int)) (g : Int) (i + 1).toNat
          rw [hitN_s i0.1, if_neg (fun z => by have := z.1; omega), Int.add_zero]
        exact ih _ (by omega) (i + 1) _ _ rfl (by omega) ((rfl).trans tu) (fun j hj => (rfl).trans (dn j hj)) (rb2) (lk1_n (lk1_n l0 (by decide) (Or.inl rfl)) (by decide) (Or.inl rfl)) lk1_s (hG4) (hF4)
      · refine x_iload_n 135 hK rfl rfl lk1_s ?_
        refine x_bipush 137 hK rfl rfl rfl ?_
        refine x_if_icmp_gt 163 140 hK rfl rfl rfl (by omega) (by omega) (fun c26 => ?_) (fun c26 => ?_)
        · refine x_iinc 166 hK rfl rfl (lk1_n l1 (by decide) (Or.inl rfl)) _ rfl ?_
          refine x_goto 100 hK rfl rfl ?_
          have rb2 : ∀ t : Nat, 1 ≤ t → t ≤ 30 → RB (gi h4 129 t) (fun g : Nat => hitN (gi h 20) (gi h 21) ((gi h 23 0) + (t : Int)) (g : Int) (i + 1).toNat) := fun t h1 h2 => by
            refine RB_c (rb t h1 h2) fun g hg => ?_
            show 0 < hitN (gi h 20) (gi h 21) ((gi h 23 0) + (t : Int)) (g : Int) i.toNat ↔ 0 < hitN (gi h 20) (gi h 21) ((gi h 23 0) + (t : Int)) (g : Int) (i + 1).toNat
            rw [hitN_s i0.1, if_neg (fun z => by have := z.1; omega), Int.add_zero]
          exact ih _ (by omega) (i + 1) _ _ rfl (by omega) ((rfl).trans tu) (fun j hj => (rfl).trans (dn j hj)) (rb2) (lk1_n (lk1_n l0 (by decide) (Or.inl rfl)) (by decide) (Or.inl rfl)) lk1_s (hG4) (hF4)
        · refine x_aload_n 141 hK rfl rfl (lk1_n l0 (by decide) (Or.inl rfl)) ?_
          refine x_getR 144 hK rfl rfl (sp_0 (h := h4) hG4) (rf_0_13 (h := h4) hG4) ?_
          refine x_getR 147 hK rfl rfl (sp_127 (h := h4) hG4) (rf_127_1 (h := h4) hG4) ?_
          refine x_iload_n 148 hK rfl rfl lk1_s ?_
          refine x_dup2 149 hK rfl rfl rfl rfl ?_
          have g749 := gi_r h4 129 ((gi h 20 i.toNat) - (gi h 23 0)).toNat
          refine x_ialoadE 150 hK rfl rfl (sp_129 (h := h4) hG4) (by omega) (by omega) (by omega) (e' := (gi h4 129 ((gi h 20 i.toNat) - (gi h 23 0)).toNat)) (rfl) ?_
          refine x_iconst 151 hK rfl rfl ?_
          refine x_aload_n 152 hK rfl rfl (lk1_n l0 (by decide) (Or.inl rfl)) ?_
          refine x_getR 155 hK rfl rfl (sp_0 (h := h4) hG4) (rf_0_7 (h := h4) hG4) ?_
          refine x_getR 158 hK rfl rfl (sp_19 (h := h4) hG4) (rf_19_2 (h := h4) hG4) ?_
          refine x_iload_n 159 hK rfl rfl (lk1_n l1 (by decide) (Or.inl rfl)) ?_
          have g750 := grn (0) (8) hG (a := 21) (r := 15) (k := i.toNat) rfl rfl (by omega)
          refine x_ialoadE 160 hK rfl rfl (sp_21 (h := h4) hG4) (by omega) (by omega) (by omega) (e' := (gi h 21 i.toNat)) (FRM_gi hF4 (r := 15) rfl rfl) ?_
          have g751 := bShl_r 1 (gi h 21 i.toNat)
          refine x_ishlF 161 hK rfl rfl ?_
          have g752 := bOr_r (gi h4 129 ((gi h 20 i.toNat) - (gi h 23 0)).toNat) (bShl 1 (gi h 21 i.toNat))
          refine x_iorF 162 hK rfl rfl ?_
          refine x_iastore 163 hK rfl rfl (sp_129 (h := h4) hG4) (by omega) (by omega) (by omega) ?_
          refine x_iinc 166 hK rfl rfl (lk1_n l1 (by decide) (Or.inl rfl)) _ rfl ?_
          refine x_goto 100 hK rfl rfl ?_
          have rb2 : ∀ t : Nat, 1 ≤ t → t ≤ 30 → RB (gi (wI h4 129 ((gi h 20 i.toNat) - (gi h 23 0)).toNat (bOr (gi h4 129 ((gi h 20 i.toNat) - (gi h 23 0)).toNat) (bShl 1 (gi h 21 i.toNat)))) 129 t) (fun g : Nat => hitN (gi h 20) (gi h 21) ((gi h 23 0) + (t : Int)) (g : Int) (i + 1).toNat) := fun t h1 h2 => by
            by_cases c : t = ((gi h 20 i.toNat) - (gi h 23 0)).toNat
            · rw [show gi (wI h4 129 ((gi h 20 i.toNat) - (gi h 23 0)).toNat (bOr (gi h4 129 ((gi h 20 i.toNat) - (gi h 23 0)).toNat) (bShl 1 (gi h 21 i.toNat)))) 129 t = (bOr (gi h4 129 ((gi h 20 i.toNat) - (gi h 23 0)).toNat) (bShl 1 (gi h 21 i.toNat))) from by rw [c]; exact gi_same (bOr_r _ _)]
              have z := rb t h1 h2
              rw [show gi h4 129 ((gi h 20 i.toNat) - (gi h 23 0)).toNat = gi h4 129 t from by rw [c]]
              refine RB_or z (by omega) fun g hg => ?_
              show 0 < hitN (gi h 20) (gi h 21) ((gi h 23 0) + (t : Int)) (g : Int) (i + 1).toNat ↔ 0 < hitN (gi h 20) (gi h 21) ((gi h 23 0) + (t : Int)) (g : Int) i.toNat ∨ _
              have hb := hitN_b (gi h 20) (gi h 21) ((gi h 23 0) + (t : Int)) (g : Int) i.toNat
              rw [hitN_s i0.1]
              by_cases d : (g : Int) = gi h 21 i.toNat
              · rw [if_pos ⟨by omega, d.symm⟩]
                omega
              · rw [if_neg (fun z => d z.2.symm)]
                omega
            · rw [show gi (wI h4 129 ((gi h 20 i.toNat) - (gi h 23 0)).toNat (bOr (gi h4 129 ((gi h 20 i.toNat) - (gi h 23 0)).toNat) (bShl 1 (gi h 21 i.toNat)))) 129 t = gi h4 129 t from gi_k c _]
              refine RB_c (rb t h1 h2) fun g hg => ?_
              show 0 < hitN (gi h 20) (gi h 21) ((gi h 23 0) + (t : Int)) (g : Int) i.toNat ↔ 0 < hitN (gi h 20) (gi h 21) ((gi h 23 0) + (t : Int)) (g : Int) (i + 1).toNat
              rw [hitN_s i0.1, if_neg (fun z => by have := z.1; omega), Int.add_zero]
          exact ih _ (by omega) (i + 1) _ _ rfl (by omega) ((gi_a (by decide) _).trans tu) (fun j hj => (gi_a (by decide) _).trans (dn j hj)) (rb2) (lk1_n (lk1_n l0 (by decide) (Or.inl rfl)) (by decide) (Or.inl rfl)) lk1_s (GD_wn (hG4) (r := 43) rfl rfl) (FRM_wn 0 30 (hF4) (r := 43) rfl rfl rfl (by omega) (by omega))
  have done : ∀ (mz : Nat) (i : Int) (h4 : aH) (ls : List (Nat × Value)), ((30 - i).toNat = mz) → (0 ≤ i ∧ i ≤ 30) → (gi h4 127 5 = (if (gi h 171 5).tmod 2 = 1 then 1 else 0)) → (∀ j : Nat, (j : Int) < i → gi h4 128 j = dnF h (gi h 23 0) j) → lk ls 0 = some (.ref 0) → lk ls 1 = some (.int (I i)) → GD gE gRL sh h4 → FRM gRL [(0, 8, 3, 3), (0, 10, 0, 39), (0, 41, 5, 5), (0, 42, 0, 29), (0, 43, 0, 30)] h h4 → K 27 ls [] h4 0 0 := by
    intro mz
    induction mz using Nat.strongRecOn with
    | ind mz ih =>
    intro i h4 ls hm i0 tu dn l0 l1 hG4 hF4
    have hD4 : DR h4 s u := DR_F hF4 rfl hD
    have dl4 : dlA h4 = dlA h := funext fun z => dlA_F hF4 rfl z
    have n4 : gi h4 23 0 = (gi h 23 0) := FRM_gi hF4 (r := 17) rfl rfl
    have db12 := dnF_b h (gi h 23 0) (i - 12).toNat
    refine x_iload_n 28 hK rfl rfl l1 ?_
    refine x_bipush 30 hK rfl rfl rfl ?_
    refine x_if_icmp_ge 87 33 hK rfl rfl rfl (by omega) (by omega) (fun c3 => ?_) (fun c3 => ?_)
    · refine x_aload_n 88 hK rfl rfl l0 ?_
      refine x_getR 91 hK rfl rfl (sp_0 (h := h4) hG4) (rf_0_13 (h := h4) hG4) ?_
      refine x_getR 94 hK rfl rfl (sp_127 (h := h4) hG4) (rf_127_1 (h := h4) hG4) ?_
      refine x_iconst 95 hK rfl rfl ?_
      refine x_callS 98 hK hmono rfl (Or.inl rfl) rfl [.ref 129, .int (I 0)] [] rfl rfl (Nat.le_of_ble_eq_true rfl) (Nat.le_of_ble_eq_true rfl) (CLd_le (Nat.le_of_ble_eq_true rfl) (ctJ7_fill_53178129 hSP hG4)) ?_
      rintro v753 h753 ⟨rfl, hG753, hF753, fz753⟩
      refine x_iconst 99 hK rfl rfl ?_
      refine x_istore_n 100 hK rfl rfl _ rfl ?_
      exact rocks _ 0 _ _ rfl (by omega) ((FRM_gi hF753 (r := 41) rfl rfl).trans tu) (fun j hj => (FRM_gi hF753 (r := 42) rfl rfl).trans (dn j (by omega))) (fun t h1 h2 => by
        rw [show gi h753 129 t = 0 from fz753 t (by omega)]
        exact RB_c RB_0 fun g hg => Iff.rfl) (lk1_n l0 (by decide) (Or.inl rfl)) lk1_s (hG753) ((hF4).trans ((hF753).mono rfl))
    · refine x_aload_n 34 hK rfl rfl l0 ?_
      refine x_getR 37 hK rfl rfl (sp_0 (h := h4) hG4) (rf_0_13 (h := h4) hG4) ?_
      refine x_getR 40 hK rfl rfl (sp_127 (h := h4) hG4) (rf_127_0 (h := h4) hG4) ?_
      refine x_iload_n 41 hK rfl rfl l1 ?_
      refine x_iload_n 42 hK rfl rfl l1 ?_
      refine x_bipush 44 hK rfl rfl rfl ?_
      refine x_if_icmp_ge 65 47 hK rfl rfl rfl (by omega) (by omega) (fun c18 => ?_) (fun c18 => ?_)
      · refine x_aload_n 66 hK rfl rfl l0 ?_
        refine x_getR 69 hK rfl rfl (sp_0 (h := h4) hG4) (rf_0_13 (h := h4) hG4) ?_
        refine x_getR 72 hK rfl rfl (sp_127 (h := h4) hG4) (rf_127_0 (h := h4) hG4) ?_
        refine x_iload_n 73 hK rfl rfl l1 ?_
        refine x_bipush 75 hK rfl rfl rfl ?_
        refine x_isub 76 hK rfl rfl ?_
        refine x_ialoadE 77 hK rfl rfl (sp_128 (h := h4) hG4) (by omega) (by omega) (by omega) (e' := (dnF h (gi h 23 0) (i - 12).toNat)) ((dn (i - 12).toNat (by omega))) ?_
        refine x_bipush 79 hK rfl rfl rfl ?_
        refine x_iadd 80 hK rfl rfl ?_
        refine x_iastore 81 hK rfl rfl (sp_128 (h := h4) hG4) (by omega) (by omega) (by omega) ?_
        refine x_iinc 84 hK rfl rfl l1 _ rfl ?_
        refine x_goto 27 hK rfl rfl ?_
        have dn2 : ∀ j : Nat, (j : Int) < i + 1 → gi (wI h4 128 i.toNat ((dnF h (gi h 23 0) (i - 12).toNat) + 12)) 128 j = dnF h (gi h 23 0) j := fun j hj => by
          by_cases q : j = i.toNat
          · rw [q]
            refine (gi_same (by omega)).trans ?_
            rw [show i.toNat = (i - 12).toNat + 12 by omega, dnF_12]
          · exact ((gi_k (by omega) _)).trans (dn j (by omega))
        exact ih _ (by omega) (i + 1) _ _ rfl (by omega) ((gi_a (by decide) _).trans tu) (dn2) (lk1_n l0 (by decide) (Or.inl rfl)) lk1_s (GD_wn (hG4) (r := 42) rfl rfl) (FRM_wn 0 29 (hF4) (r := 42) rfl rfl rfl (by omega) (by omega))
      · refine x_iload_n 48 hK rfl rfl l1 ?_
        refine x_aload_n 49 hK rfl rfl l0 ?_
        refine x_aload_n 50 hK rfl rfl l0 ?_
        refine x_getR 53 hK rfl rfl (sp_0 (h := h4) hG4) (rf_0_10 (h := h4) hG4) ?_
        have g754 := gi_r h 23 0
        refine x_getE 56 hK rfl (Or.inl rfl) rfl (sp_23 (h := h4) hG4) (e := (gi h 23 0)) (n4) ?_
        refine x_iload_n 57 hK rfl rfl l1 ?_
        refine x_iadd 58 hK rfl rfl ?_
        refine x_callV 61 hK hmono rfl rfl [.ref 0, .int (I ((gi h 23 0) + i))] [.int (I i), .int (I i), .ref 128] rfl rfl (Nat.le_of_ble_eq_true rfl) (Nat.le_of_ble_eq_true rfl) rfl (sp_0 (h := h4) hG4) (CLd_le (Nat.le_of_ble_eq_true rfl) (ctX10_delayA hSP hG4 (show PT h4 from PT_F hF4 (by decide) hP) (show XI h4 from (xOk_ok rfl _ h4 hF4 hX)) hD4 (t := ((gi h 23 0) + i)) (by omega))) ?_
        rw [dl4]
        rintro v755 h755 ⟨rfl, hG755, hF755⟩
        have db := dlA_b h ((gi h 23 0) + i)
        refine x_iadd 62 hK rfl rfl ?_
        refine x_goto 80 hK rfl rfl ?_
        refine x_iastore 81 hK rfl rfl (sp_128 (h := h755) hG755) (by omega) (by omega) (by omega) ?_
        refine x_iinc 84 hK rfl rfl l1 _ rfl ?_
        refine x_goto 27 hK rfl rfl ?_
        have dn2 : ∀ j : Nat, (j : Int) < i + 1 → gi (wI h755 128 i.toNat (i + (dlA h ((gi h 23 0) + i)))) 128 j = dnF h (gi h 23 0) j := fun j hj => by
          by_cases q : j = i.toNat
          · rw [q]
            refine (gi_same (by omega)).trans ?_
            unfold dnF
            rw [show ((i.toNat : Nat) : Int) = i by omega]
          · exact ((gi_k (by omega) _).trans (FRM_gi hF755 (r := 42) rfl rfl)).trans (dn j (by omega))
        exact ih _ (by omega) (i + 1) _ _ rfl (by omega) (((gi_a (by decide) _).trans (FRM_gi hF755 (r := 41) rfl rfl)).trans tu) (dn2) (lk1_n l0 (by decide) (Or.inl rfl)) lk1_s (GD_wn (hG755) (r := 42) rfl rfl) (FRM_wn 0 29 ((hF4).trans ((hF755).mono rfl)) (r := 42) rfl rfl rfl (by omega) (by omega))
  refine x_aload_n 1 hK rfl rfl rfl ?_
  refine x_getR 4 hK rfl rfl (sp_0 (h := h) hG) (rf_0_13 (h := h) hG) ?_
  refine x_aload_n 5 hK rfl rfl rfl ?_
  refine x_getR 8 hK rfl rfl (sp_0 (h := h) hG) (pS) ?_
  have g756 := gi_r h s 2
  refine x_getE 11 hK rfl (Or.inl rfl) rfl (shx (h := h) hG (r := 5) (ss_r h5).1 rfl) (e := (gi h s 2)) (rfl) ?_
  refine x_iconst 12 hK rfl rfl ?_
  refine x_irem 13 hK rfl rfl (gi_r _ _ _) (by omega) (by omega) (by omega) ?_
  rw [c2]
  generalize (gi h 171 5).tmod 2 = t at *
  refine x_iconst 14 hK rfl rfl ?_
  refine x_if_icmp_ne 21 17 hK rfl rfl rfl (by omega) (by omega) (fun c9 => ?_) (fun c9 => ?_)
  · refine x_iconst 22 hK rfl rfl ?_
    refine x_putZ 25 hK rfl rfl (sp_127 (h := h) hG) (by omega) ?_
    refine x_iconst 26 hK rfl rfl ?_
    refine x_istore_n 27 hK rfl rfl [(1, .int (I 0)), (0, .ref 0)] rfl ?_
    exact done _ 0 _ _ rfl (by omega) ((gi_same (by omega)).trans (by first | exact (if_pos (by omega)).symm | exact (if_neg (by omega)).symm)) (fun j hj => absurd hj (by omega)) rfl rfl (GD_w1 (hG) (r := 41) rfl (by omega) rfl (by omega) (by omega)) (FRM_w ((FRM.rf : FRM gRL [(0, 8, 3, 3), (0, 10, 0, 39), (0, 41, 5, 5), (0, 42, 0, 29), (0, 43, 0, 30)] h h)) (r := 41) rfl rfl)
  · refine x_iconst 18 hK rfl rfl ?_
    refine x_goto 22 hK rfl rfl ?_
    refine x_putZ 25 hK rfl rfl (sp_127 (h := h) hG) (by omega) ?_
    refine x_iconst 26 hK rfl rfl ?_
    refine x_istore_n 27 hK rfl rfl [(1, .int (I 0)), (0, .ref 0)] rfl ?_
    exact done _ 0 _ _ rfl (by omega) ((gi_same (by omega)).trans (by first | exact (if_pos (by omega)).symm | exact (if_neg (by omega)).symm)) (fun j hj => absurd hj (by omega)) rfl rfl (GD_w1 (hG) (r := 41) rfl (by omega) rfl (by omega) (by omega)) (FRM_w ((FRM.rf : FRM gRL [(0, 8, 3, 3), (0, 10, 0, 39), (0, 41, 5, 5), (0, 42, 0, 29), (0, 43, 0, 30)] h h)) (r := 41) rfl rfl)
set_option maxRecDepth 4000 in
theorem ctX0_leastChoiceG {SP : CT} (hSP : MONO SP) {sh : List (Nat × Nat)} {h : aH} (hG : GD gE gRL sh h) {k w : Int} {L : List (Int × Int × Int)} {now last l f n : Int} {dl : Int → Int} {hit : Int → Nat → Int} {cc : Int → Int} (en : gi h 23 0 = now) (eo : kO h 23 (gi h 23 4).toNat = srt L) (hd : ∀ s, 1 ≤ dl s ∧ dl s ≤ 12) (nr : 0 ≤ now ∧ now ≤ 1000000) (hr : ∀ i : Nat, (i : Int) < gi h 23 4 → now < gi h 24 i ∧ gi h 24 i ≤ now + 12 ∧ -1 ≤ gi h 25 i ∧ gi h 25 i ≤ 1) (dn : ∀ j : Nat, j < 30 → gi h 128 j = j + dl (now + j)) (ef : f = if last = now then 1 else 0) (hn : 0 ≤ n ∧ n ≤ 30) (rk : ∀ t : Nat, 1 ≤ t → t ≤ 30 → RB (gi h 129 t) (hit t)) (tu : gi h 127 5 = if l.tmod 2 = 1 then 1 else 0) (cv : ∀ j : Nat, (j : Int) < n → -1 ≤ cc j ∧ cc j ≤ 2) (cz : ∀ j : Nat, (j : Int) < n → j ≠ k.toNat → gi h 131 j = if f ≤ (j : Int) ∧ gi h 128 j ≤ n then cc j else 0) (hk : 0 ≤ k ∧ k < n ∧ f ≤ k ∧ gi h 128 k.toNat ≤ n) (rw_ : r32 w) : CLd SP 4 mX0_leastChoice [.ref 127, .ref 23, .int (I k), .int (I n), .int (I w)] h 0 0 (fun rv h' => rv = some (.int (I (if feN (nzL (upC cc k (-1)) (opsT L now last dl n.toNat)) (XG (upC cc k (-1)) l hit L now last dl (gi h 23 1) n.toNat) 9 = w then -1 else if feN (nzL (upC cc k 0) (opsT L now last dl n.toNat)) (XG (upC cc k 0) l hit L now last dl (gi h 23 1) n.toNat) 9 = w then 0 else 1))) ∧ GD gE gRL sh h' ∧ FRM gRL [(0, 45, 0, 29), (0, 46, 0, 8)] h h' ∧ ∀ j : Nat, j ≠ k.toNat → gi h' 131 j = gi h 131 j) := by
  refine x_met _ rfl (Nat.le_of_ble_eq_true rfl) (fun K hK => ?_)
  have hmono := MONO_CLd hSP 3
  obtain ⟨e1, he1⟩ : ∃ e : Int, feN (nzL (upC cc k (-1)) (opsT L now last dl n.toNat)) (XG (upC cc k (-1)) l hit L now last dl (gi h 23 1) n.toNat) 9 = e := ⟨_, rfl⟩
  obtain ⟨e2, he2⟩ : ∃ e : Int, feN (nzL (upC cc k 0) (opsT L now last dl n.toNat)) (XG (upC cc k 0) l hit L now last dl (gi h 23 1) n.toNat) 9 = e := ⟨_, rfl⟩
  rw [he1, he2] at hK
  refine x_iconst 1 hK rfl rfl ?_
  refine x_istore 3 hK rfl rfl [(5, .int (I (-1))), (0, .ref 127), (1, .ref 23), (2, .int (I k)), (3, .int (I n)), (4, .int (I w))] rfl ?_
  refine x_iload 5 hK rfl rfl rfl ?_
  refine x_if_gt 36 8 hK rfl rfl rfl (by omega) (fun c => by omega) (fun _ => ?_)
  refine x_aload_n 9 hK rfl rfl rfl ?_
  refine x_getR 12 hK rfl rfl (sp_127 (h := h) hG) (rf_127_3 (h := h) hG) ?_
  refine x_iload_n 13 hK rfl rfl rfl ?_
  refine x_iload 15 hK rfl rfl rfl ?_
  refine x_iastore 16 hK rfl rfl (sp_131 (h := h) hG) (by omega) (by omega) (by omega) ?_
  refine x_aload_n 17 hK rfl rfl rfl ?_
  refine x_aload_n 18 hK rfl rfl rfl ?_
  refine x_iload_n 19 hK rfl rfl rfl ?_
  have hGp758 : GD gE gRL sh (wI h 131 k.toNat (-1)) := GD_wn (hG) (r := 45) rfl rfl
  have eo757 : kO (wI h 131 k.toNat (-1)) 23 (gi (wI h 131 k.toNat (-1)) 23 4).toNat = srt L := by
    rw [show gi (wI h 131 k.toNat (-1)) 23 4 = gi h 23 4 from gi_a (by decide) _, kO_eq (h := h) (h' := (wI h 131 k.toNat (-1))) (c := 23) (c' := 23) (n := (gi h 23 4).toNat) (fun j hj => ⟨gi_a (by decide) _, gi_a (by decide) _⟩)]
    exact eo
  have hr757 : ∀ q : Nat, (q : Int) < gi (wI h 131 k.toNat (-1)) 23 4 → now < gi (wI h 131 k.toNat (-1)) 24 q ∧ gi (wI h 131 k.toNat (-1)) 24 q ≤ now + 12 ∧ -1 ≤ gi (wI h 131 k.toNat (-1)) 25 q ∧ gi (wI h 131 k.toNat (-1)) 25 q ≤ 1 := fun q hq => by
    rw [show gi (wI h 131 k.toNat (-1)) 23 4 = gi h 23 4 from gi_a (by decide) _] at hq
    rw [show gi (wI h 131 k.toNat (-1)) 24 q = gi h 24 q from gi_a (by decide) _, show gi (wI h 131 k.toNat (-1)) 25 q = gi h 25 q from gi_a (by decide) _]
    exact hr q hq
  have rk757 : ∀ t : Nat, 1 ≤ t → t ≤ 30 → RB (gi (wI h 131 k.toNat (-1)) 129 t) (hit t) := fun t h1 h2 => by
    rw [show gi (wI h 131 k.toNat (-1)) 129 t = gi h 129 t from gi_a (by decide) _]
    exact rk t h1 h2
  have cv757 : ∀ j : Nat, (j : Int) < n → -1 ≤ (upC cc k (-1)) j ∧ (upC cc k (-1)) j ≤ 2 := fun j hj => by
    show -1 ≤ (if (j : Int) = k then (-1) else cc j) ∧ (if (j : Int) = k then (-1) else cc j) ≤ 2
    have := cv j hj
    split <;> omega
  have cz757 : ∀ j : Nat, (j : Int) < n → gi (wI h 131 k.toNat (-1)) 131 j = if f ≤ (j : Int) ∧ gi (wI h 131 k.toNat (-1)) 128 j ≤ n then (upC cc k (-1)) j else 0 := fun j hj => by
    rw [show gi (wI h 131 k.toNat (-1)) 128 j = gi h 128 j from gi_a (by decide) _]
    by_cases c : j = k.toNat
    · rw [show gi (wI h 131 k.toNat (-1)) 131 j = (-1) from by rw [c]; exact gi_same (by omega), c, if_pos ⟨by omega, hk.2.2.2⟩]
      exact (if_pos (by omega)).symm
    · rw [show gi (wI h 131 k.toNat (-1)) 131 j = gi h 131 j from (gi_k c _).trans (rfl), cz j hj c, show upC cc k (-1) j = cc j from if_neg (by omega)]
  refine x_callV 22 hK hmono rfl rfl [.ref 127, .ref 23, .int (I n)] [] rfl rfl (Nat.le_of_ble_eq_true rfl) (Nat.le_of_ble_eq_true rfl) rfl (sp_127 (h := h) hG) (CLd_le (Nat.le_of_ble_eq_true rfl) (ctX0_fewestOrdersG hSP hGp758 (L := L) (now := now) (last := last) (l := l) (f := f) (n := n) (dl := dl) (hit := hit) (cc := (upC cc k (-1))) ((gi_a (by decide) _).trans en) eo757 hd nr hr757 (fun j hj => (gi_a (by decide) _).trans (dn j hj)) ef hn rk757 ((gi_a (by decide) _).trans tu) cv757 cz757)) ?_
  rw [show gi (wI h 131 k.toNat (-1)) 23 1 = gi h 23 1 from gi_a (by decide) _]
  rw [he1]
  rintro v757 h757 ⟨rfl, hG757, hF757, bd757⟩
  have ch757 : ∀ j : Nat, j ≠ k.toNat → gi h757 131 j = gi h 131 j := fun j c => (FRM_gi hF757 (r := 45) rfl rfl).trans ((gi_k c _).trans (rfl))
  refine x_iload 24 hK rfl rfl rfl ?_
  refine x_if_icmp_ne 30 27 hK rfl rfl rfl (by omega) (by omega) (fun c15 => ?_) (fun c15 => ?_)
  · refine x_iinc 33 hK rfl rfl rfl [(5, .int (I 0)), (0, .ref 127), (1, .ref 23), (2, .int (I k)), (3, .int (I n)), (4, .int (I w))] rfl ?_
    refine x_goto 3 hK rfl rfl ?_
    refine x_iload 5 hK rfl rfl rfl ?_
    refine x_if_gt 36 8 hK rfl rfl rfl (by omega) (fun c => by omega) (fun _ => ?_)
    refine x_aload_n 9 hK rfl rfl rfl ?_
    refine x_getR 12 hK rfl rfl (sp_127 (h := h757) hG757) (rf_127_3 (h := h757) hG757) ?_
    refine x_iload_n 13 hK rfl rfl rfl ?_
    refine x_iload 15 hK rfl rfl rfl ?_
    refine x_iastore 16 hK rfl rfl (sp_131 (h := h757) hG757) (by omega) (by omega) (by omega) ?_
    refine x_aload_n 17 hK rfl rfl rfl ?_
    refine x_aload_n 18 hK rfl rfl rfl ?_
    refine x_iload_n 19 hK rfl rfl rfl ?_
    have hGp760 : GD gE gRL sh (wI h757 131 k.toNat 0) := GD_wn (hG757) (r := 45) rfl rfl
    have eo759 : kO (wI h757 131 k.toNat 0) 23 (gi (wI h757 131 k.toNat 0) 23 4).toNat = srt L := by
      rw [show gi (wI h757 131 k.toNat 0) 23 4 = gi h 23 4 from (gi_a (by decide) _).trans ((FRM_gi hF757 (r := 17) rfl rfl).trans (gi_a (by decide) _)), kO_eq (h := h) (h' := (wI h757 131 k.toNat 0)) (c := 23) (c' := 23) (n := (gi h 23 4).toNat) (fun j hj => ⟨(gi_a (by decide) _).trans ((FRM_gi hF757 (r := 18) rfl rfl).trans (gi_a (by decide) _)), (gi_a (by decide) _).trans ((FRM_gi hF757 (r := 19) rfl rfl).trans (gi_a (by decide) _))⟩)]
      exact eo
    have hr759 : ∀ q : Nat, (q : Int) < gi (wI h757 131 k.toNat 0) 23 4 → now < gi (wI h757 131 k.toNat 0) 24 q ∧ gi (wI h757 131 k.toNat 0) 24 q ≤ now + 12 ∧ -1 ≤ gi (wI h757 131 k.toNat 0) 25 q ∧ gi (wI h757 131 k.toNat 0) 25 q ≤ 1 := fun q hq => by
      rw [show gi (wI h757 131 k.toNat 0) 23 4 = gi h 23 4 from (gi_a (by decide) _).trans ((FRM_gi hF757 (r := 17) rfl rfl).trans (gi_a (by decide) _))] at hq
      rw [show gi (wI h757 131 k.toNat 0) 24 q = gi h 24 q from (gi_a (by decide) _).trans ((FRM_gi hF757 (r := 18) rfl rfl).trans (gi_a (by decide) _)), show gi (wI h757 131 k.toNat 0) 25 q = gi h 25 q from (gi_a (by decide) _).trans ((FRM_gi hF757 (r := 19) rfl rfl).trans (gi_a (by decide) _))]
      exact hr q hq
    have rk759 : ∀ t : Nat, 1 ≤ t → t ≤ 30 → RB (gi (wI h757 131 k.toNat 0) 129 t) (hit t) := fun t h1 h2 => by
      rw [show gi (wI h757 131 k.toNat 0) 129 t = gi h 129 t from (gi_a (by decide) _).trans ((FRM_gi hF757 (r := 43) rfl rfl).trans (gi_a (by decide) _))]
      exact rk t h1 h2
    have cv759 : ∀ j : Nat, (j : Int) < n → -1 ≤ (upC cc k 0) j ∧ (upC cc k 0) j ≤ 2 := fun j hj => by
      show -1 ≤ (if (j : Int) = k then 0 else cc j) ∧ (if (j : Int) = k then 0 else cc j) ≤ 2
      have := cv j hj
      split <;> omega
    have cz759 : ∀ j : Nat, (j : Int) < n → gi (wI h757 131 k.toNat 0) 131 j = if f ≤ (j : Int) ∧ gi (wI h757 131 k.toNat 0) 128 j ≤ n then (upC cc k 0) j else 0 := fun j hj => by
      rw [show gi (wI h757 131 k.toNat 0) 128 j = gi h 128 j from (gi_a (by decide) _).trans ((FRM_gi hF757 (r := 42) rfl rfl).trans (gi_a (by decide) _))]
      by_cases c : j = k.toNat
      · rw [show gi (wI h757 131 k.toNat 0) 131 j = 0 from by rw [c]; exact gi_same (by omega), c, if_pos ⟨by omega, hk.2.2.2⟩]
        exact (if_pos (by omega)).symm
      · rw [show gi (wI h757 131 k.toNat 0) 131 j = gi h 131 j from (gi_k c _).trans (ch757 j c), cz j hj c, show upC cc k 0 j = cc j from if_neg (by omega)]
    refine x_callV 22 hK hmono rfl rfl [.ref 127, .ref 23, .int (I n)] [] rfl rfl (Nat.le_of_ble_eq_true rfl) (Nat.le_of_ble_eq_true rfl) rfl (sp_127 (h := h757) hG757) (CLd_le (Nat.le_of_ble_eq_true rfl) (ctX0_fewestOrdersG hSP hGp760 (L := L) (now := now) (last := last) (l := l) (f := f) (n := n) (dl := dl) (hit := hit) (cc := (upC cc k 0)) (((gi_a (by decide) _).trans ((FRM_gi hF757 (r := 17) rfl rfl).trans (gi_a (by decide) _))).trans en) eo759 hd nr hr759 (fun j hj => ((gi_a (by decide) _).trans ((FRM_gi hF757 (r := 42) rfl rfl).trans (gi_a (by decide) _))).trans (dn j hj)) ef hn rk759 (((gi_a (by decide) _).trans ((FRM_gi hF757 (r := 41) rfl rfl).trans (gi_a (by decide) _))).trans tu) cv759 cz759)) ?_
    rw [show gi (wI h757 131 k.toNat 0) 23 1 = gi h 23 1 from (gi_a (by decide) _).trans ((FRM_gi hF757 (r := 17) rfl rfl).trans (gi_a (by decide) _))]
    rw [he2]
    rintro v759 h759 ⟨rfl, hG759, hF759, bd759⟩
    have ch759 : ∀ j : Nat, j ≠ k.toNat → gi h759 131 j = gi h 131 j := fun j c => (FRM_gi hF759 (r := 45) rfl rfl).trans ((gi_k c _).trans (ch757 j c))
    refine x_iload 24 hK rfl rfl rfl ?_
    refine x_if_icmp_ne 30 27 hK rfl rfl rfl (by omega) (by omega) (fun c30 => ?_) (fun c30 => ?_)
    · refine x_iinc 33 hK rfl rfl rfl [(5, .int (I 1)), (0, .ref 127), (1, .ref 23), (2, .int (I k)), (3, .int (I n)), (4, .int (I w))] rfl ?_
      refine x_goto 3 hK rfl rfl ?_
      refine x_iload 5 hK rfl rfl rfl ?_
      refine x_if_gt 36 8 hK rfl rfl rfl (by omega) (fun _ => ?_) (fun c => by omega)
      refine x_iconst 37 hK rfl rfl ?_
      exact x_iret hK rfl ⟨congrArg (fun z => some (Value.int (I z))) (show 1 = _ from ((if_neg (by omega)).trans (if_neg (by omega)) : (if e1 = w then (-1 : Int) else if e2 = w then 0 else 1) = 1).symm), hG759, (FRM_wn 0 29 ((FRM_wn 0 29 ((FRM.rf : FRM gRL [(0, 45, 0, 29), (0, 46, 0, 8)] h h)) (r := 45) rfl rfl rfl (by omega) (by omega)).trans ((hF757).mono rfl)) (r := 45) rfl rfl rfl (by omega) (by omega)).trans ((hF759).mono rfl), ch759⟩
    · refine x_iload 29 hK rfl rfl rfl ?_
      exact x_iret hK rfl ⟨congrArg (fun z => some (Value.int (I z))) (show 0 = _ from ((if_neg (by omega)).trans (if_pos (by omega)) : (if e1 = w then (-1 : Int) else if e2 = w then 0 else 1) = 0).symm), hG759, (FRM_wn 0 29 ((FRM_wn 0 29 ((FRM.rf : FRM gRL [(0, 45, 0, 29), (0, 46, 0, 8)] h h)) (r := 45) rfl rfl rfl (by omega) (by omega)).trans ((hF757).mono rfl)) (r := 45) rfl rfl rfl (by omega) (by omega)).trans ((hF759).mono rfl), ch759⟩
  · refine x_iload 29 hK rfl rfl rfl ?_
    exact x_iret hK rfl ⟨congrArg (fun z => some (Value.int (I z))) (show (-1) = _ from (if_pos (by omega) : (if e1 = w then (-1 : Int) else if e2 = w then 0 else 1) = -1).symm), hG757, (FRM_wn 0 29 ((FRM.rf : FRM gRL [(0, 45, 0, 29), (0, 46, 0, 8)] h h)) (r := 45) rfl rfl rfl (by omega) (by omega)).trans ((hF757).mono rfl), ch757⟩
set_option maxRecDepth 4000 in
theorem ctX0_chooseLeastRowG {SP : CT} (hSP : MONO SP) {sh : List (Nat × Nat)} {h : aH} (hG : GD gE gRL sh h) {w : Int} {L : List (Int × Int × Int)} {now last l f n : Int} {dl : Int → Int} {hit : Int → Nat → Int} (en : gi h 23 0 = now) (eo : kO h 23 (gi h 23 4).toNat = srt L) (hd : ∀ s, 1 ≤ dl s ∧ dl s ≤ 12) (nr : 0 ≤ now ∧ now ≤ 1000000) (hr : ∀ i : Nat, (i : Int) < gi h 23 4 → now < gi h 24 i ∧ gi h 24 i ≤ now + 12 ∧ -1 ≤ gi h 25 i ∧ gi h 25 i ≤ 1) (dn : ∀ j : Nat, j < 30 → gi h 128 j = j + dl (now + j)) (ef : f = if last = now then 1 else 0) (hn : 0 ≤ n ∧ n ≤ 30) (rk : ∀ t : Nat, 1 ≤ t → t ≤ 30 → RB (gi h 129 t) (hit t)) (tu : gi h 127 5 = if l.tmod 2 = 1 then 1 else 0) (cz : ∀ j : Nat, (j : Int) < n → gi h 131 j = if f ≤ (j : Int) ∧ gi h 128 j ≤ n then 2 else 0) (hw : (ppF l hit (opsT L now last dl n.toNat) (gi h 23 1)) [] = w) (w1 : w < 1000) : CLd SP 5 mX0_chooseLeastRow [.ref 127, .ref 23, .int (I n), .int (I w)] h 0 0 (fun rv h' => rv = none ∧ GD gE gRL sh h' ∧ FRM gRL [(0, 45, 0, 29), (0, 46, 0, 8)] h h' ∧ ∀ j : Nat, (j : Int) < n → gi h' 131 j = (prF (ppF l hit (opsT L now last dl n.toNat) (gi h 23 1)) now last dl n n.toNat w []).getD j 0) := by
  refine x_met _ rfl (Nat.le_of_ble_eq_true rfl) (fun K hK => ?_)
  have hmono := MONO_CLd hSP 4
  have fb : (f = 0 ∧ last ≠ now) ∨ (f = 1 ∧ last = now) := by
    rw [ef]
    split
    · exact Or.inr ⟨rfl, by assumption⟩
    · exact Or.inl ⟨rfl, by assumption⟩
  have w0 : 0 ≤ w := by rw [← hw]; exact (pp_r []).1
  have loop : ∀ (mz : Nat) (sp i : Int) (h10 : aH) (ls : List (Nat × Value)), ((n - i).toNat = mz) → (0 ≤ i ∧ i ≤ n) → (∃ vs : List Int, CHV (ppF l hit (opsT L now last dl n.toNat) (gi h 23 1)) (fun vs => nzL (chL vs) (opsT L now last dl n.toNat)) now last dl n w f (gi h 128) (gi h10 131) i sp vs) → lk ls 0 = some (.ref 127) → lk ls 1 = some (.ref 23) → lk ls 2 = some (.int (I n)) → lk ls 3 = some (.int (I w)) → lk ls 4 = some (.int (I sp)) → lk ls 5 = some (.int (I i)) → GD gE gRL sh h10 → FRM gRL [(0, 45, 0, 29), (0, 46, 0, 8)] h h10 → K 6 ls [] h10 0 0 := by
    intro mz
    induction mz using Nat.strongRecOn with
    | ind mz ih =>
    intro sp i h10 ls hm i0 vx l0 l1 l2 l3 l4 l5 hG10 hF10
    obtain ⟨vs, cx⟩ := vx
    have cc9 := CHV_cc cx
    have cx9 := cx
    obtain ⟨vl, vc, vz, vn, vp, vr⟩ := cx9
    have vn : nzL (chL vs) (opsT L now last dl n.toNat) = sp := vn
    have z1 := nzL_b (chL vs) (opsT L now last dl n.toNat)
    have z2 := pp_r (l := l) (l0 := gi h 23 1) (n := n) (now := now) (last := last) (hit := hit) (L := L) (dl := dl) vs
    have my : i < n → ((f ≤ i ∧ gi h 128 i.toNat ≤ n) ↔ ((0 < i ∨ last ≠ now) ∧ i + dl (now + i) ≤ n)) := fun z => by
      have y := dn i.toNat (by omega)
      rw [show ((i.toNat : Nat) : Int) = i by omega] at y
      rw [y]
      omega
    have gc : i < n → gi h10 131 i.toNat = if f ≤ i ∧ gi h 128 i.toNat ≤ n then 2 else 0 := fun z => by
      have y := vc i.toNat (by omega)
      rw [if_neg (by omega), show ((i.toNat : Nat) : Int) = i by omega] at y
      exact y
    have vlm : i < n → ((0 < ((vs.length : Nat) : Int) ∨ last ≠ now) ∧ ((vs.length : Nat) : Int) + dl (now + ((vs.length : Nat) : Int)) ≤ n ↔ (0 < i ∨ last ≠ now) ∧ i + dl (now + i) ≤ n) := fun _ => by rw [vl]
    refine x_iload 8 hK rfl rfl l5 ?_
    refine x_iload_n 9 hK rfl rfl l2 ?_
    refine x_if_icmp_ge 75 12 hK rfl rfl rfl (by omega) (by omega) (fun c3 => ?_) (fun c3 => ?_)
    · have ve : vs = (prF (ppF l hit (opsT L now last dl n.toNat) (gi h 23 1)) now last dl n n.toNat w []) := by
        have z := vr
        rw [show (n - i).toNat = 0 by omega] at z
        exact z
      exact x_vret hK rfl ⟨rfl, hG10, hF10, fun j hj => by rw [← ve, vc j hj, if_pos (by omega)]⟩
    · refine x_aload_n 13 hK rfl rfl l0 ?_
      refine x_getR 16 hK rfl rfl (sp_127 (h := h10) hG10) (rf_127_3 (h := h10) hG10) ?_
      refine x_iload 18 hK rfl rfl l5 ?_
      have g761 := gi_r h10 131 i.toNat
      refine x_ialoadE 19 hK rfl rfl (sp_131 (h := h10) hG10) (by omega) (by omega) (by omega) (e' := (gi h10 131 i.toNat)) (rfl) ?_
      have gv := gc (by omega)
      have my1 := my (by omega)
      by_cases m : f ≤ i ∧ gi h 128 i.toNat ≤ n
      · rw [if_pos m] at gv
        rw [gv]
        refine x_iconst 20 hK rfl rfl ?_
        refine x_if_icmp_ne 69 23 hK rfl rfl rfl (by omega) (by omega) (fun c => by omega) (fun _ => ?_)
        refine x_aload_n 24 hK rfl rfl l0 ?_
        refine x_getR 27 hK rfl rfl (sp_127 (h := h10) hG10) (rf_127_3 (h := h10) hG10) ?_
        refine x_iload 29 hK rfl rfl l5 ?_
        refine x_iload 31 hK rfl rfl l4 ?_
        refine x_iload_n 32 hK rfl rfl l3 ?_
        refine x_if_icmp_ne 39 35 hK rfl rfl rfl (by omega) (by omega) (fun c17 => ?_) (fun c17 => ?_)
        · refine x_aload_n 40 hK rfl rfl l0 ?_
          refine x_aload_n 41 hK rfl rfl l1 ?_
          refine x_iload 43 hK rfl rfl l5 ?_
          refine x_iload_n 44 hK rfl rfl l2 ?_
          refine x_iload_n 45 hK rfl rfl l3 ?_
          have eo762 : kO h10 23 (gi h10 23 4).toNat = srt L := by
            rw [show gi h10 23 4 = gi h 23 4 from FRM_gi hF10 (r := 17) rfl rfl, kO_eq (h := h) (h' := h10) (c := 23) (c' := 23) (n := (gi h 23 4).toNat) (fun j hj => ⟨FRM_gi hF10 (r := 18) rfl rfl, FRM_gi hF10 (r := 19) rfl rfl⟩)]
            exact eo
          have hr762 : ∀ q : Nat, (q : Int) < gi h10 23 4 → now < gi h10 24 q ∧ gi h10 24 q ≤ now + 12 ∧ -1 ≤ gi h10 25 q ∧ gi h10 25 q ≤ 1 := fun q hq => by
            rw [show gi h10 23 4 = gi h 23 4 from FRM_gi hF10 (r := 17) rfl rfl] at hq
            rw [show gi h10 24 q = gi h 24 q from FRM_gi hF10 (r := 18) rfl rfl, show gi h10 25 q = gi h 25 q from FRM_gi hF10 (r := 19) rfl rfl]
            exact hr q hq
          have rk762 : ∀ t : Nat, 1 ≤ t → t ≤ 30 → RB (gi h10 129 t) (hit t) := fun t h1 h2 => by
            rw [show gi h10 129 t = gi h 129 t from FRM_gi hF10 (r := 43) rfl rfl]
            exact rk t h1 h2
          obtain ⟨r, hr0⟩ : ∃ r : Int, (if feN (nzL (upC (chL vs) i (-1)) (opsT L now last dl n.toNat)) (XG (upC (chL vs) i (-1)) l hit L now last dl (gi h 23 1) n.toNat) 9 = w then (-1 : Int) else if feN (nzL (upC (chL vs) i 0) (opsT L now last dl n.toNat)) (XG (upC (chL vs) i 0) l hit L now last dl (gi h 23 1) n.toNat) 9 = w then 0 else 1) = r := ⟨_, rfl⟩
          have rb : -1 ≤ r ∧ r ≤ 1 := by
            rw [← hr0]
            (repeat' split) <;> omega
          have rp : r = (pvF (ppF l hit (opsT L now last dl n.toNat) (gi h 23 1)) now last dl n (w - sp) vs) := hr0.symm.trans (pv_c (l0 := gi h 23 1) hd hn.1 ((vlm (by omega)).mpr (my1.mp m)) w1 vn (by omega) (F := fun v => feN (nzL (upC (chL vs) i v) (opsT L now last dl n.toNat)) (XG (upC (chL vs) i v) l hit L now last dl (gi h 23 1) n.toNat) 9) (fun v => by rw [vl]))
          refine x_callV 48 hK hmono rfl rfl [.ref 127, .ref 23, .int (I i), .int (I n), .int (I w)] [.int (I i), .ref 131] rfl rfl (Nat.le_of_ble_eq_true rfl) (Nat.le_of_ble_eq_true rfl) rfl (sp_127 (h := h10) hG10) (CLd_le (Nat.le_of_ble_eq_true rfl) (ctX0_leastChoiceG hSP hG10 (L := L) (now := now) (last := last) (l := l) (f := f) (n := n) (dl := dl) (hit := hit) (cc := chL vs) (k := i) (w := w) ((FRM_gi hF10 (r := 17) rfl rfl).trans en) eo762 hd nr hr762 (fun j hj => (FRM_gi hF10 (r := 42) rfl rfl).trans (dn j hj)) ef hn rk762 ((FRM_gi hF10 (r := 41) rfl rfl).trans tu) cc9.1 (fun j hj hq => by rw [show gi h10 128 j = gi h 128 j from FRM_gi hF10 (r := 42) rfl rfl]; exact cc9.2 j hj hq) ⟨by omega, by omega, m.1, by rw [show gi h10 128 i.toNat = gi h 128 i.toNat from FRM_gi hF10 (r := 42) rfl rfl]; exact m.2⟩ (by omega))) ?_
          rw [show gi h10 23 1 = gi h 23 1 from FRM_gi hF10 (r := 17) rfl rfl, hr0]
          rintro v762 h762 ⟨rfl, hG762, hF762, ch762⟩
          refine x_iastore 49 hK rfl rfl (sp_131 (h := h762) hG762) (by omega) (by omega) (by omega) ?_
          refine x_iload 51 hK rfl rfl l4 ?_
          refine x_aload_n 52 hK rfl rfl l0 ?_
          refine x_getR 55 hK rfl rfl (sp_127 (h := h762) hG762) (rf_127_3 (h := h762) hG762) ?_
          refine x_iload 57 hK rfl rfl l5 ?_
          refine x_ialoadE 58 hK rfl rfl (sp_131 (h := h762) hG762) (by omega) (by omega) (by omega) (e' := r) (gi_same (by omega)) ?_
          refine x_if_ne 65 61 hK rfl rfl rfl (by omega) (fun c30 => ?_) (fun c30 => ?_)
          · refine x_iconst 66 hK rfl rfl ?_
            refine x_iadd 67 hK rfl rfl ?_
            refine x_istore 69 hK rfl rfl _ rfl ?_
            refine x_iinc 72 hK rfl rfl (lk1_n l5 (by decide) (Or.inl rfl)) _ rfl ?_
            refine x_goto 6 hK rfl rfl ?_
            have hg : ∀ j : Nat, (j : Int) < n → gi (wI h762 131 i.toNat r) 131 j = if j = i.toNat then r else gi h10 131 j := fun j hj => by
              by_cases q : j = i.toNat
              · rw [if_pos q, q]; exact gi_same (by omega)
              · rw [if_neg q]; exact (gi_k q _).trans (ch762 j q)
            exact ih _ (by omega) (sp + 1) (i + 1) _ _ rfl (by omega) (⟨_, CHV_s (x := r) hd hn.1 cx (by omega) w1 my1 (rp) hg (by split <;> omega)⟩) (lk1_n (lk1_n l0 (by decide) (Or.inl rfl)) (by decide) (Or.inl rfl)) (lk1_n (lk1_n l1 (by decide) (Or.inl rfl)) (by decide) (Or.inl rfl)) (lk1_n (lk1_n l2 (by decide) (Or.inl rfl)) (by decide) (Or.inl rfl)) (lk1_n (lk1_n l3 (by decide) (Or.inl rfl)) (by decide) (Or.inl rfl)) (lk1_n lk1_s (by decide) (Or.inl rfl)) lk1_s (GD_wn (hG762) (r := 45) rfl rfl) (FRM_wn 0 29 ((hF10).trans ((hF762).mono rfl)) (r := 45) rfl rfl rfl (by omega) (by omega))
          · refine x_iconst 62 hK rfl rfl ?_
            refine x_goto 66 hK rfl rfl ?_
            refine x_iadd 67 hK rfl rfl ?_
            refine x_istore 69 hK rfl rfl _ rfl ?_
            refine x_iinc 72 hK rfl rfl (lk1_n l5 (by decide) (Or.inl rfl)) _ rfl ?_
            refine x_goto 6 hK rfl rfl ?_
            have hg : ∀ j : Nat, (j : Int) < n → gi (wI h762 131 i.toNat r) 131 j = if j = i.toNat then r else gi h10 131 j := fun j hj => by
              by_cases q : j = i.toNat
              · rw [if_pos q, q]; exact gi_same (by omega)
              · rw [if_neg q]; exact (gi_k q _).trans (ch762 j q)
            exact ih _ (by omega) (sp + 0) (i + 1) _ _ rfl (by omega) (⟨_, CHV_s (x := r) hd hn.1 cx (by omega) w1 my1 (rp) hg (by split <;> omega)⟩) (lk1_n (lk1_n l0 (by decide) (Or.inl rfl)) (by decide) (Or.inl rfl)) (lk1_n (lk1_n l1 (by decide) (Or.inl rfl)) (by decide) (Or.inl rfl)) (lk1_n (lk1_n l2 (by decide) (Or.inl rfl)) (by decide) (Or.inl rfl)) (lk1_n (lk1_n l3 (by decide) (Or.inl rfl)) (by decide) (Or.inl rfl)) (lk1_n lk1_s (by decide) (Or.inl rfl)) lk1_s (GD_wn (hG762) (r := 45) rfl rfl) (FRM_wn 0 29 ((hF10).trans ((hF762).mono rfl)) (r := 45) rfl rfl rfl (by omega) (by omega))
        · refine x_iconst 36 hK rfl rfl ?_
          refine x_goto 48 hK rfl rfl ?_
          refine x_iastore 49 hK rfl rfl (sp_131 (h := h10) hG10) (by omega) (by omega) (by omega) ?_
          refine x_iload 51 hK rfl rfl l4 ?_
          refine x_aload_n 52 hK rfl rfl l0 ?_
          refine x_getR 55 hK rfl rfl (sp_127 (h := h10) hG10) (rf_127_3 (h := h10) hG10) ?_
          refine x_iload 57 hK rfl rfl l5 ?_
          refine x_ialoadE 58 hK rfl rfl (sp_131 (h := h10) hG10) (by omega) (by omega) (by omega) (e' := 0) (gi_same (by omega)) ?_
          refine x_if_ne 65 61 hK rfl rfl rfl (by omega) (fun c => by omega) (fun _ => ?_)
          refine x_iconst 62 hK rfl rfl ?_
          refine x_goto 66 hK rfl rfl ?_
          refine x_iadd 67 hK rfl rfl ?_
          refine x_istore 69 hK rfl rfl _ rfl ?_
          refine x_iinc 72 hK rfl rfl (lk1_n l5 (by decide) (Or.inl rfl)) _ rfl ?_
          refine x_goto 6 hK rfl rfl ?_
          have hg : ∀ j : Nat, (j : Int) < n → gi (wI h10 131 i.toNat 0) 131 j = if j = i.toNat then 0 else gi h10 131 j := fun j hj => by
            by_cases q : j = i.toNat
            · rw [if_pos q, q]; exact gi_same (by omega)
            · rw [if_neg q]; exact gi_k q _
          exact ih _ (by omega) (sp + 0) (i + 1) _ _ rfl (by omega) (⟨_, CHV_s (x := 0) hd hn.1 cx (by omega) w1 my1 ((by rw [show w - sp = 0 by omega]; exact (pv_0 hd hn.1 (by omega)).symm)) hg (by split <;> omega)⟩) (lk1_n (lk1_n l0 (by decide) (Or.inl rfl)) (by decide) (Or.inl rfl)) (lk1_n (lk1_n l1 (by decide) (Or.inl rfl)) (by decide) (Or.inl rfl)) (lk1_n (lk1_n l2 (by decide) (Or.inl rfl)) (by decide) (Or.inl rfl)) (lk1_n (lk1_n l3 (by decide) (Or.inl rfl)) (by decide) (Or.inl rfl)) (lk1_n lk1_s (by decide) (Or.inl rfl)) lk1_s (GD_wn (hG10) (r := 45) rfl rfl) (FRM_wn 0 29 (hF10) (r := 45) rfl rfl rfl (by omega) (by omega))
      · rw [if_neg m] at gv
        rw [gv]
        refine x_iconst 20 hK rfl rfl ?_
        refine x_if_icmp_ne 69 23 hK rfl rfl rfl (by omega) (by omega) (fun _ => ?_) (fun c => by omega)
        refine x_iinc 72 hK rfl rfl l5 _ rfl ?_
        refine x_goto 6 hK rfl rfl ?_
        have hg : ∀ j : Nat, (j : Int) < n → gi h10 131 j = if j = i.toNat then 0 else gi h10 131 j := fun j hj => by
          by_cases q : j = i.toNat
          · rw [if_pos q, q]; exact gv
          · rw [if_neg q]
        exact ih _ (by omega) sp (i + 1) _ _ rfl (by omega) (⟨_, CHV_s (x := 0) hd hn.1 cx (by omega) w1 my1 (((pv_ok hd hn.1 vp (by omega)).2.2.2 (fun z => m (my1.mpr ((vlm (by omega)).mp z)))).symm) hg (by split <;> omega)⟩) (lk1_n l0 (by decide) (Or.inl rfl)) (lk1_n l1 (by decide) (Or.inl rfl)) (lk1_n l2 (by decide) (Or.inl rfl)) (lk1_n l3 (by decide) (Or.inl rfl)) (lk1_n l4 (by decide) (Or.inl rfl)) lk1_s (hG10) (hF10)
  refine x_iconst 1 hK rfl rfl ?_
  refine x_istore 3 hK rfl rfl [(4, .int (I 0)), (0, .ref 127), (1, .ref 23), (2, .int (I n)), (3, .int (I w))] rfl ?_
  refine x_iconst 4 hK rfl rfl ?_
  refine x_istore 6 hK rfl rfl [(5, .int (I 0)), (4, .int (I 0)), (0, .ref 127), (1, .ref 23), (2, .int (I n)), (3, .int (I w))] rfl ?_
  exact loop _ 0 0 _ _ rfl (by omega) (⟨[], rfl, fun j hj => by rw [if_neg (by omega)]; exact cz j hj, fun j hj => absurd hj (by omega), nzL_nil _, by rw [hw]; omega, by rw [Int.sub_zero, Int.sub_zero]⟩) rfl rfl rfl rfl rfl rfl (hG) ((FRM.rf : FRM gRL [(0, 45, 0, 29), (0, 46, 0, 8)] h h))
end
section
/-! THE ROW OF A PLAN -/
set_option maxRecDepth 4000 in
theorem ctX10_planR {SP : CT} (hSP : MONO SP) {sh : List (Nat × Nat)} {h : aH} (hG : GD gE gRL sh h) {s u : Nat} (hP : PT h) (hX : XI h) (hD : DR h s u) {L : List (Int × Int × Int)} {l : Int} (eo : kO h 23 (gi h 23 4).toNat = srt L) (hr : ∀ i : Nat, (i : Int) < gi h 23 4 → gi h 23 0 < gi h 24 i ∧ gi h 24 i ≤ gi h 23 0 + 12 ∧ -1 ≤ gi h 25 i ∧ gi h 25 i ≤ 1) (h0 : 0 ≤ gi h 23 0 ∧ gi h 23 0 ≤ 1000000) (hml : ∀ j : Nat, (j : Int) < gi h 19 0 → 0 ≤ gi h 20 j ∧ gi h 20 j ≤ 999) {n : Int} (rn : r32 n) (hl : l = gi h 171 5) : CLd SP 9 mX10_plan [.ref 0, .int (I n)] h 0 0 (fun rv h' => ((¬ (1 ≤ n ∧ n ≤ 30) ∧ rv = some (.int (I (-1))) ∧ crow h' = crow h) ∨ ((1 ≤ n ∧ n ≤ 30) ∧ 1000 ≤ fwN (XS 0 l (fun (t : Int) (g : Nat) => hitN (gi h 20) (gi h 21) ((gi h 23 0) + t) (g : Int) (gi h 19 0).toNat) L (gi h 23 0) (gi h 23 3) (dlA h) (gi h 23 1) n.toNat) 9 ∧ rv = some (.int (I (-2))) ∧ crow h' = crow h) ∨ ((1 ≤ n ∧ n ≤ 30) ∧ fwN (XS 0 l (fun (t : Int) (g : Nat) => hitN (gi h 20) (gi h 21) ((gi h 23 0) + t) (g : Int) (gi h 19 0).toNat) L (gi h 23 0) (gi h 23 3) (dlA h) (gi h 23 1) n.toNat) 9 < 1000 ∧ rv = some (.int (I (fwN (XS 0 l (fun (t : Int) (g : Nat) => hitN (gi h 20) (gi h 21) ((gi h 23 0) + t) (g : Int) (gi h 19 0).toNat) L (gi h 23 0) (gi h 23 3) (dlA h) (gi h 23 1) n.toNat) 9))) ∧ crow h' = (prF (ppF l (fun (t : Int) (g : Nat) => hitN (gi h 20) (gi h 21) ((gi h 23 0) + t) (g : Int) (gi h 19 0).toNat) (opsT L (gi h 23 0) (gi h 23 3) (dlA h) n.toNat) (gi h 23 1)) (gi h 23 0) (gi h 23 3) (dlA h) n n.toNat (fwN (XS 0 l (fun (t : Int) (g : Nat) => hitN (gi h 20) (gi h 21) ((gi h 23 0) + t) (g : Int) (gi h 19 0).toNat) L (gi h 23 0) (gi h 23 3) (dlA h) (gi h 23 1) n.toNat) 9) []))) ∧ GD gE gRL sh h' ∧ FRM gRL [(0, 3, 1, 1), (0, 8, 3, 3), (0, 10, 0, 39), (0, 41, 5, 5), (0, 42, 0, 29), (0, 43, 0, 30), (0, 45, 0, 29), (0, 46, 0, 8), (1, 4, 0, 29)] h h') := by
  refine x_met _ rfl (Nat.le_of_ble_eq_true rfl) (fun K hK => ?_)
  have hmono := MONO_CLd hSP 8
  obtain ⟨ff, eff⟩ : ∃ ff : Int, (if gi h 23 3 = gi h 23 0 then (1 : Int) else 0) = ff := ⟨_, rfl⟩
  have fr : ff = 0 ∨ ff = 1 := by
    rw [← eff]
    split <;> omega
  obtain ⟨w, hw⟩ : ∃ w : Int, fwN (XS 0 l (fun (t : Int) (g : Nat) => hitN (gi h 20) (gi h 21) ((gi h 23 0) + t) (g : Int) (gi h 19 0).toNat) L (gi h 23 0) (gi h 23 3) (dlA h) (gi h 23 1) n.toNat) 9 = w := ⟨_, rfl⟩
  have wb : 0 ≤ w ∧ w ≤ 1000 := by rw [← hw]; exact fwN_r (XS_r _) 9
  rw [hw] at hK
  have hp0 : (ppF l (fun (t : Int) (g : Nat) => hitN (gi h 20) (gi h 21) ((gi h 23 0) + t) (g : Int) (gi h 19 0).toNat) (opsT L (gi h 23 0) (gi h 23 3) (dlA h) n.toNat) (gi h 23 1)) [] = w := pp_nil.trans hw
  obtain ⟨RR, hRR⟩ : ∃ R : List Int, (prF (ppF l (fun (t : Int) (g : Nat) => hitN (gi h 20) (gi h 21) ((gi h 23 0) + t) (g : Int) (gi h 19 0).toNat) (opsT L (gi h 23 0) (gi h 23 3) (dlA h) n.toNat) (gi h 23 1)) (gi h 23 0) (gi h 23 3) (dlA h) n n.toNat w []) = R := ⟨_, rfl⟩
  have lR : 0 ≤ n → ((RR.length : Nat) : Int) = n := fun z => by
    rw [← hRR, prF_len]
    show ((n.toNat + 0 : Nat) : Int) = n
    omega
  rw [hRR] at hK
  have loop : ∀ (mz : Nat) (i : Int) (h10 : aH) (ls : List (Nat × Value)), ((n - i).toNat = mz) → (1 ≤ n ∧ n ≤ 30) → (w < 1000) → (0 ≤ i ∧ i ≤ n) → (gi h10 3 1 = i) → (crow h10 = RR.take i.toNat) → (∀ j : Nat, (j : Int) < n → gi h10 131 j = RR.getD j 0) → lk ls 0 = some (.ref 0) → lk ls 1 = some (.int (I n)) → lk ls 2 = some (.int (I w)) → lk ls 3 = some (.int (I i)) → GD gE gRL sh h10 → FRM gRL [(0, 3, 1, 1), (0, 8, 3, 3), (0, 10, 0, 39), (0, 41, 5, 5), (0, 42, 0, 29), (0, 43, 0, 30), (0, 45, 0, 29), (0, 46, 0, 8), (1, 4, 0, 29)] h h10 → K 74 ls [] h10 0 0 := by
    intro mz
    induction mz using Nat.strongRecOn with
    | ind mz ih =>
    intro i h10 ls hm n0 w0 i0 r1 rc gv l0 l1 l2 l3 hG10 hF10
    have lR1 := lR (by omega)
    refine x_iload_n 75 hK rfl rfl l3 ?_
    refine x_iload_n 76 hK rfl rfl l1 ?_
    refine x_if_icmp_ge 102 79 hK rfl rfl rfl (by omega) (by omega) (fun c3 => ?_) (fun c3 => ?_)
    · refine x_iload_n 103 hK rfl rfl l2 ?_
      exact x_iret hK rfl ⟨Or.inr (Or.inr ⟨n0, w0, rfl, rc.trans (List.take_of_length_le (by omega))⟩), hG10, hF10⟩
    · refine x_aload_n 80 hK rfl rfl l0 ?_
      refine x_getR 83 hK rfl rfl (sp_0 (h := h10) hG10) (rf_0_1 (h := h10) hG10) ?_
      refine x_aload_n 84 hK rfl rfl l0 ?_
      refine x_getR 87 hK rfl rfl (sp_0 (h := h10) hG10) (rf_0_13 (h := h10) hG10) ?_
      refine x_getR 90 hK rfl rfl (sp_127 (h := h10) hG10) (rf_127_3 (h := h10) hG10) ?_
      refine x_iload_n 91 hK rfl rfl l3 ?_
      have g722 := gi_r h10 131 i.toNat
      refine x_ialoadE 92 hK rfl rfl (sp_131 (h := h10) hG10) (by omega) (by omega) (by omega) (e' := (gi h10 131 i.toNat)) (rfl) ?_
      refine x_i2l 93 hK rfl rfl (by omega) ?_
      have z724 : gi h10 3 1 = i := r1
      have z724r : crow h10 = (RR.take i.toNat) := rc
      refine x_callV 96 hK hmono rfl rfl [.ref 3, .long (J (gi h10 131 i.toNat))] [] rfl rfl (Nat.le_of_ble_eq_true rfl) (Nat.le_of_ble_eq_true rfl) rfl (sp_3 (h := h10) hG10) (CLd_le (Nat.le_of_ble_eq_true rfl) (ctX3_add hSP hG10 (by omega) (by omega))) ?_
      rintro v723 h723 ⟨rfl, hG723, hF723, t723, s723⟩
      rw [z724] at t723
      rw [z724r] at s723
      refine x_iinc 99 hK rfl rfl l3 _ rfl ?_
      refine x_goto 74 hK rfl rfl ?_
      exact ih _ (by omega) (i + 1) _ _ rfl (n0) (w0) (by omega) (t723) (by
        rw [tk_s i0.1 (by omega), ← gv i.toNat (by omega)]
        exact s723) (fun j hj => (FRM_gi hF723 (r := 45) rfl rfl).trans (gv j hj)) (lk1_n l0 (by decide) (Or.inl rfl)) (lk1_n l1 (by decide) (Or.inl rfl)) (lk1_n l2 (by decide) (Or.inl rfl)) lk1_s (hG723) ((hF10).trans ((hF723).mono rfl))
  refine x_iload_n 1 hK rfl rfl rfl ?_
  refine x_iconst 2 hK rfl rfl ?_
  refine x_if_icmp_lt 11 5 hK rfl rfl rfl (by omega) (by omega) (fun c3 => ?_) (fun c3 => ?_)
  · refine x_iconst 12 hK rfl rfl ?_
    exact x_iret hK rfl ⟨Or.inl ⟨by omega, rfl, rfl⟩, hG, FRM.rf⟩
  · refine x_iload_n 6 hK rfl rfl rfl ?_
    refine x_bipush 8 hK rfl rfl rfl ?_
    refine x_if_icmp_le 13 11 hK rfl rfl rfl (by omega) (by omega) (fun c8 => ?_) (fun c8 => ?_)
    · refine x_aload_n 14 hK rfl rfl rfl ?_
      refine x_callV 17 hK hmono rfl rfl [.ref 0] [] rfl rfl (Nat.le_of_ble_eq_true rfl) (Nat.le_of_ble_eq_true rfl) rfl (sp_0 (h := h) hG) (CLd_le (Nat.le_of_ble_eq_true rfl) (ctX10_lookAheadT hSP hG hP hX hD h0 hml)) ?_
      rintro v725 h725 ⟨rfl, hG725, hF725, tu725, dn725, rb725⟩
      rw [← hl] at tu725
      refine x_aload_n 18 hK rfl rfl rfl ?_
      refine x_getR 21 hK rfl rfl (sp_0 (h := h725) hG725) (rf_0_13 (h := h725) hG725) ?_
      refine x_aload_n 22 hK rfl rfl rfl ?_
      refine x_callV 25 hK hmono rfl rfl [.ref 0] [.ref 127] rfl rfl (Nat.le_of_ble_eq_true rfl) (Nat.le_of_ble_eq_true rfl) rfl (sp_0 (h := h725) hG725) (CLd_le (Nat.le_of_ble_eq_true rfl) (ctX10_firstFree hSP hG725)) ?_
      rintro v9 h9 ⟨e9, rfl⟩
      rw [e9, show gi h725 23 3 = gi h 23 3 from FRM_gi hF725 (r := 17) rfl rfl, show gi h725 23 0 = gi h 23 0 from FRM_gi hF725 (r := 17) rfl rfl, eff]
      clear e9
      refine x_iload_n 26 hK rfl rfl rfl ?_
      refine x_callV 29 hK hmono rfl rfl [.ref 127, .int (I ff), .int (I n)] [] rfl rfl (Nat.le_of_ble_eq_true rfl) (Nat.le_of_ble_eq_true rfl) rfl (sp_127 (h := h725) hG725) (CLd_le (Nat.le_of_ble_eq_true rfl) (ctX0_freeOrdersF hSP hG725 (f := ff) (n := n) (by omega) (by omega))) ?_
      rintro v726 h726 ⟨rfl, hG726, hF726, cz726⟩
      refine x_aload_n 30 hK rfl rfl rfl ?_
      refine x_getR 33 hK rfl rfl (sp_0 (h := h726) hG726) (rf_0_13 (h := h726) hG726) ?_
      refine x_aload_n 34 hK rfl rfl rfl ?_
      refine x_getR 37 hK rfl rfl (sp_0 (h := h726) hG726) (rf_0_10 (h := h726) hG726) ?_
      refine x_iload_n 38 hK rfl rfl rfl ?_
      have eo727 : kO h726 23 (gi h726 23 4).toNat = srt L := by
        rw [show gi h726 23 4 = gi h 23 4 from (FRM_gi hF726 (r := 17) rfl rfl).trans (FRM_gi hF725 (r := 17) rfl rfl), kO_eq (h := h) (h' := h726) (c := 23) (c' := 23) (n := (gi h 23 4).toNat) (fun j hj => ⟨(FRM_gi hF726 (r := 18) rfl rfl).trans (FRM_gi hF725 (r := 18) rfl rfl), (FRM_gi hF726 (r := 19) rfl rfl).trans (FRM_gi hF725 (r := 19) rfl rfl)⟩)]
        exact eo
      have hr727 : ∀ q : Nat, (q : Int) < gi h726 23 4 → gi h 23 0 < gi h726 24 q ∧ gi h726 24 q ≤ gi h 23 0 + 12 ∧ -1 ≤ gi h726 25 q ∧ gi h726 25 q ≤ 1 := fun q hq => by
        rw [show gi h726 23 4 = gi h 23 4 from (FRM_gi hF726 (r := 17) rfl rfl).trans (FRM_gi hF725 (r := 17) rfl rfl)] at hq
        rw [show gi h726 24 q = gi h 24 q from (FRM_gi hF726 (r := 18) rfl rfl).trans (FRM_gi hF725 (r := 18) rfl rfl), show gi h726 25 q = gi h 25 q from (FRM_gi hF726 (r := 19) rfl rfl).trans (FRM_gi hF725 (r := 19) rfl rfl)]
        exact hr q hq
      have rk727 : ∀ t : Nat, 1 ≤ t → t ≤ 30 → RB (gi h726 129 t) ((fun (t : Int) (g : Nat) => hitN (gi h 20) (gi h 21) ((gi h 23 0) + t) (g : Int) (gi h 19 0).toNat) t) := fun t h1 h2 => by
        rw [show gi h726 129 t = gi h725 129 t from FRM_gi hF726 (r := 43) rfl rfl]
        exact rb725 t h1 h2
      have cy727 : ∀ j : Nat, (j : Int) < n → gi h726 131 j = if ff ≤ (j : Int) ∧ gi h726 128 j ≤ n then 2 else 0 := fun j hj => by
        rw [show gi h726 128 j = gi h725 128 j from FRM_gi hF726 (r := 42) rfl rfl]
        exact cz726 j hj
      refine x_callV 41 hK hmono rfl rfl [.ref 127, .ref 23, .int (I n)] [] rfl rfl (Nat.le_of_ble_eq_true rfl) (Nat.le_of_ble_eq_true rfl) rfl (sp_127 (h := h726) hG726) (CLd_le (Nat.le_of_ble_eq_true rfl) (ctX0_fewestOrdersF hSP hG726 (L := L) (now := gi h 23 0) (last := gi h 23 3) (l := l) (f := ff) (n := n) (dl := dlA h) (hit := (fun (t : Int) (g : Nat) => hitN (gi h 20) (gi h 21) ((gi h 23 0) + t) (g : Int) (gi h 19 0).toNat)) ((FRM_gi hF726 (r := 17) rfl rfl).trans (FRM_gi hF725 (r := 17) rfl rfl)) eo727 (fun s => dlA_b h s) h0 hr727 (fun j hj => (FRM_gi hF726 (r := 42) rfl rfl).trans (dn725 j hj)) eff.symm (by omega) rk727 cy727)) ?_
      rw [show gi h726 23 1 = gi h 23 1 from (FRM_gi hF726 (r := 17) rfl rfl).trans (FRM_gi hF725 (r := 17) rfl rfl), hw]
      rintro v727 h727 ⟨rfl, hG727, hF727⟩
      refine x_istore_n 42 hK rfl rfl [(2, .int (I w)), (0, .ref 0), (1, .int (I n))] rfl ?_
      refine x_iload_n 43 hK rfl rfl rfl ?_
      refine x_sipush 46 hK rfl rfl rfl ?_
      refine x_if_icmp_lt 52 49 hK rfl rfl rfl (by omega) (by omega) (fun c26 => ?_) (fun c26 => ?_)
      · refine x_aload_n 53 hK rfl rfl rfl ?_
        refine x_getR 56 hK rfl rfl (sp_0 (h := h727) hG727) (rf_0_13 (h := h727) hG727) ?_
        refine x_aload_n 57 hK rfl rfl rfl ?_
        refine x_getR 60 hK rfl rfl (sp_0 (h := h727) hG727) (rf_0_10 (h := h727) hG727) ?_
        refine x_iload_n 61 hK rfl rfl rfl ?_
        refine x_iload_n 62 hK rfl rfl rfl ?_
        have eo728 : kO h727 23 (gi h727 23 4).toNat = srt L := by
          rw [show gi h727 23 4 = gi h 23 4 from (FRM_gi hF727 (r := 17) rfl rfl).trans ((FRM_gi hF726 (r := 17) rfl rfl).trans (FRM_gi hF725 (r := 17) rfl rfl)), kO_eq (h := h) (h' := h727) (c := 23) (c' := 23) (n := (gi h 23 4).toNat) (fun j hj => ⟨(FRM_gi hF727 (r := 18) rfl rfl).trans ((FRM_gi hF726 (r := 18) rfl rfl).trans (FRM_gi hF725 (r := 18) rfl rfl)), (FRM_gi hF727 (r := 19) rfl rfl).trans ((FRM_gi hF726 (r := 19) rfl rfl).trans (FRM_gi hF725 (r := 19) rfl rfl))⟩)]
          exact eo
        have hr728 : ∀ q : Nat, (q : Int) < gi h727 23 4 → gi h 23 0 < gi h727 24 q ∧ gi h727 24 q ≤ gi h 23 0 + 12 ∧ -1 ≤ gi h727 25 q ∧ gi h727 25 q ≤ 1 := fun q hq => by
          rw [show gi h727 23 4 = gi h 23 4 from (FRM_gi hF727 (r := 17) rfl rfl).trans ((FRM_gi hF726 (r := 17) rfl rfl).trans (FRM_gi hF725 (r := 17) rfl rfl))] at hq
          rw [show gi h727 24 q = gi h 24 q from (FRM_gi hF727 (r := 18) rfl rfl).trans ((FRM_gi hF726 (r := 18) rfl rfl).trans (FRM_gi hF725 (r := 18) rfl rfl)), show gi h727 25 q = gi h 25 q from (FRM_gi hF727 (r := 19) rfl rfl).trans ((FRM_gi hF726 (r := 19) rfl rfl).trans (FRM_gi hF725 (r := 19) rfl rfl))]
          exact hr q hq
        have rk728 : ∀ t : Nat, 1 ≤ t → t ≤ 30 → RB (gi h727 129 t) ((fun (t : Int) (g : Nat) => hitN (gi h 20) (gi h 21) ((gi h 23 0) + t) (g : Int) (gi h 19 0).toNat) t) := fun t h1 h2 => by
          rw [show gi h727 129 t = gi h725 129 t from (FRM_gi hF727 (r := 43) rfl rfl).trans (FRM_gi hF726 (r := 43) rfl rfl)]
          exact rb725 t h1 h2
        have cy728 : ∀ j : Nat, (j : Int) < n → gi h727 131 j = if ff ≤ (j : Int) ∧ gi h727 128 j ≤ n then 2 else 0 := fun j hj => by
          rw [show gi h727 128 j = gi h725 128 j from (FRM_gi hF727 (r := 42) rfl rfl).trans (FRM_gi hF726 (r := 42) rfl rfl), show gi h727 131 j = gi h726 131 j from FRM_gi hF727 (r := 45) rfl rfl]
          exact cz726 j hj
        refine x_callV 65 hK hmono rfl rfl [.ref 127, .ref 23, .int (I n), .int (I w)] [] rfl rfl (Nat.le_of_ble_eq_true rfl) (Nat.le_of_ble_eq_true rfl) rfl (sp_127 (h := h727) hG727) (CLd_le (Nat.le_of_ble_eq_true rfl) (ctX0_chooseLeastRowG hSP hG727 (L := L) (now := gi h 23 0) (last := gi h 23 3) (l := l) (f := ff) (n := n) (dl := dlA h) (hit := (fun (t : Int) (g : Nat) => hitN (gi h 20) (gi h 21) ((gi h 23 0) + t) (g : Int) (gi h 19 0).toNat)) ((FRM_gi hF727 (r := 17) rfl rfl).trans ((FRM_gi hF726 (r := 17) rfl rfl).trans (FRM_gi hF725 (r := 17) rfl rfl))) eo728 (fun s => dlA_b h s) h0 hr728 (fun j hj => ((FRM_gi hF727 (r := 42) rfl rfl).trans (FRM_gi hF726 (r := 42) rfl rfl)).trans (dn725 j hj)) eff.symm (by omega) rk728 (((FRM_gi hF727 (r := 41) rfl rfl).trans (FRM_gi hF726 (r := 41) rfl rfl)).trans tu725) cy728 (w := w) (by rw [show gi h727 23 1 = gi h 23 1 from (FRM_gi hF727 (r := 17) rfl rfl).trans ((FRM_gi hF726 (r := 17) rfl rfl).trans (FRM_gi hF725 (r := 17) rfl rfl))]; exact hp0) (by omega))) ?_
        rw [show gi h727 23 1 = gi h 23 1 from (FRM_gi hF727 (r := 17) rfl rfl).trans ((FRM_gi hF726 (r := 17) rfl rfl).trans (FRM_gi hF725 (r := 17) rfl rfl)), hRR]
        rintro v728 h728 ⟨rfl, hG728, hF728, gv728⟩
        refine x_aload_n 66 hK rfl rfl rfl ?_
        refine x_getR 69 hK rfl rfl (sp_0 (h := h728) hG728) (rf_0_1 (h := h728) hG728) ?_
        refine x_callV 72 hK hmono rfl rfl [.ref 3] [] rfl rfl (Nat.le_of_ble_eq_true rfl) (Nat.le_of_ble_eq_true rfl) rfl (sp_3 (h := h728) hG728) (CLd_le (Nat.le_of_ble_eq_true rfl) (ctX3_clear hSP hG728)) ?_
        rintro v729 h729 ⟨rfl, hG729, hF729, t729, s729⟩
        refine x_iconst 73 hK rfl rfl ?_
        refine x_istore_n 74 hK rfl rfl [(3, .int (I 0)), (2, .int (I w)), (0, .ref 0), (1, .int (I n))] rfl ?_
        exact loop _ 0 _ _ rfl (⟨by omega, by omega⟩) (by omega) (by omega) (t729) (s729) (fun j hj => (FRM_gi hF729 (r := 45) rfl rfl).trans (gv728 j hj)) rfl rfl rfl rfl (hG729) ((((((hF725).mono rfl).trans ((hF726).mono rfl)).trans ((hF727).mono rfl)).trans ((hF728).mono rfl)).trans ((hF729).mono rfl))
      · refine x_bipush 51 hK rfl rfl rfl ?_
        exact x_iret hK rfl ⟨Or.inr (Or.inl ⟨⟨by omega, by omega⟩, by omega, rfl, (crow_F hF727 rfl rfl).trans ((crow_F hF726 rfl rfl).trans (crow_F hF725 rfl rfl))⟩), hG727, (((hF725).mono rfl).trans ((hF726).mono rfl)).trans ((hF727).mono rfl)⟩
    · refine x_iconst 12 hK rfl rfl ?_
      exact x_iret hK rfl ⟨Or.inl ⟨by omega, rfl, rfl⟩, hG, FRM.rf⟩
end
