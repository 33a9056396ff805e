/-! PLANS -/
theorem gb_up {u : Nat → Int} (hr : rgV u) (l : Nat) (hl : l < 9) : gbV 1 false u l = if l = 0 then 1000 else if l = 8 then min (u 8) (u 7) else u (l - 1) := by
  rcases (show l = 0 ∨ l = 1 ∨ l = 2 ∨ l = 3 ∨ l = 4 ∨ l = 5 ∨ l = 6 ∨ l = 7 ∨ l = 8 by omega) with rfl | rfl | rfl | rfl | rfl | rfl | rfl | rfl | rfl
  · rfl
  · have a := hr 0; show min 1000 (u 0 + 0) = u 0; omega
  · have a := hr 1; show min 1000 (u 1 + 0) = u 1; omega
  · have a := hr 2; show min 1000 (u 2 + 0) = u 2; omega
  · have a := hr 3; show min 1000 (u 3 + 0) = u 3; omega
  · have a := hr 4; show min 1000 (u 4 + 0) = u 4; omega
  · have a := hr 5; show min 1000 (u 5 + 0) = u 5; omega
  · have a := hr 6; show min 1000 (u 6 + 0) = u 6; omega
  · have a := hr 7; have b := hr 8; show min (min 1000 (u 7 + 0)) (u 8 + 0) = min (u 8) (u 7); omega
theorem gb_dn {u : Nat → Int} (hr : rgV u) (l : Nat) (hl : l < 9) : gbV (-1) false u l = if l = 8 then 1000 else if l = 0 then min (u 0) (u 1) else u (l + 1) := by
  rcases (show l = 0 ∨ l = 1 ∨ l = 2 ∨ l = 3 ∨ l = 4 ∨ l = 5 ∨ l = 6 ∨ l = 7 ∨ l = 8 by omega) with rfl | rfl | rfl | rfl | rfl | rfl | rfl | rfl | rfl
  · have a := hr 0; have b := hr 1; show min (min 1000 (u 0 + 0)) (u 1 + 0) = min (u 0) (u 1); omega
  · have a := hr 2; show min 1000 (u 2 + 0) = u 2; omega
  · have a := hr 3; show min 1000 (u 3 + 0) = u 3; omega
  · have a := hr 4; show min 1000 (u 4 + 0) = u 4; omega
  · have a := hr 5; show min 1000 (u 5 + 0) = u 5; omega
  · have a := hr 6; show min 1000 (u 6 + 0) = u 6; omega
  · have a := hr 7; show min 1000 (u 7 + 0) = u 7; omega
  · have a := hr 8; show min 1000 (u 8 + 0) = u 8; omega
  · rfl
theorem gb_st {u : Nat → Int} (hr : rgV u) (l : Nat) (hl : l < 9) : gbV 0 false u l = u l := by
  rcases (show l = 0 ∨ l = 1 ∨ l = 2 ∨ l = 3 ∨ l = 4 ∨ l = 5 ∨ l = 6 ∨ l = 7 ∨ l = 8 by omega) with rfl | rfl | rfl | rfl | rfl | rfl | rfl | rfl | rfl
  · have a := hr 0; show min 1000 (u 0 + 0) = u 0; omega
  · have a := hr 1; show min 1000 (u 1 + 0) = u 1; omega
  · have a := hr 2; show min 1000 (u 2 + 0) = u 2; omega
  · have a := hr 3; show min 1000 (u 3 + 0) = u 3; omega
  · have a := hr 4; show min 1000 (u 4 + 0) = u 4; omega
  · have a := hr 5; show min 1000 (u 5 + 0) = u 5; omega
  · have a := hr 6; show min 1000 (u 6 + 0) = u 6; omega
  · have a := hr 7; show min 1000 (u 7 + 0) = u 7; omega
  · have a := hr 8; show min 1000 (u 8 + 0) = u 8; omega
theorem gb_an {u : Nat → Int} {v : Int} (hr : rgV u) (l : Nat) (hl : l < 9) : gbV v true u l = min (u l) (1 + min (if l = 0 then 1000 else u (l - 1)) (if l = 8 then 1000 else u (l + 1))) := by
  rcases (show l = 0 ∨ l = 1 ∨ l = 2 ∨ l = 3 ∨ l = 4 ∨ l = 5 ∨ l = 6 ∨ l = 7 ∨ l = 8 by omega) with rfl | rfl | rfl | rfl | rfl | rfl | rfl | rfl | rfl
  · have a := hr 0; have b := hr 1; show min (min (min 1000 (u 0 + 1)) (u 1 + 1)) (u 0 + 0) = min (u 0) (1 + min 1000 (u 1)); omega
  · have a := hr 0; have b := hr 1; have c := hr 2; show min (min (min 1000 (u 2 + 1)) (u 1 + 0)) (u 0 + 1) = min (u 1) (1 + min (u 0) (u 2)); omega
  · have a := hr 1; have b := hr 2; have c := hr 3; show min (min (min 1000 (u 3 + 1)) (u 2 + 0)) (u 1 + 1) = min (u 2) (1 + min (u 1) (u 3)); omega
  · have a := hr 2; have b := hr 3; have c := hr 4; show min (min (min 1000 (u 4 + 1)) (u 3 + 0)) (u 2 + 1) = min (u 3) (1 + min (u 2) (u 4)); omega
  · have a := hr 3; have b := hr 4; have c := hr 5; show min (min (min 1000 (u 5 + 1)) (u 4 + 0)) (u 3 + 1) = min (u 4) (1 + min (u 3) (u 5)); omega
  · have a := hr 4; have b := hr 5; have c := hr 6; show min (min (min 1000 (u 6 + 1)) (u 5 + 0)) (u 4 + 1) = min (u 5) (1 + min (u 4) (u 6)); omega
  · have a := hr 5; have b := hr 6; have c := hr 7; show min (min (min 1000 (u 7 + 1)) (u 6 + 0)) (u 5 + 1) = min (u 6) (1 + min (u 5) (u 7)); omega
  · have a := hr 6; have b := hr 7; have c := hr 8; show min (min (min 1000 (u 8 + 1)) (u 7 + 0)) (u 6 + 1) = min (u 7) (1 + min (u 6) (u 8)); omega
  · have a := hr 7; have b := hr 8; show min (min (min 1000 (u 8 + 0)) (u 7 + 1)) (u 8 + 1) = min (u 8) (1 + min (u 7) 1000); omega
theorem blk_lo {now last t : Int} {dl : Int → Int} : ∀ i : Nat, (∀ k : Nat, k < i → ¬ cmF now last dl k t = true) → blkC now last dl t i = []
  | 0, _ => rfl
  | i + 1, h => by
    show blkC now last dl t i ++ (if cmF now last dl i t = true then [(1, (i : Int))] else []) = []
    rw [blk_lo i fun k hk => h k (by omega), if_neg (h i (by omega))]
    rfl
theorem op_1f {l k : Int} {hit : Int → Nat → Int} {u : Nat → Int} (hk : 0 ≤ k) : opF (chA 0) l hit (1, k) u = gbV 0 true u := by
  rw [op_1, show chA 0 k = 2 from if_neg (by omega)]
  rfl
theorem XS_r {a l : Int} {hit : Int → Nat → Int} {L : List (Int × Int × Int)} {now last : Int} {dl : Int → Int} {l0 : Int} (t : Nat) : rgV (XS a l hit L now last dl l0 t) := opsF_r _ _ u0_r
theorem XS_out {a l : Int} {hit : Int → Nat → Int} {L : List (Int × Int × Int)} {now last : Int} {dl : Int → Int} {l0 : Int} (hl : 0 ≤ l0 ∧ l0 ≤ 8) (t : Nat) : ∀ g, 9 ≤ g → XS a l hit L now last dl l0 t g = 1000 := opsF_out _ _ fun g hg => if_neg (by omega)
set_option maxRecDepth 4000 in
theorem ctJ7_fill_53178132 {SP : CT} (hSP : MONO SP) {sh : List (Nat × Nat)} {h : aH} (hG : GD gE gRL sh h) : CLd SP 1 mJ7_fill_53178 [.ref 132, .int (I 1000)] h 0 0 (fun rv h' => rv = none ∧ GD gE gRL sh h' ∧ FRM gRL [(0, 46, 0, 8)] h h' ∧ ∀ j : Nat, j < 9 → gi h' 132 j = 1000) := by
  refine x_met _ rfl (Nat.le_of_ble_eq_true rfl) (fun K hK => ?_)
  have hmono := MONO_CLd hSP 0
  have loop : ∀ (mz : Nat) (i : Int) (h4 : aH) (ls : List (Nat × Value)), ((9 - i).toNat = mz) → (0 ≤ i ∧ i ≤ 9) → (∀ j : Nat, (j : Int) < i → gi h4 132 j = 1000) → lk ls 0 = some (.ref 132) → lk ls 1 = some (.int (I 1000)) → lk ls 2 = some (.int (I i)) → lk ls 3 = some (.int (I 9)) → GD gE gRL sh h4 → FRM gRL [(0, 46, 0, 8)] h h4 → K 5 ls [] h4 0 0 := by
    intro mz
    induction mz using Nat.strongRecOn with
    | ind mz ih =>
    intro i h4 ls hm i0 dn l0 l1 l2 l3 hG4 hF4
    refine x_iload_n 6 hK rfl rfl l2 ?_
    refine x_iload_n 7 hK rfl rfl l3 ?_
    refine x_if_icmp_ge 20 10 hK rfl rfl rfl (by omega) (by omega) (fun c3 => ?_) (fun c3 => ?_)
    · exact x_vret hK rfl ⟨rfl, hG4, hF4, fun j hj => dn j (by omega)⟩
    · refine x_aload_n 11 hK rfl rfl l0 ?_
      refine x_iload_n 12 hK rfl rfl l2 ?_
      refine x_iload_n 13 hK rfl rfl l1 ?_
      refine x_iastore 14 hK rfl rfl (sp_132 (h := h4) hG4) (by omega) (by omega) (by omega) ?_
      refine x_iinc 17 hK rfl rfl l2 _ rfl ?_
      refine x_goto 5 hK rfl rfl ?_
      exact ih _ (by omega) (i + 1) _ _ rfl (by omega) (fun j hj => if c : j = i.toNat then (by subst c; exact gi_same (by omega)) else (gi_k c _).trans (dn j (by omega))) (lk1_n l0 (by decide) (Or.inl rfl)) (lk1_n l1 (by decide) (Or.inl rfl)) lk1_s (lk1_n l3 (by decide) (Or.inl rfl)) (GD_wn (hG4) (r := 46) rfl rfl) (FRM_wn 0 8 (hF4) (r := 46) rfl rfl rfl (by omega) (by omega))
  refine x_iconst 1 hK rfl rfl ?_
  refine x_istore_n 2 hK rfl rfl [(2, .int (I 0)), (0, .ref 132), (1, .int (I 1000))] rfl ?_
  refine x_aload_n 3 hK rfl rfl rfl ?_
  refine x_arraylength 4 hK rfl rfl (sp_132 (h := h) hG) (by decide) ?_
  change K 4 _ (.int (I 9) :: _) _ _ _
  refine x_istore_n 5 hK rfl rfl [(3, .int (I 9)), (2, .int (I 0)), (0, .ref 132), (1, .int (I 1000))] rfl ?_
  exact loop _ 0 _ _ rfl (by omega) (fun j hj => absurd hj (by omega)) rfl rfl rfl rfl (hG) ((FRM.rf : FRM gRL [(0, 46, 0, 8)] h h))
theorem gb_upv {u : Nat → Int} {v : Int} (hr : rgV u) (l : Nat) (hl : l < 9) (hv : v = 1) : gbV v false u l = if l = 0 then 1000 else if l = 8 then min (u 8) (u 7) else u (l - 1) := by rw [hv]; exact gb_up hr l hl
theorem gb_dnv {u : Nat → Int} {v : Int} (hr : rgV u) (l : Nat) (hl : l < 9) (hv : v = -1) : gbV v false u l = if l = 8 then 1000 else if l = 0 then min (u 0) (u 1) else u (l + 1) := by rw [hv]; exact gb_dn hr l hl
set_option maxRecDepth 4000 in
theorem ctX0_moveCostsF {SP : CT} (hSP : MONO SP) {sh : List (Nat × Nat)} {h : aH} (hG : GD gE gRL sh h) {v : Int} (hv : -1 ≤ v ∧ v ≤ 1) (hr : rgV (LV h 132)) : CLd SP 1 mX0_moveCosts [.ref 127, .int (I v)] h 0 0 (fun rv h' => rv = none ∧ GD gE gRL sh h' ∧ FRM gRL [(0, 46, 0, 8)] h h' ∧ (LV h' 132) = gbV v false (LV h 132)) := by
  refine x_met _ rfl (Nat.le_of_ble_eq_true rfl) (fun K hK => ?_)
  have hmono := MONO_CLd hSP 0
  have ge : ∀ l, l < 9 → gi h 132 l = LV h 132 l := fun l hl => (LV_at hl).symm
  refine x_iload_n 1 hK rfl rfl rfl ?_
  refine x_if_le 55 4 hK rfl rfl rfl (by omega) (fun c2 => ?_) (fun c2 => ?_)
  · refine x_iload_n 56 hK rfl rfl rfl ?_
    refine x_if_ge 105 59 hK rfl rfl rfl (by omega) (fun c4 => ?_) (fun c4 => ?_)
    · obtain rfl : v = 0 := by omega
      exact x_vret hK rfl ⟨rfl, hG, FRM.rf, lv_eq (gbV_r hr) (fun l hl => by rw [gb_st hr l hl, LV_at hl]) (gbV_out _ _ _)⟩
    · refine x_aload_n 60 hK rfl rfl rfl ?_
      refine x_getR 63 hK rfl rfl (sp_127 (h := h) hG) (rf_127_4 (h := h) hG) ?_
      refine x_iconst 64 hK rfl rfl ?_
      refine x_aload_n 65 hK rfl rfl rfl ?_
      refine x_getR 68 hK rfl rfl (sp_127 (h := h) hG) (rf_127_4 (h := h) hG) ?_
      refine x_iconst 69 hK rfl rfl ?_
      have g722 := gi_r h 132 0
      refine x_ialoadE 70 hK rfl rfl (sp_132 (h := h) hG) (by omega) (by omega) (by omega) (e' := (gi h 132 0)) (rfl) ?_
      refine x_aload_n 71 hK rfl rfl rfl ?_
      refine x_getR 74 hK rfl rfl (sp_127 (h := h) hG) (rf_127_4 (h := h) hG) ?_
      refine x_iconst 75 hK rfl rfl ?_
      have g723 := gi_r h 132 1
      refine x_ialoadE 76 hK rfl rfl (sp_132 (h := h) hG) (by omega) (by omega) (by omega) (e' := (gi h 132 1)) (rfl) ?_
      refine x_min 79 hK rfl rfl (Nat.le_of_ble_eq_true rfl) (by omega) (by omega) ?_
      refine x_iastore 80 hK rfl rfl (sp_132 (h := h) hG) (by omega) (by omega) (by omega) ?_
      refine x_aload_n 81 hK rfl rfl rfl ?_
      refine x_getR 84 hK rfl rfl (sp_127 (h := h) hG) (rf_127_4 (h := h) hG) ?_
      refine x_iconst 85 hK rfl rfl ?_
      refine x_aload_n 86 hK rfl rfl rfl ?_
      refine x_getR 89 hK rfl rfl (sp_127 (h := h) hG) (rf_127_4 (h := h) hG) ?_
      refine x_iconst 90 hK rfl rfl ?_
      refine x_bipush 92 hK rfl rfl rfl ?_
      refine x_acp 95 hK rfl rfl (by decide) (sp_132 (h := h) hG) (sp_132 (h := h) hG) (by omega) (by omega) (by omega) (by omega) (by omega) ?_
      change K 95 _ _ (sC (wI h 132 0 (min (gi h 132 0) (gi h 132 1))) 132 (Int.toNat 2) 132 (Int.toNat 1) (Int.toNat 7)) _ _
      obtain ⟨h724, e724⟩ : ∃ z, z = sC (wI h 132 0 (min (gi h 132 0) (gi h 132 1))) 132 (Int.toNat 2) 132 (Int.toNat 1) (Int.toNat 7) := ⟨_, rfl⟩
      rw [← e724]
      have hG724 : GD gE gRL sh h724 := by rw [e724]; exact GD_C (GD_w0 (hG) (r := 46) rfl rfl) (r := 46) rfl rfl
      have hF724 : FRM gRL [(0, 46, 0, 8)] (wI h 132 0 (min (gi h 132 0) (gi h 132 1))) h724 := by rw [e724]; exact FRM_C FRM.rf (r := 46) rfl fun k k1 k2 => mIn_r (x := 0) (y := 8) (by decide) k (by omega) (by omega)
      have oc724 : ∀ a9 k9, a9 ≠ 132 → gi h724 a9 k9 = gi (wI h 132 0 (min (gi h 132 0) (gi h 132 1))) a9 k9 := fun a9 k9 ha => by rw [e724]; exact gi_sCn ha k9
      have cc724 : ∀ j9, gi h724 132 j9 = if (Int.toNat 1) ≤ j9 ∧ j9 < (Int.toNat 1) + (Int.toNat 7) then gi (wI h 132 0 (min (gi h 132 0) (gi h 132 1))) 132 ((Int.toNat 2) + (j9 - (Int.toNat 1))) else gi (wI h 132 0 (min (gi h 132 0) (gi h 132 1))) 132 j9 := fun j9 => by rw [e724]; exact gi_sC j9
      refine x_aload_n 96 hK rfl rfl rfl ?_
      refine x_getR 99 hK rfl rfl (sp_127 (h := h724) hG724) (rf_127_4 (h := h724) hG724) ?_
      refine x_bipush 101 hK rfl rfl rfl ?_
      refine x_sipush 104 hK rfl rfl rfl ?_
      refine x_iastore 105 hK rfl rfl (sp_132 (h := h724) hG724) (by omega) (by omega) (by omega) ?_
      have cell : ∀ l, l < 9 → gi (wI h724 132 8 1000) 132 l = gbV v false (LV h 132) l := fun l hl => by
        rw [show gbV v false (LV h 132) l = _ from gb_dnv hr l hl (by omega)]
        by_cases q : l = 8
        · rw [if_pos q, q]
          exact gi_same (by omega)
        · rw [if_neg q, show gi (wI h724 132 8 1000) 132 l = gi h724 132 l from gi_k q _, cc724 l]
          by_cases q8 : l = 0
          · rw [if_pos q8, if_neg (fun z => by have z1 := z.1; have z2 := z.2; omega), q8]
            rw [show gi (wI h 132 0 (min (gi h 132 0) (gi h 132 1))) 132 0 = (min (gi h 132 0) (gi h 132 1)) from gi_same (by omega)]
            simp only [ge _ (show 8 < 9 by omega), ge _ (show 7 < 9 by omega), ge _ (show 0 < 9 by omega), ge _ (show 1 < 9 by omega)]
          · rw [if_neg q8, if_pos ⟨by show 1 ≤ l; omega, by show l < 1 + 7; omega⟩]
            refine (gi_to (show (Int.toNat 2 + (l - Int.toNat 1)) = l + 1 by show 2 + (l - 1) = _; omega)).trans ((gi_k (by omega) _).trans (ge _ (by omega)))
      exact x_vret hK rfl ⟨rfl, GD_w0 (hG724) (r := 46) rfl rfl, FRM_w ((FRM_w ((FRM.rf : FRM gRL [(0, 46, 0, 8)] h h)) (r := 46) rfl rfl).trans ((hF724).mono rfl)) (r := 46) rfl rfl, lv_eq (gbV_r hr) cell (gbV_out _ _ _)⟩
  · refine x_aload_n 5 hK rfl rfl rfl ?_
    refine x_getR 8 hK rfl rfl (sp_127 (h := h) hG) (rf_127_4 (h := h) hG) ?_
    refine x_bipush 10 hK rfl rfl rfl ?_
    refine x_aload_n 11 hK rfl rfl rfl ?_
    refine x_getR 14 hK rfl rfl (sp_127 (h := h) hG) (rf_127_4 (h := h) hG) ?_
    refine x_bipush 16 hK rfl rfl rfl ?_
    have g725 := gi_r h 132 8
    refine x_ialoadE 17 hK rfl rfl (sp_132 (h := h) hG) (by omega) (by omega) (by omega) (e' := (gi h 132 8)) (rfl) ?_
    refine x_aload_n 18 hK rfl rfl rfl ?_
    refine x_getR 21 hK rfl rfl (sp_127 (h := h) hG) (rf_127_4 (h := h) hG) ?_
    refine x_bipush 23 hK rfl rfl rfl ?_
    have g726 := gi_r h 132 7
    refine x_ialoadE 24 hK rfl rfl (sp_132 (h := h) hG) (by omega) (by omega) (by omega) (e' := (gi h 132 7)) (rfl) ?_
    refine x_min 27 hK rfl rfl (Nat.le_of_ble_eq_true rfl) (by omega) (by omega) ?_
    refine x_iastore 28 hK rfl rfl (sp_132 (h := h) hG) (by omega) (by omega) (by omega) ?_
    refine x_aload_n 29 hK rfl rfl rfl ?_
    refine x_getR 32 hK rfl rfl (sp_127 (h := h) hG) (rf_127_4 (h := h) hG) ?_
    refine x_iconst 33 hK rfl rfl ?_
    refine x_aload_n 34 hK rfl rfl rfl ?_
    refine x_getR 37 hK rfl rfl (sp_127 (h := h) hG) (rf_127_4 (h := h) hG) ?_
    refine x_iconst 38 hK rfl rfl ?_
    refine x_bipush 40 hK rfl rfl rfl ?_
    refine x_acp 43 hK rfl rfl (by decide) (sp_132 (h := h) hG) (sp_132 (h := h) hG) (by omega) (by omega) (by omega) (by omega) (by omega) ?_
    change K 43 _ _ (sC (wI h 132 8 (min (gi h 132 8) (gi h 132 7))) 132 (Int.toNat 0) 132 (Int.toNat 1) (Int.toNat 7)) _ _
    obtain ⟨h727, e727⟩ : ∃ z, z = sC (wI h 132 8 (min (gi h 132 8) (gi h 132 7))) 132 (Int.toNat 0) 132 (Int.toNat 1) (Int.toNat 7) := ⟨_, rfl⟩
    rw [← e727]
    have hG727 : GD gE gRL sh h727 := by rw [e727]; exact GD_C (GD_w0 (hG) (r := 46) rfl rfl) (r := 46) rfl rfl
    have hF727 : FRM gRL [(0, 46, 0, 8)] (wI h 132 8 (min (gi h 132 8) (gi h 132 7))) h727 := by rw [e727]; exact FRM_C FRM.rf (r := 46) rfl fun k k1 k2 => mIn_r (x := 0) (y := 8) (by decide) k (by omega) (by omega)
    have oc727 : ∀ a9 k9, a9 ≠ 132 → gi h727 a9 k9 = gi (wI h 132 8 (min (gi h 132 8) (gi h 132 7))) a9 k9 := fun a9 k9 ha => by rw [e727]; exact gi_sCn ha k9
    have cc727 : ∀ j9, gi h727 132 j9 = if (Int.toNat 1) ≤ j9 ∧ j9 < (Int.toNat 1) + (Int.toNat 7) then gi (wI h 132 8 (min (gi h 132 8) (gi h 132 7))) 132 ((Int.toNat 0) + (j9 - (Int.toNat 1))) else gi (wI h 132 8 (min (gi h 132 8) (gi h 132 7))) 132 j9 := fun j9 => by rw [e727]; exact gi_sC j9
    refine x_aload_n 44 hK rfl rfl rfl ?_
    refine x_getR 47 hK rfl rfl (sp_127 (h := h727) hG727) (rf_127_4 (h := h727) hG727) ?_
    refine x_iconst 48 hK rfl rfl ?_
    refine x_sipush 51 hK rfl rfl rfl ?_
    refine x_iastore 52 hK rfl rfl (sp_132 (h := h727) hG727) (by omega) (by omega) (by omega) ?_
    refine x_goto 105 hK rfl rfl ?_
    have cell : ∀ l, l < 9 → gi (wI h727 132 0 1000) 132 l = gbV v false (LV h 132) l := fun l hl => by
      rw [show gbV v false (LV h 132) l = _ from gb_upv hr l hl (by omega)]
      by_cases q : l = 0
      · rw [if_pos q, q]
        exact gi_same (by omega)
      · rw [if_neg q, show gi (wI h727 132 0 1000) 132 l = gi h727 132 l from gi_k q _, cc727 l]
        by_cases q8 : l = 8
        · rw [if_pos q8, if_neg (fun z => by have z1 := z.1; have z2 := z.2; omega), q8]
          rw [show gi (wI h 132 8 (min (gi h 132 8) (gi h 132 7))) 132 8 = (min (gi h 132 8) (gi h 132 7)) from gi_same (by omega)]
          simp only [ge _ (show 8 < 9 by omega), ge _ (show 7 < 9 by omega), ge _ (show 0 < 9 by omega), ge _ (show 1 < 9 by omega)]
        · rw [if_neg q8, if_pos ⟨by show 1 ≤ l; omega, by show l < 1 + 7; omega⟩]
          refine (gi_to (show (Int.toNat 0 + (l - Int.toNat 1)) = l - 1 by show 0 + (l - 1) = _; omega)).trans ((gi_k (by omega) _).trans (ge _ (by omega)))
    exact x_vret hK rfl ⟨rfl, GD_w0 (hG727) (r := 46) rfl rfl, FRM_w ((FRM_w ((FRM.rf : FRM gRL [(0, 46, 0, 8)] h h)) (r := 46) rfl rfl).trans ((hF727).mono rfl)) (r := 46) rfl rfl, lv_eq (gbV_r hr) cell (gbV_out _ _ _)⟩
set_option maxRecDepth 4000 in
theorem ctX0_doChosen0 {SP : CT} (hSP : MONO SP) {sh : List (Nat × Nat)} {h : aH} (hG : GD gE gRL sh h) : CLd SP 2 mX0_doChosen [.ref 127, .int (I 0)] h 0 0 (fun rv h' => h' = h ∧ rv = none) := by
  refine x_met _ rfl (Nat.le_of_ble_eq_true rfl) (fun K hK => ?_)
  have hmono := MONO_CLd hSP 1
  refine x_iload_n 1 hK rfl rfl rfl ?_
  refine x_iconst 2 hK rfl rfl ?_
  refine x_if_icmp_ne 78 5 hK rfl rfl rfl (by omega) (by omega) (fun _ => ?_) (fun c => by omega)
  refine x_iload_n 79 hK rfl rfl rfl ?_
  refine x_if_eq 123 82 hK rfl rfl rfl (by omega) (fun _ => ?_) (fun c => by omega)
  exact x_vret hK rfl ⟨rfl, rfl⟩
set_option maxRecDepth 4000 in
theorem ctX0_doChosen2 {SP : CT} (hSP : MONO SP) {sh : List (Nat × Nat)} {h : aH} (hG : GD gE gRL sh h) (hr : rgV (LV h 132)) : CLd SP 2 mX0_doChosen [.ref 127, .int (I 2)] h 0 0 (fun rv h' => rv = none ∧ GD gE gRL sh h' ∧ FRM gRL [(0, 46, 0, 8)] h h' ∧ (LV h' 132) = gbV 0 true (LV h 132)) := by
  refine x_met _ rfl (Nat.le_of_ble_eq_true rfl) (fun K hK => ?_)
  have hmono := MONO_CLd hSP 1
  have loop : ∀ (mz : Nat) (b_ i : Int) (h4 : aH) (ls : List (Nat × Value)), ((9 - i).toNat = mz) → (0 ≤ i ∧ i ≤ 9) → (b_ = if i.toNat = 0 then 1000 else (LV h 132) (i.toNat - 1)) → (∀ l : Nat, (l : Int) < i → gi h4 132 l = gbV 0 true (LV h 132) l) → (∀ l : Nat, i ≤ l → l < 9 → gi h4 132 l = (LV h 132) l) → lk ls 0 = some (.ref 127) → lk ls 1 = some (.int (I 2)) → lk ls 2 = some (.int (I b_)) → lk ls 3 = some (.int (I i)) → GD gE gRL sh h4 → FRM gRL [(0, 46, 0, 8)] h h4 → K 11 ls [] h4 0 0 := by
    intro mz
    induction mz using Nat.strongRecOn with
    | ind mz ih =>
    intro b_ i h4 ls hm i0 b0 dn od l0 l1 l2 l3 hG4 hF4
    have a0 := hr i.toNat
    have a1 := hr (i.toNat + 1)
    have bb : 0 ≤ b_ ∧ b_ ≤ 1000 := by
      rw [b0]
      have := hr (i.toNat - 1)
      split <;> omega
    have an := fun z : i < 9 => gb_an (v := 0) hr i.toNat (by omega)
    refine x_iload_n 12 hK rfl rfl l3 ?_
    refine x_bipush 14 hK rfl rfl rfl ?_
    refine x_if_icmp_gt 75 17 hK rfl rfl rfl (by omega) (by omega) (fun c3 => ?_) (fun c3 => ?_)
    · refine x_goto 123 hK rfl rfl ?_
      exact x_vret hK rfl ⟨rfl, hG4, hF4, lv_eq (gbV_r hr) (fun l hl => dn l (by omega)) (gbV_out _ _ _)⟩
    · refine x_aload_n 18 hK rfl rfl l0 ?_
      refine x_getR 21 hK rfl rfl (sp_127 (h := h4) hG4) (rf_127_4 (h := h4) hG4) ?_
      refine x_iload_n 22 hK rfl rfl l3 ?_
      refine x_ialoadE 23 hK rfl rfl (sp_132 (h := h4) hG4) (by omega) (by omega) (by omega) (e' := ((LV h 132) i.toNat)) ((od i.toNat (by omega) (by omega))) ?_
      refine x_istore 25 hK rfl rfl _ rfl ?_
      refine x_iload_n 26 hK rfl rfl (lk1_n l3 (by decide) (Or.inl rfl)) ?_
      refine x_bipush 28 hK rfl rfl rfl ?_
      refine x_if_icmp_ge 42 31 hK rfl rfl rfl (by omega) (by omega) (fun c13 => ?_) (fun c13 => ?_)
      · refine x_sipush 45 hK rfl rfl rfl ?_
        refine x_istore 47 hK rfl rfl _ rfl ?_
        refine x_aload_n 48 hK rfl rfl (lk1_n (lk1_n l0 (by decide) (Or.inl rfl)) (by decide) (Or.inl rfl)) ?_
        refine x_getR 51 hK rfl rfl (sp_127 (h := h4) hG4) (rf_127_4 (h := h4) hG4) ?_
        refine x_iload_n 52 hK rfl rfl (lk1_n (lk1_n l3 (by decide) (Or.inl rfl)) (by decide) (Or.inl rfl)) ?_
        refine x_iload 54 hK rfl rfl (lk1_n lk1_s (by decide) (Or.inl rfl)) ?_
        refine x_iconst 55 hK rfl rfl ?_
        refine x_iload_n 56 hK rfl rfl (lk1_n (lk1_n l2 (by decide) (Or.inl rfl)) (by decide) (Or.inl rfl)) ?_
        refine x_iload 58 hK rfl rfl lk1_s ?_
        refine x_min 61 hK rfl rfl (Nat.le_of_ble_eq_true rfl) (by omega) (by omega) ?_
        refine x_iadd 62 hK rfl rfl ?_
        refine x_min 65 hK rfl rfl (Nat.le_of_ble_eq_true rfl) (by omega) (by omega) ?_
        refine x_iastore 66 hK rfl rfl (sp_132 (h := h4) hG4) (by omega) (by omega) (by omega) ?_
        refine x_iload 68 hK rfl rfl (lk1_n lk1_s (by decide) (Or.inl rfl)) ?_
        refine x_istore_n 69 hK rfl rfl _ rfl ?_
        refine x_iinc 72 hK rfl rfl (lk1_n (lk1_n (lk1_n l3 (by decide) (Or.inl rfl)) (by decide) (Or.inl rfl)) (by decide) (Or.inl rfl)) _ rfl ?_
        refine x_goto 11 hK rfl rfl ?_
        have nn : ∀ l : Nat, (l : Int) < i + 1 → gi (wI h4 132 i.toNat (min ((LV h 132) i.toNat) (1 + (min b_ 1000)))) 132 l = gbV 0 true (LV h 132) l := fun l hl => by
          by_cases q : l = i.toNat
          · rw [q, an (by omega), ← b0, if_pos (by omega)]
            exact gi_same (by omega)
          · exact (gi_k q _).trans (dn l (by omega))
        exact ih _ (by omega) ((LV h 132) i.toNat) (i + 1) _ _ rfl (by omega) (by rw [if_neg (by omega), show (i + 1).toNat - 1 = i.toNat by omega]) (nn) (fun l h1 h2 => (gi_k (by omega) _).trans (od l (by omega) h2)) (lk1_n (lk1_n (lk1_n (lk1_n l0 (by decide) (Or.inl rfl)) (by decide) (Or.inl rfl)) (by decide) (Or.inl rfl)) (by decide) (Or.inl rfl)) (lk1_n (lk1_n (lk1_n (lk1_n l1 (by decide) (Or.inl rfl)) (by decide) (Or.inl rfl)) (by decide) (Or.inl rfl)) (by decide) (Or.inl rfl)) (lk1_n lk1_s (by decide) (Or.inl rfl)) lk1_s (GD_wn (hG4) (r := 46) rfl rfl) (FRM_wn 0 8 (hF4) (r := 46) rfl rfl rfl (by omega) (by omega))
      · refine x_aload_n 32 hK rfl rfl (lk1_n l0 (by decide) (Or.inl rfl)) ?_
        refine x_getR 35 hK rfl rfl (sp_127 (h := h4) hG4) (rf_127_4 (h := h4) hG4) ?_
        refine x_iload_n 36 hK rfl rfl (lk1_n l3 (by decide) (Or.inl rfl)) ?_
        refine x_iconst 37 hK rfl rfl ?_
        refine x_iadd 38 hK rfl rfl ?_
        refine x_ialoadE 39 hK rfl rfl (sp_132 (h := h4) hG4) (by omega) (by omega) (by omega) (e' := ((LV h 132) (i.toNat + 1))) (((gi_to (show (i + 1).toNat = i.toNat + 1 by omega)).trans (od (i.toNat + 1) (by omega) (by omega)))) ?_
        refine x_goto 45 hK rfl rfl ?_
        refine x_istore 47 hK rfl rfl _ rfl ?_
        refine x_aload_n 48 hK rfl rfl (lk1_n (lk1_n l0 (by decide) (Or.inl rfl)) (by decide) (Or.inl rfl)) ?_
        refine x_getR 51 hK rfl rfl (sp_127 (h := h4) hG4) (rf_127_4 (h := h4) hG4) ?_
        refine x_iload_n 52 hK rfl rfl (lk1_n (lk1_n l3 (by decide) (Or.inl rfl)) (by decide) (Or.inl rfl)) ?_
        refine x_iload 54 hK rfl rfl (lk1_n lk1_s (by decide) (Or.inl rfl)) ?_
        refine x_iconst 55 hK rfl rfl ?_
        refine x_iload_n 56 hK rfl rfl (lk1_n (lk1_n l2 (by decide) (Or.inl rfl)) (by decide) (Or.inl rfl)) ?_
        refine x_iload 58 hK rfl rfl lk1_s ?_
        refine x_min 61 hK rfl rfl (Nat.le_of_ble_eq_true rfl) (by omega) (by omega) ?_
        refine x_iadd 62 hK rfl rfl ?_
        refine x_min 65 hK rfl rfl (Nat.le_of_ble_eq_true rfl) (by omega) (by omega) ?_
        refine x_iastore 66 hK rfl rfl (sp_132 (h := h4) hG4) (by omega) (by omega) (by omega) ?_
        refine x_iload 68 hK rfl rfl (lk1_n lk1_s (by decide) (Or.inl rfl)) ?_
        refine x_istore_n 69 hK rfl rfl _ rfl ?_
        refine x_iinc 72 hK rfl rfl (lk1_n (lk1_n (lk1_n l3 (by decide) (Or.inl rfl)) (by decide) (Or.inl rfl)) (by decide) (Or.inl rfl)) _ rfl ?_
        refine x_goto 11 hK rfl rfl ?_
        have nn : ∀ l : Nat, (l : Int) < i + 1 → gi (wI h4 132 i.toNat (min ((LV h 132) i.toNat) (1 + (min b_ ((LV h 132) (i.toNat + 1)))))) 132 l = gbV 0 true (LV h 132) l := fun l hl => by
          by_cases q : l = i.toNat
          · rw [q, an (by omega), ← b0, if_neg (by omega)]
            exact gi_same (by omega)
          · exact (gi_k q _).trans (dn l (by omega))
        exact ih _ (by omega) ((LV h 132) i.toNat) (i + 1) _ _ rfl (by omega) (by rw [if_neg (by omega), show (i + 1).toNat - 1 = i.toNat by omega]) (nn) (fun l h1 h2 => (gi_k (by omega) _).trans (od l (by omega) h2)) (lk1_n (lk1_n (lk1_n (lk1_n l0 (by decide) (Or.inl rfl)) (by decide) (Or.inl rfl)) (by decide) (Or.inl rfl)) (by decide) (Or.inl rfl)) (lk1_n (lk1_n (lk1_n (lk1_n l1 (by decide) (Or.inl rfl)) (by decide) (Or.inl rfl)) (by decide) (Or.inl rfl)) (by decide) (Or.inl rfl)) (lk1_n lk1_s (by decide) (Or.inl rfl)) lk1_s (GD_wn (hG4) (r := 46) rfl rfl) (FRM_wn 0 8 (hF4) (r := 46) rfl rfl rfl (by omega) (by omega))
  refine x_iload_n 1 hK rfl rfl rfl ?_
  refine x_iconst 2 hK rfl rfl ?_
  refine x_if_icmp_ne 78 5 hK rfl rfl rfl (by omega) (by omega) (fun c => by omega) (fun _ => ?_)
  refine x_sipush 8 hK rfl rfl rfl ?_
  refine x_istore_n 9 hK rfl rfl [(2, .int (I 1000)), (0, .ref 127), (1, .int (I 2))] rfl ?_
  refine x_iconst 10 hK rfl rfl ?_
  refine x_istore_n 11 hK rfl rfl [(3, .int (I 0)), (2, .int (I 1000)), (0, .ref 127), (1, .int (I 2))] rfl ?_
  exact loop _ 1000 0 _ _ rfl (by omega) (rfl) (fun l hl => absurd hl (by omega)) (fun l _ h2 => (LV_at h2).symm) rfl rfl rfl rfl (hG) ((FRM.rf : FRM gRL [(0, 46, 0, 8)] h h))
set_option maxRecDepth 4000 in
theorem ctX0_freeOrdersF {SP : CT} (hSP : MONO SP) {sh : List (Nat × Nat)} {h : aH} (hG : GD gE gRL sh h) {f n : Int} (hf : 0 ≤ f ∧ f ≤ 30) (hn : 0 ≤ n ∧ n ≤ 30) : CLd SP 1 mX0_freeOrders [.ref 127, .int (I f), .int (I n)] h 0 0 (fun rv h' => rv = none ∧ GD gE gRL sh h' ∧ FRM gRL [(0, 45, 0, 29)] h h' ∧ ∀ j : Nat, (j : Int) < n → gi h' 131 j = if f ≤ (j : Int) ∧ gi h 128 j ≤ n then 2 else 0) := by
  refine x_met _ rfl (Nat.le_of_ble_eq_true rfl) (fun K hK => ?_)
  have hmono := MONO_CLd hSP 0
  have loop : ∀ (mz : Nat) (i : Int) (h4 : aH) (ls : List (Nat × Value)), ((n - i).toNat = mz) → (0 ≤ i ∧ i ≤ n) → (∀ j : Nat, (j : Int) < i → gi h4 131 j = if f ≤ (j : Int) ∧ gi h 128 j ≤ n then 2 else 0) → lk ls 0 = some (.ref 127) → lk ls 1 = some (.int (I f)) → lk ls 2 = some (.int (I n)) → lk ls 3 = some (.int (I i)) → GD gE gRL sh h4 → FRM gRL [(0, 45, 0, 29)] h h4 → K 2 ls [] h4 0 0 := by
    intro mz
    induction mz using Nat.strongRecOn with
    | ind mz ih =>
    intro i h4 ls hm i0 dn l0 l1 l2 l3 hG4 hF4
    refine x_iload_n 3 hK rfl rfl l3 ?_
    refine x_iload_n 4 hK rfl rfl l2 ?_
    refine x_if_icmp_ge 39 7 hK rfl rfl rfl (by omega) (by omega) (fun c3 => ?_) (fun c3 => ?_)
    · exact x_vret hK rfl ⟨rfl, hG4, hF4, fun j hj => dn j (by omega)⟩
    · refine x_aload_n 8 hK rfl rfl l0 ?_
      refine x_getR 11 hK rfl rfl (sp_127 (h := h4) hG4) (rf_127_3 (h := h4) hG4) ?_
      refine x_iload_n 12 hK rfl rfl l3 ?_
      refine x_iload_n 13 hK rfl rfl l3 ?_
      refine x_iload_n 14 hK rfl rfl l1 ?_
      refine x_if_icmp_lt 31 17 hK rfl rfl rfl (by omega) (by omega) (fun c10 => ?_) (fun c10 => ?_)
      · refine x_iconst 32 hK rfl rfl ?_
        refine x_iastore 33 hK rfl rfl (sp_131 (h := h4) hG4) (by omega) (by omega) (by omega) ?_
        refine x_iinc 36 hK rfl rfl l3 _ rfl ?_
        refine x_goto 2 hK rfl rfl ?_
        have nn : ∀ j : Nat, (j : Int) < i + 1 → gi (wI h4 131 i.toNat 0) 131 j = if f ≤ (j : Int) ∧ gi h 128 j ≤ n then 2 else 0 := fun j hj => by
          by_cases q : j = i.toNat
          · rw [q, if_neg (fun z => by have z1 := z.1; have z2 := z.2; omega)]
            exact gi_same (by omega)
          · exact (gi_k q _).trans (dn j (by omega))
        exact ih _ (by omega) (i + 1) _ _ rfl (by omega) (nn) (lk1_n l0 (by decide) (Or.inl rfl)) (lk1_n l1 (by decide) (Or.inl rfl)) (lk1_n l2 (by decide) (Or.inl rfl)) lk1_s (GD_wn (hG4) (r := 45) rfl rfl) (FRM_wn 0 29 (hF4) (r := 45) rfl rfl rfl (by omega) (by omega))
      · refine x_aload_n 18 hK rfl rfl l0 ?_
        refine x_getR 21 hK rfl rfl (sp_127 (h := h4) hG4) (rf_127_0 (h := h4) hG4) ?_
        refine x_iload_n 22 hK rfl rfl l3 ?_
        have g728 := gi_r h 128 i.toNat
        refine x_ialoadE 23 hK rfl rfl (sp_128 (h := h4) hG4) (by omega) (by omega) (by omega) (e' := (gi h 128 i.toNat)) (FRM_gi hF4 (r := 42) rfl rfl) ?_
        refine x_iload_n 24 hK rfl rfl l2 ?_
        refine x_if_icmp_gt 31 27 hK rfl rfl rfl (by omega) (by omega) (fun c21 => ?_) (fun c21 => ?_)
        · refine x_iconst 32 hK rfl rfl ?_
          refine x_iastore 33 hK rfl rfl (sp_131 (h := h4) hG4) (by omega) (by omega) (by omega) ?_
          refine x_iinc 36 hK rfl rfl l3 _ rfl ?_
          refine x_goto 2 hK rfl rfl ?_
          have nn : ∀ j : Nat, (j : Int) < i + 1 → gi (wI h4 131 i.toNat 0) 131 j = if f ≤ (j : Int) ∧ gi h 128 j ≤ n then 2 else 0 := fun j hj => by
            by_cases q : j = i.toNat
            · rw [q, if_neg (fun z => by have z1 := z.1; have z2 := z.2; omega)]
              exact gi_same (by omega)
            · exact (gi_k q _).trans (dn j (by omega))
          exact ih _ (by omega) (i + 1) _ _ rfl (by omega) (nn) (lk1_n l0 (by decide) (Or.inl rfl)) (lk1_n l1 (by decide) (Or.inl rfl)) (lk1_n l2 (by decide) (Or.inl rfl)) lk1_s (GD_wn (hG4) (r := 45) rfl rfl) (FRM_wn 0 29 (hF4) (r := 45) rfl rfl rfl (by omega) (by omega))
        · refine x_iconst 28 hK rfl rfl ?_
          refine x_goto 32 hK rfl rfl ?_
          refine x_iastore 33 hK rfl rfl (sp_131 (h := h4) hG4) (by omega) (by omega) (by omega) ?_
          refine x_iinc 36 hK rfl rfl l3 _ rfl ?_
          refine x_goto 2 hK rfl rfl ?_
          have nn : ∀ j : Nat, (j : Int) < i + 1 → gi (wI h4 131 i.toNat 2) 131 j = if f ≤ (j : Int) ∧ gi h 128 j ≤ n then 2 else 0 := fun j hj => by
            by_cases q : j = i.toNat
            · rw [q, if_pos ⟨by omega, by omega⟩]
              exact gi_same (by omega)
            · exact (gi_k q _).trans (dn j (by omega))
          exact ih _ (by omega) (i + 1) _ _ rfl (by omega) (nn) (lk1_n l0 (by decide) (Or.inl rfl)) (lk1_n l1 (by decide) (Or.inl rfl)) (lk1_n l2 (by decide) (Or.inl rfl)) lk1_s (GD_wn (hG4) (r := 45) rfl rfl) (FRM_wn 0 29 (hF4) (r := 45) rfl rfl rfl (by omega) (by omega))
  refine x_iconst 1 hK rfl rfl ?_
  refine x_istore_n 2 hK rfl rfl [(3, .int (I 0)), (0, .ref 127), (1, .int (I f)), (2, .int (I n))] rfl ?_
  exact loop _ 0 _ _ rfl (by omega) (fun j hj => absurd hj (by omega)) rfl rfl rfl rfl (hG) ((FRM.rf : FRM gRL [(0, 45, 0, 29)] h h))
set_option maxRecDepth 4000 in
theorem ctX0_fewestOrdersF {SP : CT} (hSP : MONO SP) {sh : List (Nat × Nat)} {h : aH} (hG : GD gE gRL sh h) {L : List (Int × Int × Int)} {now last l f n : Int} {dl : Int → Int} {hit : Int → Nat → Int} (en : gi h 23 0 = now) (eo : kO h 23 (gi h 23 4).toNat = srt L) (hd : ∀ s, 1 ≤ dl s ∧ dl s ≤ 12) (nr : 0 ≤ now ∧ now ≤ 1000000) (hr : ∀ i : Nat, (i : Int) < gi h 23 4 → now < gi h 24 i ∧ gi h 24 i ≤ now + 12 ∧ -1 ≤ gi h 25 i ∧ gi h 25 i ≤ 1) (dn : ∀ j : Nat, j < 30 → gi h 128 j = j + dl (now + j)) (ef : f = if last = now then 1 else 0) (hn : 0 ≤ n ∧ n ≤ 30) (rk : ∀ t : Nat, 1 ≤ t → t ≤ 30 → RB (gi h 129 t) (hit t)) (cz : ∀ j : Nat, (j : Int) < n → gi h 131 j = if f ≤ (j : Int) ∧ gi h 128 j ≤ n then 2 else 0) : CLd SP 3 mX0_fewestOrders [.ref 127, .ref 23, .int (I n)] h 0 0 (fun rv h' => rv = some (.int (I (fwN (XS 0 l hit L now last dl (gi h 23 1) n.toNat) 9))) ∧ GD gE gRL sh h' ∧ FRM gRL [(0, 46, 0, 8)] h h') := by
  refine x_met _ rfl (Nat.le_of_ble_eq_true rfl) (fun K hK => ?_)
  have hmono := MONO_CLd hSP 2
  have g4 := gri 0 12 hG (a := 23) (r := 17) (k := 4) rfl rfl
  have gl0 := gri 0 8 hG (a := 23) (r := 17) (k := 1) rfl rfl
  have fb : (f = 0 ∧ last ≠ now) ∨ (f = 1 ∧ last = now) := by
    rw [ef]
    split
    · exact Or.inr ⟨rfl, by assumption⟩
    · exact Or.inl ⟨rfl, by assumption⟩
  have so : ∀ i j : Nat, i ≤ j → (j : Int) < gi h 23 4 → gi h 24 i ≤ gi h 24 j := fun i j h1 h2 => by
    have z := SRT_at (K := kO h 23 (gi h 23 4).toNat) (by rw [eo]; exact srt_SRT L) h1 (kO_at (h := h) (c := 23) (n := (gi h 23 4).toNat) (j := i) (by omega)) (kO_at (h := h) (c := 23) (n := (gi h 23 4).toNat) (j := j) (by omega))
    exact z
  have least : ∀ (mz : Nat) (e i : Int) (h8 : aH) (ls : List (Nat × Value)), ((9 - i).toNat = mz) → (0 ≤ i ∧ i ≤ 9) → (LV h8 132 = (XS 0 l hit L now last dl (gi h 23 1) n.toNat)) → (e = fwN (XS 0 l hit L now last dl (gi h 23 1) n.toNat) i.toNat) → lk ls 0 = some (.ref 127) → lk ls 1 = some (.ref 23) → lk ls 2 = some (.int (I n)) → lk ls 4 = some (.int (I e)) → lk ls 5 = some (.int (I i)) → GD gE gRL sh h8 → FRM gRL [(0, 46, 0, 8)] h h8 → K 184 ls [] h8 0 0 := by
    intro mz
    induction mz using Nat.strongRecOn with
    | ind mz ih =>
    intro e i h8 ls hm i0 lv ee l0 l1 l2 l4 l5 hG8 hF8
    have fb2 := fwN_r (XS_r (a := 0) (l := l) (hit := hit) (L := L) (now := now) (last := last) (dl := dl) (l0 := gi h 23 1) n.toNat) i.toNat
    have le : i < 9 → (XS 0 l hit L now last dl (gi h 23 1) n.toNat) i.toNat = gi h8 132 i.toNat := fun z => by rw [← lv, LV_at (by omega)]
    refine x_iload 186 hK rfl rfl l5 ?_
    refine x_bipush 188 hK rfl rfl rfl ?_
    refine x_if_icmp_gt 211 191 hK rfl rfl rfl (by omega) (by omega) (fun c3 => ?_) (fun c3 => ?_)
    · refine x_iload 213 hK rfl rfl l4 ?_
      exact x_iret hK rfl ⟨by rw [ee, show i.toNat = 9 by omega], hG8, hF8⟩
    · refine x_iload 193 hK rfl rfl l4 ?_
      refine x_aload_n 194 hK rfl rfl l0 ?_
      refine x_getR 197 hK rfl rfl (sp_127 (h := h8) hG8) (rf_127_4 (h := h8) hG8) ?_
      refine x_iload 199 hK rfl rfl l5 ?_
      have g729 := gi_r h8 132 i.toNat
      refine x_ialoadE 200 hK rfl rfl (sp_132 (h := h8) hG8) (by omega) (by omega) (by omega) (e' := (gi h8 132 i.toNat)) (rfl) ?_
      refine x_min 203 hK rfl rfl (Nat.le_of_ble_eq_true rfl) (by omega) (by omega) ?_
      refine x_istore 205 hK rfl rfl _ rfl ?_
      refine x_iinc 208 hK rfl rfl (lk1_n l5 (by decide) (Or.inl rfl)) _ rfl ?_
      refine x_goto 184 hK rfl rfl ?_
      exact ih _ (by omega) (min e (gi h8 132 i.toNat)) (i + 1) _ _ rfl (by omega) (lv) (by rw [fwN_s i0.1, ee, le (by omega)]) (lk1_n (lk1_n l0 (by decide) (Or.inl rfl)) (by decide) (Or.inl rfl)) (lk1_n (lk1_n l1 (by decide) (Or.inl rfl)) (by decide) (Or.inl rfl)) (lk1_n (lk1_n l2 (by decide) (Or.inl rfl)) (by decide) (Or.inl rfl)) (lk1_n lk1_s (by decide) (Or.inl rfl)) lk1_s (hG8) (hF8)
  have loop : ∀ (mz : Nat) (nx t : Int) (h4 : aH) (ls : List (Nat × Value)), ((n + 1 - t).toNat = mz) → (1 ≤ t ∧ t ≤ n + 1) → (0 ≤ nx ∧ nx ≤ gi h 23 4) → (∀ i : Nat, (i : Int) < nx → gi h 24 i < now + t) → (∀ i : Nat, nx ≤ i → (i : Int) < gi h 23 4 → now + t ≤ gi h 24 i) → (LV h4 132 = (XS 0 l hit L now last dl (gi h 23 1) (t - 1).toNat)) → lk ls 0 = some (.ref 127) → lk ls 1 = some (.ref 23) → lk ls 2 = some (.int (I n)) → lk ls 3 = some (.int (I nx)) → lk ls 4 = some (.int (I t)) → GD gE gRL sh h4 → FRM gRL [(0, 46, 0, 8)] h h4 → K 25 ls [] h4 0 0 := by
    intro mz
    induction mz using Nat.strongRecOn with
    | ind mz ih =>
    intro nx t h4 ls hm t0 x0 lo hi lv l0 l1 l2 l3 l4 hG4 hF4
    have iht := ih
    have xr : rgV (XS 0 l hit L now last dl (gi h 23 1) (t - 1).toNat) := XS_r _
    have wr : rgV (opsF (chA 0) l hit (wyF L (now + t)) (XS 0 l hit L now last dl (gi h 23 1) (t - 1).toNat)) := opsF_r _ _ xr
    have yr : rgV (opsF (chA 0) l hit (blkC now last dl t t.toNat) (opsF (chA 0) l hit (wyF L (now + t)) (XS 0 l hit L now last dl (gi h 23 1) (t - 1).toNat))) := opsF_r _ _ wr
    have rocks : ∀ (mz : Nat) (nz i : Int) (h7 : aH) (ls : List (Nat × Value)), ((9 - i).toNat = mz) → (t ≤ n) → (0 ≤ nz ∧ nz ≤ gi h 23 4) → (∀ q : Nat, (q : Int) < nz → gi h 24 q < now + (t + 1)) → (∀ q : Nat, nz ≤ q → (q : Int) < gi h 23 4 → now + (t + 1) ≤ gi h 24 q) → (0 ≤ i ∧ i ≤ 9) → (∀ l9 : Nat, l9 < 9 → gi h7 132 l9 = if (l9 : Int) < i ∧ 0 < hit t l9 then 1000 else (opsF (chA 0) l hit (blkC now last dl t t.toNat) (opsF (chA 0) l hit (wyF L (now + t)) (XS 0 l hit L now last dl (gi h 23 1) (t - 1).toNat))) l9) → lk ls 0 = some (.ref 127) → lk ls 1 = some (.ref 23) → lk ls 2 = some (.int (I n)) → lk ls 3 = some (.int (I nz)) → lk ls 4 = some (.int (I t)) → lk ls 5 = some (.int (I i)) → GD gE gRL sh h7 → FRM gRL [(0, 46, 0, 8)] h h7 → K 121 ls [] h7 0 0 := by
      intro mz
      induction mz using Nat.strongRecOn with
      | ind mz ih =>
      intro nz i h7 ls hm t1 z0 lo3 hi3 i0 lr l0 l1 l2 l3 l4 l5 hG7 hF7
      have yi := yr i.toNat
      have rt := rk t.toNat (by omega) (by omega)
      rw [show ((t.toNat : Nat) : Int) = t by omega] at rt
      have rb := fun z : i < 9 => rt.2 i.toNat (by omega)
      unfold bitS at rb
      rw [show ((i.toNat : Nat) : Int) = i by omega] at rb
      refine x_iload 123 hK rfl rfl l5 ?_
      refine x_bipush 125 hK rfl rfl rfl ?_
      refine x_if_icmp_gt 170 128 hK rfl rfl rfl (by omega) (by omega) (fun c3 => ?_) (fun c3 => ?_)
      · refine x_iinc 173 hK rfl rfl l4 _ rfl ?_
        refine x_goto 25 hK rfl rfl ?_
        have lvn : LV h7 132 = (XS 0 l hit L now last dl (gi h 23 1) (t + 1 - 1).toNat) := by
          rw [show t + 1 - 1 = t by omega]
          refine lv_eq (XS_r _) (fun l9 hl => ?_) (XS_out gl0 _)
          rw [lr l9 hl, XS_t (t := t) (by omega), op_2]
          exact if_c ⟨fun z => z.2, fun z => ⟨by omega, z⟩⟩
        exact iht _ (by omega) nz (t + 1) _ _ rfl (by omega) (by omega) (lo3) (hi3) (lvn) (lk1_n l0 (by decide) (Or.inl rfl)) (lk1_n l1 (by decide) (Or.inl rfl)) (lk1_n l2 (by decide) (Or.inl rfl)) (lk1_n l3 (by decide) (Or.inl rfl)) lk1_s (hG7) (hF7)
      · refine x_aload_n 129 hK rfl rfl l0 ?_
        refine x_getR 132 hK rfl rfl (sp_127 (h := h7) hG7) (rf_127_4 (h := h7) hG7) ?_
        refine x_iload 134 hK rfl rfl l5 ?_
        refine x_aload_n 135 hK rfl rfl l0 ?_
        refine x_getR 138 hK rfl rfl (sp_127 (h := h7) hG7) (rf_127_1 (h := h7) hG7) ?_
        refine x_iload 140 hK rfl rfl l4 ?_
        have g730 := gi_r h 129 t.toNat
        refine x_ialoadE 141 hK rfl rfl (sp_129 (h := h7) hG7) (by omega) (by omega) (by omega) (e' := (gi h 129 t.toNat)) (FRM_gi hF7 (r := 43) rfl rfl) ?_
        refine x_iload 143 hK rfl rfl l5 ?_
        have g731 := bShr_r (gi h 129 t.toNat) i
        refine x_ishrF 144 hK rfl rfl ?_
        refine x_iconst 145 hK rfl rfl ?_
        have g732 := bAnd_r (bShr (gi h 129 t.toNat) i) 1
        refine x_iandF 146 hK rfl rfl ?_
        refine x_iconst 147 hK rfl rfl ?_
        refine x_if_icmp_ne 156 150 hK rfl rfl rfl (by omega) (by omega) (fun c19 => ?_) (fun c19 => ?_)
        · refine x_aload_n 157 hK rfl rfl l0 ?_
          refine x_getR 160 hK rfl rfl (sp_127 (h := h7) hG7) (rf_127_4 (h := h7) hG7) ?_
          refine x_iload 162 hK rfl rfl l5 ?_
          refine x_ialoadE 163 hK rfl rfl (sp_132 (h := h7) hG7) (by omega) (by omega) (by omega) (e' := ((opsF (chA 0) l hit (blkC now last dl t t.toNat) (opsF (chA 0) l hit (wyF L (now + t)) (XS 0 l hit L now last dl (gi h 23 1) (t - 1).toNat))) i.toNat)) (((lr i.toNat (by omega)).trans (if_neg (fun z => by have := z.1; omega)))) ?_
          refine x_iastore 164 hK rfl rfl (sp_132 (h := h7) hG7) (by omega) (by omega) (by omega) ?_
          refine x_iinc 167 hK rfl rfl l5 _ rfl ?_
          refine x_goto 121 hK rfl rfl ?_
          have hh : ¬ 0 < hit t i.toNat := fun z => absurd ((rb (by omega)).mpr z) (by omega)
          have nn : ∀ l9 : Nat, l9 < 9 → gi (wI h7 132 i.toNat ((opsF (chA 0) l hit (blkC now last dl t t.toNat) (opsF (chA 0) l hit (wyF L (now + t)) (XS 0 l hit L now last dl (gi h 23 1) (t - 1).toNat))) i.toNat)) 132 l9 = if (l9 : Int) < i + 1 ∧ 0 < hit t l9 then 1000 else (opsF (chA 0) l hit (blkC now last dl t t.toNat) (opsF (chA 0) l hit (wyF L (now + t)) (XS 0 l hit L now last dl (gi h 23 1) (t - 1).toNat))) l9 := fun l9 hl => by
            by_cases c : l9 = i.toNat
            · rw [c, if_neg (fun z => hh z.2)]
              exact gi_same (by omega)
            · rw [show gi (wI h7 132 i.toNat ((opsF (chA 0) l hit (blkC now last dl t t.toNat) (opsF (chA 0) l hit (wyF L (now + t)) (XS 0 l hit L now last dl (gi h 23 1) (t - 1).toNat))) i.toNat)) 132 l9 = gi h7 132 l9 from gi_k c _, lr l9 hl]
              exact if_c ⟨fun z => ⟨by omega, z.2⟩, fun z => ⟨by omega, z.2⟩⟩
          exact ih _ (by omega) nz (i + 1) _ _ rfl (t1) (by omega) (lo3) (hi3) (by omega) (nn) (lk1_n l0 (by decide) (Or.inl rfl)) (lk1_n l1 (by decide) (Or.inl rfl)) (lk1_n l2 (by decide) (Or.inl rfl)) (lk1_n l3 (by decide) (Or.inl rfl)) (lk1_n l4 (by decide) (Or.inl rfl)) lk1_s (GD_wn (hG7) (r := 46) rfl rfl) (FRM_wn 0 8 (hF7) (r := 46) rfl rfl rfl (by omega) (by omega))
        · refine x_sipush 153 hK rfl rfl rfl ?_
          refine x_goto 163 hK rfl rfl ?_
          refine x_iastore 164 hK rfl rfl (sp_132 (h := h7) hG7) (by omega) (by omega) (by omega) ?_
          refine x_iinc 167 hK rfl rfl l5 _ rfl ?_
          refine x_goto 121 hK rfl rfl ?_
          have hh : 0 < hit t i.toNat := (rb (by omega)).mp (by omega)
          have nn : ∀ l9 : Nat, l9 < 9 → gi (wI h7 132 i.toNat 1000) 132 l9 = if (l9 : Int) < i + 1 ∧ 0 < hit t l9 then 1000 else (opsF (chA 0) l hit (blkC now last dl t t.toNat) (opsF (chA 0) l hit (wyF L (now + t)) (XS 0 l hit L now last dl (gi h 23 1) (t - 1).toNat))) l9 := fun l9 hl => by
            by_cases c : l9 = i.toNat
            · rw [c, if_pos ⟨by omega, hh⟩]
              exact gi_same (by omega)
            · rw [show gi (wI h7 132 i.toNat 1000) 132 l9 = gi h7 132 l9 from gi_k c _, lr l9 hl]
              exact if_c ⟨fun z => ⟨by omega, z.2⟩, fun z => ⟨by omega, z.2⟩⟩
          exact ih _ (by omega) nz (i + 1) _ _ rfl (t1) (by omega) (lo3) (hi3) (by omega) (nn) (lk1_n l0 (by decide) (Or.inl rfl)) (lk1_n l1 (by decide) (Or.inl rfl)) (lk1_n l2 (by decide) (Or.inl rfl)) (lk1_n l3 (by decide) (Or.inl rfl)) (lk1_n l4 (by decide) (Or.inl rfl)) lk1_s (GD_wn (hG7) (r := 46) rfl rfl) (FRM_wn 0 8 (hF7) (r := 46) rfl rfl rfl (by omega) (by omega))
    have inner : ∀ (mz : Nat) (nz i : Int) (h6 : aH) (ls : List (Nat × Value)), ((t - i).toNat = mz) → (t ≤ n) → (0 ≤ nz ∧ nz ≤ gi h 23 4) → (∀ q : Nat, (q : Int) < nz → gi h 24 q < now + (t + 1)) → (∀ q : Nat, nz ≤ q → (q : Int) < gi h 23 4 → now + (t + 1) ≤ gi h 24 q) → (0 ≤ i ∧ t - 12 ≤ i ∧ i ≤ 30) → (LV h6 132 = opsF (chA 0) l hit (blkC now last dl t i.toNat) (opsF (chA 0) l hit (wyF L (now + t)) (XS 0 l hit L now last dl (gi h 23 1) (t - 1).toNat))) → lk ls 0 = some (.ref 127) → lk ls 1 = some (.ref 23) → lk ls 2 = some (.int (I n)) → lk ls 3 = some (.int (I nz)) → lk ls 4 = some (.int (I t)) → lk ls 5 = some (.int (I i)) → GD gE gRL sh h6 → FRM gRL [(0, 46, 0, 8)] h h6 → K 82 ls [] h6 0 0 := by
      intro mz
      induction mz using Nat.strongRecOn with
      | ind mz ih =>
      intro nz i h6 ls hm t1 z0 lo3 hi3 i0 lc l0 l1 l2 l3 l4 l5 hG6 hF6
      have r6 : rgV (LV h6 132) := by rw [lc]; exact opsF_r _ _ wr
      have dni : i < t → gi h 128 i.toNat = i + dl (now + i) := fun z => by
        have y := dn i.toNat (by omega)
        rw [show ((i.toNat : Nat) : Int) = i by omega] at y
        exact y
      have di := hd (now + i)
      have bn : (blkC now last dl t (i + 1).toNat) = (blkC now last dl t i.toNat) ++ if cmF now last dl i t = true then [(1, i)] else [] := by
        rw [tn_s (by omega)]
        show blkC now last dl t i.toNat ++ (if cmF now last dl ((i.toNat : Nat) : Int) t = true then [(1, ((i.toNat : Nat) : Int))] else []) = _
        rw [show ((i.toNat : Nat) : Int) = i by omega]
      refine x_iload 84 hK rfl rfl l5 ?_
      refine x_iload 86 hK rfl rfl l4 ?_
      refine x_if_icmp_ge 118 89 hK rfl rfl rfl (by omega) (by omega) (fun c3 => ?_) (fun c3 => ?_)
      · refine x_iconst 119 hK rfl rfl ?_
        refine x_istore 121 hK rfl rfl _ rfl ?_
        exact rocks _ nz 0 _ _ rfl (t1) (by omega) (lo3) (hi3) (by omega) (fun l9 hl => by
          rw [if_neg (fun z => by have := z.1; omega), ← LV_at (a := 132) hl, lc, blk_hi (now := now) (last := last) (t := t) hd i.toNat (by omega)]) (lk1_n l0 (by decide) (Or.inl rfl)) (lk1_n l1 (by decide) (Or.inl rfl)) (lk1_n l2 (by decide) (Or.inl rfl)) (lk1_n l3 (by decide) (Or.inl rfl)) (lk1_n l4 (by decide) (Or.inl rfl)) lk1_s (hG6) (hF6)
      · refine x_aload_n 90 hK rfl rfl l0 ?_
        refine x_getR 93 hK rfl rfl (sp_127 (h := h6) hG6) (rf_127_0 (h := h6) hG6) ?_
        refine x_iload 95 hK rfl rfl l5 ?_
        refine x_ialoadE 96 hK rfl rfl (sp_128 (h := h6) hG6) (by omega) (by omega) (by omega) (e' := (i + dl (now + i))) (((FRM_gi hF6 (r := 42) rfl rfl).trans (dni (by omega)))) ?_
        refine x_iload 98 hK rfl rfl l4 ?_
        refine x_if_icmp_ne 112 101 hK rfl rfl rfl (by omega) (by omega) (fun c12 => ?_) (fun c12 => ?_)
        · refine x_iinc 115 hK rfl rfl l5 _ rfl ?_
          refine x_goto 82 hK rfl rfl ?_
          have cm : ¬ cmF now last dl i t = true := fun z => by
            have := (cmF_t z).2
            omega
          exact ih _ (by omega) nz (i + 1) _ _ rfl (t1) (by omega) (lo3) (hi3) (by omega) (by rw [bn, if_neg cm, List.append_nil]; exact lc) (lk1_n l0 (by decide) (Or.inl rfl)) (lk1_n l1 (by decide) (Or.inl rfl)) (lk1_n l2 (by decide) (Or.inl rfl)) (lk1_n l3 (by decide) (Or.inl rfl)) (lk1_n l4 (by decide) (Or.inl rfl)) lk1_s (hG6) (hF6)
        · refine x_aload_n 102 hK rfl rfl l0 ?_
          refine x_aload_n 103 hK rfl rfl l0 ?_
          refine x_getR 106 hK rfl rfl (sp_127 (h := h6) hG6) (rf_127_3 (h := h6) hG6) ?_
          refine x_iload 108 hK rfl rfl l5 ?_
          have g733 := gi_r h 131 i.toNat
          refine x_ialoadE 109 hK rfl rfl (sp_131 (h := h6) hG6) (by omega) (by omega) (by omega) (e' := (gi h 131 i.toNat)) (FRM_gi hF6 (r := 45) rfl rfl) ?_
          have ci := cz i.toNat (by omega)
          rw [dni (by omega), show ((i.toNat : Nat) : Int) = i by omega] at ci
          by_cases fi : f ≤ i
          · rw [if_pos ⟨fi, by omega⟩] at ci
            rw [ci]
            have cm : cmF now last dl i t = true := cmF_i ⟨by omega, by omega⟩
            refine x_callV 112 hK hmono rfl rfl [.ref 127, .int (I 2)] [] rfl rfl (Nat.le_of_ble_eq_true rfl) (Nat.le_of_ble_eq_true rfl) rfl (sp_127 (h := h6) hG6) (CLd_le (Nat.le_of_ble_eq_true rfl) (ctX0_doChosen2 hSP hG6 r6)) ?_
            rintro v734 h734 ⟨rfl, hG734, hF734, lg734⟩
            rw [lc] at lg734
            refine x_iinc 115 hK rfl rfl l5 _ rfl ?_
            refine x_goto 82 hK rfl rfl ?_
            exact ih _ (by omega) nz (i + 1) _ _ rfl (t1) (by omega) (lo3) (hi3) (by omega) (by rw [lg734, bn, if_pos cm, opsF_s, op_1f i0.1]) (lk1_n l0 (by decide) (Or.inl rfl)) (lk1_n l1 (by decide) (Or.inl rfl)) (lk1_n l2 (by decide) (Or.inl rfl)) (lk1_n l3 (by decide) (Or.inl rfl)) (lk1_n l4 (by decide) (Or.inl rfl)) lk1_s (hG734) ((hF6).trans ((hF734).mono rfl))
          · rw [if_neg (fun z => fi z.1)] at ci
            rw [ci]
            have cm : ¬ cmF now last dl i t = true := fun z => by
              have := (cmF_t z).1
              omega
            refine x_callV 112 hK hmono rfl rfl [.ref 127, .int (I 0)] [] rfl rfl (Nat.le_of_ble_eq_true rfl) (Nat.le_of_ble_eq_true rfl) rfl (sp_127 (h := h6) hG6) (CLd_le (Nat.le_of_ble_eq_true rfl) (ctX0_doChosen0 hSP hG6)) ?_
            rintro v9 h9 ⟨e9, rfl⟩
            rw [e9]
            clear e9
            refine x_iinc 115 hK rfl rfl l5 _ rfl ?_
            refine x_goto 82 hK rfl rfl ?_
            exact ih _ (by omega) nz (i + 1) _ _ rfl (t1) (by omega) (lo3) (hi3) (by omega) (by rw [bn, if_neg cm, List.append_nil]; exact lc) (lk1_n l0 (by decide) (Or.inl rfl)) (lk1_n l1 (by decide) (Or.inl rfl)) (lk1_n l2 (by decide) (Or.inl rfl)) (lk1_n l3 (by decide) (Or.inl rfl)) (lk1_n l4 (by decide) (Or.inl rfl)) lk1_s (hG6) (hF6)
    have under : ∀ (mz : Nat) (ny : Int) (h5 : aH) (ls : List (Nat × Value)), ((gi h 23 4 - ny).toNat = mz) → (t ≤ n) → (0 ≤ ny ∧ ny ≤ gi h 23 4) → (∀ q : Nat, (q : Int) < ny → gi h 24 q < now + (t + 1)) → (∀ q : Nat, ny ≤ q → (q : Int) < gi h 23 4 → now + t ≤ gi h 24 q) → (LV h5 132 = opsF (chA 0) l hit (wyS (kO h 23 ny.toNat) (now + t)) (XS 0 l hit L now last dl (gi h 23 1) (t - 1).toNat)) → lk ls 0 = some (.ref 127) → lk ls 1 = some (.ref 23) → lk ls 2 = some (.int (I n)) → lk ls 3 = some (.int (I ny)) → lk ls 4 = some (.int (I t)) → GD gE gRL sh h5 → FRM gRL [(0, 46, 0, 8)] h h5 → K 31 ls [] h5 0 0 := by
      intro mz
      induction mz using Nat.strongRecOn with
      | ind mz ih =>
      intro ny h5 ls hm t1 y0 lo2 hi2 lw l0 l1 l2 l3 l4 hG5 hF5
      have r5 : rgV (LV h5 132) := by rw [lw]; exact opsF_r _ _ xr
      have hrn := fun z : ny < gi h 23 4 => hr ny.toNat (by omega)
      have hin := fun z : ny < gi h 23 4 => hi2 ny.toNat (by omega) (by omega)
      refine x_iload_n 32 hK rfl rfl l3 ?_
      refine x_aload_n 33 hK rfl rfl l1 ?_
      have g735 := gri (0) (12) hG (a := 23) (r := 17) (k := 4) rfl rfl
      refine x_getE 36 hK rfl (Or.inl rfl) rfl (sp_23 (h := h5) hG5) (e := (gi h 23 4)) (FRM_gi hF5 (r := 17) rfl rfl) ?_
      refine x_if_icmp_ge 71 39 hK rfl rfl rfl (by omega) (by omega) (fun c4 => ?_) (fun c4 => ?_)
      · refine x_iconst 72 hK rfl rfl ?_
        refine x_iload 74 hK rfl rfl l4 ?_
        refine x_bipush 76 hK rfl rfl rfl ?_
        refine x_isub 77 hK rfl rfl ?_
        refine x_max 80 hK rfl rfl (Nat.le_of_ble_eq_true rfl) (by omega) (by omega) ?_
        refine x_istore 82 hK rfl rfl _ rfl ?_
        have hi' : ∀ q : Nat, ny ≤ q → (q : Int) < gi h 23 4 → now + (t + 1) ≤ gi h 24 q := fun q h1 h2 => by
          first
          | omega
          | (have := so ny.toNat q (by omega) h2; omega)
        have ew : (wyS (kO h 23 ny.toNat) (now + t)) = wyF L (now + t) := by
          rw [← wyS_srt, ← eo]
          have z := wyS_ext (h := h) (d := now + t) (n := ny.toNat) (gi h 23 4 - ny).toNat fun q h1 h2 => by
            have := hi' q (by omega) (by omega)
            omega
          rw [show ny.toNat + (gi h 23 4 - ny).toNat = (gi h 23 4).toNat by omega] at z
          exact z.symm
        have bk : (blkC now last dl t (max 0 (t - 12)).toNat) = [] := blk_lo _ fun k hk hc => by
          have z2 := (cmF_t hc).2
          have z3 := hd (now + (k : Int))
          omega
        exact inner _ ny (max 0 (t - 12)) _ _ rfl (t1) (by omega) (lo2) (hi') (by omega) (by rw [lw, ew, bk]; rfl) (lk1_n l0 (by decide) (Or.inl rfl)) (lk1_n l1 (by decide) (Or.inl rfl)) (lk1_n l2 (by decide) (Or.inl rfl)) (lk1_n l3 (by decide) (Or.inl rfl)) (lk1_n l4 (by decide) (Or.inl rfl)) lk1_s (hG5) (hF5)
      · have hr1 := hrn (by omega)
        have hi1 := hin (by omega)
        refine x_aload_n 40 hK rfl rfl l1 ?_
        refine x_getR 43 hK rfl rfl (sp_23 (h := h5) hG5) (rf_23_5 (h := h5) hG5) ?_
        refine x_iload_n 44 hK rfl rfl l3 ?_
        have g736 := gi_r h 24 ny.toNat
        refine x_ialoadE 45 hK rfl rfl (sp_24 (h := h5) hG5) (by omega) (by omega) (by omega) (e' := (gi h 24 ny.toNat)) (FRM_gi hF5 (r := 18) rfl rfl) ?_
        refine x_aload_n 46 hK rfl rfl l1 ?_
        refine x_getE 49 hK rfl (Or.inl rfl) rfl (sp_23 (h := h5) hG5) (e := now) (((FRM_gi hF5 (r := 17) rfl rfl).trans en)) ?_
        refine x_isub 50 hK rfl rfl ?_
        refine x_iload 52 hK rfl rfl l4 ?_
        refine x_if_icmp_gt 71 55 hK rfl rfl rfl (by omega) (by omega) (fun c21 => ?_) (fun c21 => ?_)
        · refine x_iconst 72 hK rfl rfl ?_
          refine x_iload 74 hK rfl rfl l4 ?_
          refine x_bipush 76 hK rfl rfl rfl ?_
          refine x_isub 77 hK rfl rfl ?_
          refine x_max 80 hK rfl rfl (Nat.le_of_ble_eq_true rfl) (by omega) (by omega) ?_
          refine x_istore 82 hK rfl rfl _ rfl ?_
          have hi' : ∀ q : Nat, ny ≤ q → (q : Int) < gi h 23 4 → now + (t + 1) ≤ gi h 24 q := fun q h1 h2 => by
            first
            | omega
            | (have := so ny.toNat q (by omega) h2; omega)
          have ew : (wyS (kO h 23 ny.toNat) (now + t)) = wyF L (now + t) := by
            rw [← wyS_srt, ← eo]
            have z := wyS_ext (h := h) (d := now + t) (n := ny.toNat) (gi h 23 4 - ny).toNat fun q h1 h2 => by
              have := hi' q (by omega) (by omega)
              omega
            rw [show ny.toNat + (gi h 23 4 - ny).toNat = (gi h 23 4).toNat by omega] at z
            exact z.symm
          have bk : (blkC now last dl t (max 0 (t - 12)).toNat) = [] := blk_lo _ fun k hk hc => by
            have z2 := (cmF_t hc).2
            have z3 := hd (now + (k : Int))
            omega
          exact inner _ ny (max 0 (t - 12)) _ _ rfl (t1) (by omega) (lo2) (hi') (by omega) (by rw [lw, ew, bk]; rfl) (lk1_n l0 (by decide) (Or.inl rfl)) (lk1_n l1 (by decide) (Or.inl rfl)) (lk1_n l2 (by decide) (Or.inl rfl)) (lk1_n l3 (by decide) (Or.inl rfl)) (lk1_n l4 (by decide) (Or.inl rfl)) lk1_s (hG5) (hF5)
        · refine x_aload_n 56 hK rfl rfl l0 ?_
          refine x_aload_n 57 hK rfl rfl l1 ?_
          refine x_getR 60 hK rfl rfl (sp_23 (h := h5) hG5) (rf_23_6 (h := h5) hG5) ?_
          refine x_iload_n 61 hK rfl rfl l3 ?_
          have g737 := gi_r h 25 ny.toNat
          refine x_ialoadE 62 hK rfl rfl (sp_25 (h := h5) hG5) (by omega) (by omega) (by omega) (e' := (gi h 25 ny.toNat)) (FRM_gi hF5 (r := 19) rfl rfl) ?_
          refine x_callV 65 hK hmono rfl rfl [.ref 127, .int (I (gi h 25 ny.toNat))] [] rfl rfl (Nat.le_of_ble_eq_true rfl) (Nat.le_of_ble_eq_true rfl) rfl (sp_127 (h := h5) hG5) (CLd_le (Nat.le_of_ble_eq_true rfl) (ctX0_moveCostsF hSP hG5 (v := (gi h 25 ny.toNat)) (by omega) r5)) ?_
          rintro v738 h738 ⟨rfl, hG738, hF738, lg738⟩
          rw [lw] at lg738
          refine x_iinc 68 hK rfl rfl l3 _ rfl ?_
          refine x_goto 31 hK rfl rfl ?_
          exact ih _ (by omega) (ny + 1) _ _ rfl (t1) (by omega) (fun q hq => by
            by_cases c : q = ny.toNat
            · rw [c]; omega
            · exact lo2 q (by omega)) (fun q h1 h2 => hi2 q (by omega) h2) (by rw [lg738, tn_s y0.1, kO_s, wyS_s, if_pos (show gi h (23 + 1) ny.toNat = now + t by show gi h 24 ny.toNat = now + t; omega), opsF_s]; rfl) (lk1_n l0 (by decide) (Or.inl rfl)) (lk1_n l1 (by decide) (Or.inl rfl)) (lk1_n l2 (by decide) (Or.inl rfl)) lk1_s (lk1_n l4 (by decide) (Or.inl rfl)) (hG738) ((hF5).trans ((hF738).mono rfl))
    refine x_iload 27 hK rfl rfl l4 ?_
    refine x_iload_n 28 hK rfl rfl l2 ?_
    refine x_if_icmp_gt 176 31 hK rfl rfl rfl (by omega) (by omega) (fun c3 => ?_) (fun c3 => ?_)
    · refine x_sipush 179 hK rfl rfl rfl ?_
      refine x_istore 181 hK rfl rfl _ rfl ?_
      refine x_iconst 182 hK rfl rfl ?_
      refine x_istore 184 hK rfl rfl _ rfl ?_
      exact least _ 1000 0 _ _ rfl (by omega) (by rw [lv, show t - 1 = n by omega]) (rfl) (lk1_n (lk1_n l0 (by decide) (Or.inl rfl)) (by decide) (Or.inl rfl)) (lk1_n (lk1_n l1 (by decide) (Or.inl rfl)) (by decide) (Or.inl rfl)) (lk1_n (lk1_n l2 (by decide) (Or.inl rfl)) (by decide) (Or.inl rfl)) (lk1_n lk1_s (by decide) (Or.inl rfl)) lk1_s (hG4) (hF4)
    · exact under _ nx _ _ rfl (by omega) (by omega) (fun q hq => by have := lo q hq; omega) (hi) (by rw [wyS_lo (fun i hi => lo i (by omega)), lv]; rfl) l0 l1 l2 l3 l4 (hG4) (hF4)
  refine x_aload_n 1 hK rfl rfl rfl ?_
  refine x_getR 4 hK rfl rfl (sp_127 (h := h) hG) (rf_127_4 (h := h) hG) ?_
  refine x_sipush 7 hK rfl rfl rfl ?_
  refine x_callS 10 hK hmono rfl (Or.inl rfl) rfl [.ref 132, .int (I 1000)] [] rfl rfl (Nat.le_of_ble_eq_true rfl) (Nat.le_of_ble_eq_true rfl) (CLd_le (Nat.le_of_ble_eq_true rfl) (ctJ7_fill_53178132 hSP hG)) ?_
  rintro v739 h739 ⟨rfl, hG739, hF739, fz739⟩
  refine x_aload_n 11 hK rfl rfl rfl ?_
  refine x_getR 14 hK rfl rfl (sp_127 (h := h739) hG739) (rf_127_4 (h := h739) hG739) ?_
  refine x_aload_n 15 hK rfl rfl rfl ?_
  have g740 := gri (0) (8) hG (a := 23) (r := 17) (k := 1) rfl rfl
  refine x_getE 18 hK rfl (Or.inl rfl) rfl (sp_23 (h := h739) hG739) (e := (gi h 23 1)) (FRM_gi hF739 (r := 17) rfl rfl) ?_
  refine x_iconst 19 hK rfl rfl ?_
  refine x_iastore 20 hK rfl rfl (sp_132 (h := h739) hG739) (by omega) (by omega) (by omega) ?_
  refine x_iconst 21 hK rfl rfl ?_
  refine x_istore_n 22 hK rfl rfl [(3, .int (I 0)), (0, .ref 127), (1, .ref 23), (2, .int (I n))] rfl ?_
  refine x_iconst 23 hK rfl rfl ?_
  refine x_istore 25 hK rfl rfl [(4, .int (I 1)), (3, .int (I 0)), (0, .ref 127), (1, .ref 23), (2, .int (I n))] rfl ?_
  have lv0 : LV (wI h739 132 (gi h 23 1).toNat 0) 132 = (XS 0 l hit L now last dl (gi h 23 1) (1 - 1 : Int).toNat) := by
    refine lv_eq (XS_r _) (fun l9 hl => ?_) (XS_out gl0 _)
    show _ = if (l9 : Int) = gi h 23 1 then (0 : Int) else 1000
    by_cases c : l9 = (gi h 23 1).toNat
    · rw [if_pos (by omega), c]
      exact gi_same (by omega)
    · rw [if_neg (by omega)]
      exact (gi_k c _).trans (fz739 l9 hl)
  exact loop _ 0 1 _ _ rfl (by omega) (by omega) (fun i hi => absurd hi (by omega)) (fun i h1 h2 => by have := hr i h2; omega) (lv0) rfl rfl rfl rfl rfl (GD_wn (hG739) (r := 46) rfl rfl) (FRM_wn 0 8 (hF739) (r := 46) rfl rfl rfl (by omega) (by omega))
theorem plP_XS {h : aH} {n : Int} : plP h n [] = fwN (XS 0 (gi h 171 5) (fun (t : Int) (g : Nat) => hitN (gi h 175) (gi h 176) ((gi h 178 0) + t) (g : Int) (gi h 171 6).toNat) (wl (RC h 178 0)) (gi h 178 0) (gi h 178 4) (dlA h) (gi h 178 1) n.toNat) 9 := by
  refine congrArg (fun u => fwN u 9) (opsF_ch _ _ fun q hq h1 => ?_)
  have z := opsT_n _ hq h1
  show (if 0 ≤ q.2 ∧ q.2 < ((0 : Nat) : Int) then _ else (2 : Int)) = if q.2 < 0 then 0 else 2
  rw [if_neg (fun z2 => by have := z2.2; omega), if_neg (by omega)]
