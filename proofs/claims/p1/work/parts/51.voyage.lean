/-! THE REFERENCE READS A VOYAGE, A SHIP, ROCKS, MESSES: safe -/
theorem gi_to {a k l : Nat} {h : aH} (e : k = l) : gi h a k = gi h a l := by rw [e]
theorem NB.up {b c : Int} {h : aH} (n : NB b h) (e : b ≤ c) : NB c h := n.mono e
theorem ctX11_does {SP : CT} (hSP : MONO SP) {sh : List (Nat × Nat)} {h : aH} (hG : GD gE gRL sh h) {k : Int} (hX : XI h) (hk : 0 ≤ k ∧ k < 60) : CLd SP 8 mX11_does [.ref 171, .int (I k)] h 0 0 (fun rv h' => (rv = some (.int (I 0)) ∨ rv = some (.int (I 1))) ∧ GD gE gRL sh h' ∧ FRM gRL [(0, 54, 31, 32), (0, 61, 0, 56), (0, 67, 0, 79), (0, 68, 0, 3)] h h' ∧ ∀ b, b < 2147483000 → NB b h → NB (b + 9) h') := by
  refine x_met _ rfl (Nat.le_of_ble_eq_true rfl) (fun K hK => ?_)
  have hmono := MONO_CLd hSP 7
  have gr := gi_r h
  have go := grn (-1) 9 hG (a := 188) (r := 71) (k := k.toNat) rfl rfl (by omega)
  have gs := grn 0 2 hG (a := 187) (r := 70) (k := k.toNat) rfl rfl (by omega)
  have loop : ∀ (m : Nat) (i : Int) (h4 : aH) (ls : List (Nat × Value)), ((9 - i).toNat = m) → 0 ≤ i → (i ≤ gi h 188 k.toNat ∨ i = 0) → lk ls 0 = some (.ref 171) → lk ls 1 = some (.int (I k)) → lk ls 2 = some (.int (I i)) → GD gE gRL sh h4 → FRM gRL [(0, 54, 31, 32), (0, 61, 0, 56), (0, 67, 0, 79), (0, 68, 0, 3)] h h4 → (∀ b, b < 2147483000 → NB b h → NB (b + i) h4) → K 65 ls [] h4 0 0 := by
    intro m
    induction m using Nat.strongRecOn with
    | ind m ih =>
    intro i h4 ls hm h0 hi l0 l1 l2 hG4 hF4 hN4
    have hX4 : XI h4 := xOk_ok rfl h h4 hF4 hX
    have ka : gi h4 188 k.toNat = gi h 188 k.toNat := FRM_gi hF4 (r := 71) rfl rfl
    have gr4 := gi_r h4
    refine x_iload_n 66 hK rfl rfl l2 ?_
    refine x_aload_n 67 hK rfl rfl l0 ?_
    refine x_getR 70 hK rfl rfl (sp_171 (h := h4) hG4) (rf_171_34 (h := h4) hG4) ?_
    refine x_iload_n 71 hK rfl rfl l1 ?_
    refine x_ialoadE 72 hK rfl rfl (sp_188 (h := h4) hG4) (by first | omega | exact gi_r _ _ _) (by first | omega | exact gi_r _ _ _) (by first | omega | exact gi_r _ _ _) (e' := (gi h4 188 k.toNat)) (rfl) ?_
    refine x_if_icmp_ge 89 75 hK rfl rfl rfl (by first | omega | exact gi_r _ _ _) (by first | omega | exact gi_r _ _ _) (fun c6 => ?_) (fun c6 => ?_)
    · refine x_iconst 90 hK rfl rfl ?_
      exact x_zret hK rfl (by omega) ⟨Or.inr rfl, hG4, hF4, fun b hb z => (hN4 b hb z).mono (by omega)⟩
    · refine x_aload_n 76 hK rfl rfl l0 ?_
      refine x_aload_n 77 hK rfl rfl l0 ?_
      refine x_getR 80 hK rfl rfl (sp_171 (h := h4) hG4) (rf_171_14 (h := h4) hG4) ?_
      refine x_callV 83 hK hmono rfl rfl [.ref 171, .ref 178] [] rfl rfl (Nat.le_of_ble_eq_true rfl) (Nat.le_of_ble_eq_true rfl) rfl (sp_171 (h := h4) hG4) (CLd_le (Nat.le_of_ble_eq_true rfl) (ctX11_stepGoesN hSP hG4 hX4)) ?_
      rintro v5 h5 ⟨rfl, hG5, hF5, e5⟩
      have hN5 : ∀ b, b < 2147483000 → NB b h → NB (b + (i + 1)) h5 := fun b hb z => by
        rw [show b + (i + 1) = b + i + 1 by omega]
        exact NB_step (hN4 b hb z) (by omega) hF5 e5
      replace hF5 : FRM gRL [(0, 54, 31, 32), (0, 61, 0, 56), (0, 67, 0, 79), (0, 68, 0, 3)] h h5 := hF4.trans (hF5.mono rfl)
      refine x_iinc 86 hK rfl rfl l2 _ rfl ?_
      refine x_goto 65 hK rfl rfl ?_
      exact ih _ (by omega) (i + 1) h5 _ rfl (by omega) (by omega) (lk1_n l0 (by decide) (Or.inl rfl)) (lk1_n l1 (by decide) (Or.inl rfl)) lk1_s hG5 hF5 hN5
  refine x_aload_n 1 hK rfl rfl rfl ?_
  refine x_getR 4 hK rfl rfl (sp_171 (h := h) hG) (rf_171_33 (h := h) hG) ?_
  refine x_iload_n 5 hK rfl rfl rfl ?_
  refine x_ialoadE 6 hK rfl rfl (sp_187 (h := h) hG) (by first | omega | exact gi_r _ _ _) (by first | omega | exact gi_r _ _ _) (by first | omega | exact gi_r _ _ _) (e' := (gi h 187 k.toNat)) (rfl) ?_
  refine x_if_ne 32 9 hK rfl rfl rfl (by first | omega | exact gi_r _ _ _) (fun c5 => ?_) (fun c5 => ?_)
  · refine x_aload_n 33 hK rfl rfl rfl ?_
    refine x_getR 36 hK rfl rfl (sp_171 (h := h) hG) (rf_171_33 (h := h) hG) ?_
    refine x_iload_n 37 hK rfl rfl rfl ?_
    refine x_ialoadE 38 hK rfl rfl (sp_187 (h := h) hG) (by first | omega | exact gi_r _ _ _) (by first | omega | exact gi_r _ _ _) (by first | omega | exact gi_r _ _ _) (e' := (gi h 187 k.toNat)) (rfl) ?_
    refine x_iconst 39 hK rfl rfl ?_
    refine x_if_icmp_ne 63 42 hK rfl rfl rfl (by first | omega | exact gi_r _ _ _) (by first | omega | exact gi_r _ _ _) (fun c11 => ?_) (fun c11 => ?_)
    · refine x_iconst 64 hK rfl rfl ?_
      refine x_istore_n 65 hK rfl rfl [(2, .int (I 0)), (0, .ref 171), (1, .int (I k))] rfl ?_
      exact loop _ 0 h _ rfl (by omega) (Or.inr rfl) rfl rfl rfl hG FRM.rf fun b _ z => z.mono (by omega)
    · refine x_aload_n 43 hK rfl rfl rfl ?_
      refine x_aload_n 44 hK rfl rfl rfl ?_
      refine x_getR 47 hK rfl rfl (sp_171 (h := h) hG) (rf_171_34 (h := h) hG) ?_
      refine x_iload_n 48 hK rfl rfl rfl ?_
      refine x_ialoadE 49 hK rfl rfl (sp_188 (h := h) hG) (by first | omega | exact gi_r _ _ _) (by first | omega | exact gi_r _ _ _) (by first | omega | exact gi_r _ _ _) (e' := (gi h 188 k.toNat)) (rfl) ?_
      refine x_iconst 50 hK rfl rfl ?_
      refine x_iconst 51 hK rfl rfl ?_
      refine x_callV 54 hK hmono rfl rfl [.ref 171, .int (I (gi h 188 k.toNat)), .int (I 1), .int (I 1)] [] rfl rfl (Nat.le_of_ble_eq_true rfl) (Nat.le_of_ble_eq_true rfl) rfl (sp_171 (h := h) hG) (CLd_le (Nat.le_of_ble_eq_true rfl) (kX11_passes_0 hSP [.ref 171, .int (I (gi h 188 k.toNat)), .int (I 1), .int (I 1)] _ hX ⟨gv_r (by decide) rfl, ⟨_, rfl, i32_lo _, i32_hi _, trivial⟩, ⟨_, rfl, i32_lo _, i32_hi _, trivial⟩, ⟨_, rfl, i32_lo _, i32_hi _, trivial⟩, trivial⟩ hG gov_n)) ?_
      rintro v3 h3 ⟨hG3, hF3, o3, m3, q3, z3, -⟩
      obtain ⟨w3, rw3, rfl⟩ := int_ans m3 rfl q3
      have hN3 : ∀ b, NB b h → NB b h3 := fun b z => NB_frm (by decide) hF3 z
      replace hF3 : FRM gRL [(0, 54, 31, 32), (0, 61, 0, 56), (0, 67, 0, 79), (0, 68, 0, 3)] h h3 := hF3.mono rfl
      refine x_if_lt 61 57 hK rfl rfl rfl (by first | omega | exact gi_r _ _ _) (fun c23 => ?_) (fun c23 => ?_)
      · refine x_iconst 62 hK rfl rfl ?_
        exact x_zret hK rfl (by omega) ⟨Or.inl rfl, hG3, hF3, fun b hb z => (hN3 b z).mono (by omega)⟩
      · refine x_iconst 58 hK rfl rfl ?_
        refine x_goto 62 hK rfl rfl ?_
        exact x_zret hK rfl (by omega) ⟨Or.inr rfl, hG3, hF3, fun b hb z => (hN3 b z).mono (by omega)⟩
  · refine x_aload_n 10 hK rfl rfl rfl ?_
    refine x_aload_n 11 hK rfl rfl rfl ?_
    refine x_getR 14 hK rfl rfl (sp_171 (h := h) hG) (rf_171_14 (h := h) hG) ?_
    refine x_aload_n 15 hK rfl rfl rfl ?_
    refine x_getR 18 hK rfl rfl (sp_171 (h := h) hG) (rf_171_34 (h := h) hG) ?_
    refine x_iload_n 19 hK rfl rfl rfl ?_
    refine x_ialoadE 20 hK rfl rfl (sp_188 (h := h) hG) (by first | omega | exact gi_r _ _ _) (by first | omega | exact gi_r _ _ _) (by first | omega | exact gi_r _ _ _) (e' := (gi h 188 k.toNat)) (rfl) ?_
    refine x_callV 23 hK hmono rfl rfl [.ref 171, .ref 178, .int (I (gi h 188 k.toNat))] [] rfl rfl (Nat.le_of_ble_eq_true rfl) (Nat.le_of_ble_eq_true rfl) rfl (sp_171 (h := h) hG) (CLd_le (Nat.le_of_ble_eq_true rfl) (ctX11_givesN hSP hG hX (by omega))) ?_
    rintro v3 h3 ⟨⟨w3, rfl, l3, u3⟩, hG3, hF3⟩
    have rw3 : r32 w3 := by omega
    have hN3 : ∀ b, NB b h → NB b h3 := fun b z => NB_frm (by decide) hF3 z
    replace hF3 : FRM gRL [(0, 54, 31, 32), (0, 61, 0, 56), (0, 67, 0, 79), (0, 68, 0, 3)] h h3 := hF3.mono rfl
    refine x_if_lt 30 26 hK rfl rfl rfl (by first | omega | exact gi_r _ _ _) (fun c37 => ?_) (fun c37 => ?_)
    · refine x_iconst 31 hK rfl rfl ?_
      exact x_zret hK rfl (by omega) ⟨Or.inl rfl, hG3, hF3, fun b hb z => (hN3 b z).mono (by omega)⟩
    · refine x_iconst 27 hK rfl rfl ?_
      refine x_goto 31 hK rfl rfl ?_
      exact x_zret hK rfl (by omega) ⟨Or.inr rfl, hG3, hF3, fun b hb z => (hN3 b z).mono (by omega)⟩
theorem ctX11_readsAct (hSP : MONO SPt) {sh : List (Nat × Nat)} {h : aH} (hG : GD gE gRL sh h) (hk : gi h 171 35 < 60) : CLd SPt 5 mX11_readsAct [.ref 171] h 0 0 (fun rv h' => (rv = some (.int (I 0)) ∨ (rv = some (.int (I 1)) ∧ gi h 171 18 < gi h' 171 18 ∧ gi h' 171 18 ≤ gi h 171 19 ∧ gi h' 171 35 = gi h 171 35 + 1)) ∧ GD gE gRL sh h' ∧ FRM gRL [(0, 54, 18, 18), (0, 54, 35, 35), (0, 70, 0, 59), (0, 71, 0, 59)] h h') := by
  refine x_met _ rfl (Nat.le_of_ble_eq_true rfl) (fun K hK => ?_)
  have hmono := MONO_CLd hSP 4
  have ar := at_r hG
  have ga := gri 0 60 hG (a := 171) (r := 54) (k := 35) rfl rfl
  refine x_aload_n 1 hK rfl rfl rfl ?_
  refine x_getE 4 hK rfl (Or.inl rfl) rfl (sp_171 (h := h) hG) (e := (gi h 171 35)) (rfl) ?_
  refine x_istore_n 5 hK rfl rfl [(1, .int (I (gi h 171 35))), (0, .ref 171)] rfl ?_
  refine x_aload_n 6 hK rfl rfl rfl ?_
  refine x_ldc_wS 9 hK rfl rfl ?_
  refine x_callV 12 hK hmono rfl rfl [.ref 171, .ref 1000005] [] rfl rfl (Nat.le_of_ble_eq_true rfl) (Nat.le_of_ble_eq_true rfl) rfl (sp_171 (h := h) hG) (CLd_le (Nat.le_of_ble_eq_true rfl) (ctX11_takesOf hSP hG (b := 5) (by decide))) ?_
  rintro v2 h2 ⟨⟨e, rfl, -, le, ue, at2, to2⟩, hG2, hF2⟩
  have re : r32 e := by omega
  have hat : e < 0 ∨ gi h2 171 18 = gi h 171 18 + 1 := by
    by_cases c : e < 0
    · exact Or.inl c
    · rw [if_neg c] at at2; exact Or.inr at2
  have f35 : gi h2 171 35 = gi h 171 35 := FRM_gi hF2 (r := 54) rfl rfl
  have f19 : gi h2 171 19 = gi h 171 19 := FRM_gi hF2 (r := 54) rfl rfl
  replace hF2 : FRM gRL [(0, 54, 18, 18), (0, 54, 35, 35), (0, 70, 0, 59), (0, 71, 0, 59)] h h2 := hF2.mono rfl
  have gr2 := gi_r h2
  refine x_istore_n 13 hK rfl rfl [(2, .int (I e)), (1, .int (I (gi h 171 35))), (0, .ref 171)] rfl ?_
  refine x_iload_n 14 hK rfl rfl rfl ?_
  refine x_if_ge 19 17 hK rfl rfl rfl (by first | omega | exact gi_r _ _ _) (fun c9 => ?_) (fun c9 => ?_)
  · refine x_aload_n 20 hK rfl rfl rfl ?_
    refine x_dup 21 hK rfl rfl rfl ?_
    refine x_getE 24 hK rfl (Or.inl rfl) rfl (sp_171 (h := h2) hG2) (e := (gi h2 171 35)) (rfl) ?_
    refine x_iconst 25 hK rfl rfl ?_
    refine x_iadd 26 hK rfl rfl ?_
    refine x_putI 29 hK rfl rfl (sp_171 (h := h2) hG2) ?_
    refine x_aload_n 30 hK rfl rfl rfl ?_
    refine x_getR 33 hK rfl rfl (sp_171 (h := h2) hG2) (rf_171_33 (h := h2) hG2) ?_
    refine x_iload_n 34 hK rfl rfl rfl ?_
    refine x_iload_n 35 hK rfl rfl rfl ?_
    refine x_iconst 36 hK rfl rfl ?_
    refine x_if_icmp_ge 43 39 hK rfl rfl rfl (by first | omega | exact gi_r _ _ _) (by first | omega | exact gi_r _ _ _) (fun c21 => ?_) (fun c21 => ?_)
    · refine x_iload_n 44 hK rfl rfl rfl ?_
      refine x_iconst 45 hK rfl rfl ?_
      refine x_if_icmp_ne 52 48 hK rfl rfl rfl (by first | omega | exact gi_r _ _ _) (by first | omega | exact gi_r _ _ _) (fun c24 => ?_) (fun c24 => ?_)
      · refine x_iconst 53 hK rfl rfl ?_
        refine x_iastore 54 hK rfl rfl (sp_187 (h := h2) hG2) (by first | omega | exact gi_r _ _ _) (by first | omega | exact gi_r _ _ _) (by first | omega | exact gi_r _ _ _) ?_
        refine x_aload_n 55 hK rfl rfl rfl ?_
        refine x_getR 58 hK rfl rfl (sp_171 (h := h2) hG2) (rf_171_34 (h := h2) hG2) ?_
        refine x_iload_n 59 hK rfl rfl rfl ?_
        refine x_iload_n 60 hK rfl rfl rfl ?_
        refine x_iconst 61 hK rfl rfl ?_
        refine x_if_icmp_ge 70 64 hK rfl rfl rfl (by first | omega | exact gi_r _ _ _) (by first | omega | exact gi_r _ _ _) (fun _ => ?_) (fun c => by omega)
        refine x_iload_n 71 hK rfl rfl rfl ?_
        refine x_iconst 72 hK rfl rfl ?_
        refine x_if_icmp_ne 83 75 hK rfl rfl rfl (by first | omega | exact gi_r _ _ _) (by first | omega | exact gi_r _ _ _) (fun _ => ?_) (fun c => by omega)
        refine x_iload_n 84 hK rfl rfl rfl ?_
        refine x_iconst 85 hK rfl rfl ?_
        refine x_isub 86 hK rfl rfl ?_
        refine x_iastore 87 hK rfl rfl (sp_188 (h := h2) hG2) (by first | omega | exact gi_r _ _ _) (by first | omega | exact gi_r _ _ _) (by first | omega | exact gi_r _ _ _) ?_
        refine x_iload_n 88 hK rfl rfl rfl ?_
        refine x_iconst 89 hK rfl rfl ?_
        refine x_if_icmp_ne 101 92 hK rfl rfl rfl (by first | omega | exact gi_r _ _ _) (by first | omega | exact gi_r _ _ _) (fun _ => ?_) (fun c => by omega)
        refine x_iconst 102 hK rfl rfl ?_
        refine x_goto 106 hK rfl rfl ?_
        have p18 : gi (wI (wI (wI h2 171 35 ((gi h2 171 35) + 1)) 187 (gi h 171 35).toNat 2) 188 (gi h 171 35).toNat (e - 3)) 171 18 = (gi h2 171 18) := (gi_a (by decide) _).trans ((gi_a (by decide) _).trans (gi_k (by decide) _))
        have p35 : gi (wI (wI (wI h2 171 35 ((gi h2 171 35) + 1)) 187 (gi h 171 35).toNat 2) 188 (gi h 171 35).toNat (e - 3)) 171 35 = ((gi h2 171 35) + 1) := (gi_a (by decide) _).trans ((gi_a (by decide) _).trans (gi_same (by first | omega | exact gi_r _ _ _)))
        exact x_zret hK rfl (by omega) ⟨Or.inr ⟨rfl, by omega, by omega, by omega⟩, GD_wu (GD_wu (GD_w1 (hG2) (r := 54) rfl (by omega) rfl (by omega) (by omega)) (r := 70) rfl (by omega) rfl (by omega) (by omega)) (r := 71) rfl (by omega) rfl (by omega) (by omega), FRM_wn 0 59 (FRM_wn 0 59 (FRM_w (hF2) (r := 54) rfl rfl) (r := 70) rfl rfl rfl (by omega) (by omega)) (r := 71) rfl rfl rfl (by omega) (by omega)⟩
      · refine x_iconst 49 hK rfl rfl ?_
        refine x_goto 53 hK rfl rfl ?_
        refine x_iastore 54 hK rfl rfl (sp_187 (h := h2) hG2) (by first | omega | exact gi_r _ _ _) (by first | omega | exact gi_r _ _ _) (by first | omega | exact gi_r _ _ _) ?_
        refine x_aload_n 55 hK rfl rfl rfl ?_
        refine x_getR 58 hK rfl rfl (sp_171 (h := h2) hG2) (rf_171_34 (h := h2) hG2) ?_
        refine x_iload_n 59 hK rfl rfl rfl ?_
        refine x_iload_n 60 hK rfl rfl rfl ?_
        refine x_iconst 61 hK rfl rfl ?_
        refine x_if_icmp_ge 70 64 hK rfl rfl rfl (by first | omega | exact gi_r _ _ _) (by first | omega | exact gi_r _ _ _) (fun _ => ?_) (fun c => by omega)
        refine x_iload_n 71 hK rfl rfl rfl ?_
        refine x_iconst 72 hK rfl rfl ?_
        refine x_if_icmp_ne 83 75 hK rfl rfl rfl (by first | omega | exact gi_r _ _ _) (by first | omega | exact gi_r _ _ _) (fun c => by omega) (fun _ => ?_)
        refine x_aload_n 76 hK rfl rfl rfl ?_
        refine x_iconst 77 hK rfl rfl ?_
        have hG4 : GD gE gRL sh (wI (wI h2 171 35 ((gi h2 171 35) + 1)) 187 (gi h 171 35).toNat 1) := GD_wu (GD_w1 (hG2) (r := 54) rfl (by omega) rfl (by omega) (by omega)) (r := 70) rfl (by omega) rfl (by omega) (by omega)
        refine x_callV 80 hK hmono rfl rfl [.ref 171, .int (I 1)] [.int (I (gi h 171 35)), .ref 188] rfl rfl (Nat.le_of_ble_eq_true rfl) (Nat.le_of_ble_eq_true rfl) rfl (sp_171 (h := h2) hG2) (CLd_le (Nat.le_of_ble_eq_true rfl) (ctX11_number hSP hG4 (by omega))) ?_
        rintro v5 h5 ⟨⟨w5, rfl, -, r5, u5, -⟩, hG5, hF5, -, m5, t5⟩
        have s18 : gi (wI (wI h2 171 35 ((gi h2 171 35) + 1)) 187 (gi h 171 35).toNat 1) 171 18 = gi h 171 18 + 1 := ((gi_a (by decide) _).trans (gi_k (by decide) _)).trans (hat.resolve_left (by omega))
        have s19 : gi (wI (wI h2 171 35 ((gi h2 171 35) + 1)) 187 (gi h 171 35).toNat 1) 171 19 = gi h 171 19 := ((gi_a (by decide) _).trans (gi_k (by decide) _)).trans f19
        have s35 : gi (wI (wI h2 171 35 ((gi h2 171 35) + 1)) 187 (gi h 171 35).toNat 1) 171 35 = gi h 171 35 + 1 := ((gi_a (by decide) _).trans (gi_same (by first | omega | exact gi_r _ _ _))).trans (by omega)
        have f35 : gi h5 171 35 = gi h 171 35 + 1 := (FRM_gi hF5 (r := 54) rfl rfl).trans s35
        rw [s18, s19] at t5
        rw [s18] at m5 u5
        replace hF5 : FRM gRL [(0, 54, 18, 18), (0, 54, 35, 35), (0, 70, 0, 59), (0, 71, 0, 59)] h h5 := (FRM_wn 0 59 (FRM_w (hF2) (r := 54) rfl rfl) (r := 70) rfl rfl rfl (by omega) (by omega)).trans (hF5.mono rfl)
        have gr5 := gi_r h5
        clear hG4
        refine x_goto 86 hK rfl rfl ?_
        refine x_iastore 87 hK rfl rfl (sp_188 (h := h5) hG5) (by first | omega | exact gi_r _ _ _) (by first | omega | exact gi_r _ _ _) (by first | omega | exact gi_r _ _ _) ?_
        refine x_iload_n 88 hK rfl rfl rfl ?_
        refine x_iconst 89 hK rfl rfl ?_
        refine x_if_icmp_ne 101 92 hK rfl rfl rfl (by first | omega | exact gi_r _ _ _) (by first | omega | exact gi_r _ _ _) (fun c => by omega) (fun _ => ?_)
        refine x_aload_n 93 hK rfl rfl rfl ?_
        refine x_getR 96 hK rfl rfl (sp_171 (h := h5) hG5) (rf_171_34 (h := h5) hG5) ?_
        refine x_iload_n 97 hK rfl rfl rfl ?_
        refine x_ialoadE 98 hK rfl rfl (sp_188 (h := h5) hG5) (by first | omega | exact gi_r _ _ _) (by first | omega | exact gi_r _ _ _) (by first | omega | exact gi_r _ _ _) (e' := w5) (gi_same (by first | omega | exact gi_r _ _ _)) ?_
        refine x_if_lt 105 101 hK rfl rfl rfl (by first | omega | exact gi_r _ _ _) (fun c70 => ?_) (fun c70 => ?_)
        · refine x_iconst 106 hK rfl rfl ?_
          exact x_zret hK rfl (by omega) ⟨Or.inl rfl, GD_wu (hG5) (r := 71) rfl (by omega) rfl (by omega) (by omega), FRM_wn 0 59 (hF5) (r := 71) rfl rfl rfl (by omega) (by omega)⟩
        · refine x_iconst 102 hK rfl rfl ?_
          refine x_goto 106 hK rfl rfl ?_
          have p18 : gi (wI h5 188 (gi h 171 35).toNat w5) 171 18 = (gi h5 171 18) := gi_a (by decide) _
          have p35 : gi (wI h5 188 (gi h 171 35).toNat w5) 171 35 = (gi h5 171 35) := gi_a (by decide) _
          exact x_zret hK rfl (by omega) ⟨Or.inr ⟨rfl, by omega, by omega, by omega⟩, GD_wu (hG5) (r := 71) rfl (by omega) rfl (by omega) (by omega), FRM_wn 0 59 (hF5) (r := 71) rfl rfl rfl (by omega) (by omega)⟩
    · refine x_iconst 40 hK rfl rfl ?_
      refine x_goto 53 hK rfl rfl ?_
      refine x_iastore 54 hK rfl rfl (sp_187 (h := h2) hG2) (by first | omega | exact gi_r _ _ _) (by first | omega | exact gi_r _ _ _) (by first | omega | exact gi_r _ _ _) ?_
      refine x_aload_n 55 hK rfl rfl rfl ?_
      refine x_getR 58 hK rfl rfl (sp_171 (h := h2) hG2) (rf_171_34 (h := h2) hG2) ?_
      refine x_iload_n 59 hK rfl rfl rfl ?_
      refine x_iload_n 60 hK rfl rfl rfl ?_
      refine x_iconst 61 hK rfl rfl ?_
      refine x_if_icmp_ge 70 64 hK rfl rfl rfl (by first | omega | exact gi_r _ _ _) (by first | omega | exact gi_r _ _ _) (fun c => by omega) (fun _ => ?_)
      refine x_iload_n 65 hK rfl rfl rfl ?_
      refine x_iconst 66 hK rfl rfl ?_
      refine x_isub 67 hK rfl rfl ?_
      refine x_goto 86 hK rfl rfl ?_
      refine x_iastore 87 hK rfl rfl (sp_188 (h := h2) hG2) (by first | omega | exact gi_r _ _ _) (by first | omega | exact gi_r _ _ _) (by first | omega | exact gi_r _ _ _) ?_
      refine x_iload_n 88 hK rfl rfl rfl ?_
      refine x_iconst 89 hK rfl rfl ?_
      refine x_if_icmp_ne 101 92 hK rfl rfl rfl (by first | omega | exact gi_r _ _ _) (by first | omega | exact gi_r _ _ _) (fun _ => ?_) (fun c => by omega)
      refine x_iconst 102 hK rfl rfl ?_
      refine x_goto 106 hK rfl rfl ?_
      have p18 : gi (wI (wI (wI h2 171 35 ((gi h2 171 35) + 1)) 187 (gi h 171 35).toNat 0) 188 (gi h 171 35).toNat (e - 1)) 171 18 = (gi h2 171 18) := (gi_a (by decide) _).trans ((gi_a (by decide) _).trans (gi_k (by decide) _))
      have p35 : gi (wI (wI (wI h2 171 35 ((gi h2 171 35) + 1)) 187 (gi h 171 35).toNat 0) 188 (gi h 171 35).toNat (e - 1)) 171 35 = ((gi h2 171 35) + 1) := (gi_a (by decide) _).trans ((gi_a (by decide) _).trans (gi_same (by first | omega | exact gi_r _ _ _)))
      exact x_zret hK rfl (by omega) ⟨Or.inr ⟨rfl, by omega, by omega, by omega⟩, GD_wu (GD_wu (GD_w1 (hG2) (r := 54) rfl (by omega) rfl (by omega) (by omega)) (r := 70) rfl (by omega) rfl (by omega) (by omega)) (r := 71) rfl (by omega) rfl (by omega) (by omega), FRM_wn 0 59 (FRM_wn 0 59 (FRM_w (hF2) (r := 54) rfl rfl) (r := 70) rfl rfl rfl (by omega) (by omega)) (r := 71) rfl rfl rfl (by omega) (by omega)⟩
  · refine x_iconst 18 hK rfl rfl ?_
    exact x_zret hK rfl (by omega) ⟨Or.inl rfl, hG2, hF2⟩
theorem ctX11_voyage (hSP : MONO SPt) {sh : List (Nat × Nat)} {h : aH} (hG : GD gE gRL sh h) (hX : XI h) (hu : 0 ≤ gi h 171 29 ∧ gi h 171 29 ≤ 15) : CLd SPt 9 mX11_voyage [.ref 171] h 0 0 (fun rv h' => (∃ e, rv = some (.int (I e))) ∧ GD gE gRL sh h' ∧ FRM gRL [(0, 54, 0, 1), (0, 54, 17, 20), (0, 54, 29, 29), (0, 54, 31, 32), (0, 54, 35, 35), (0, 61, 0, 56), (0, 67, 0, 79), (0, 68, 0, 3), (0, 69, 0, 911), (0, 70, 0, 59), (0, 71, 0, 59), (1, 55, 0, 39)] h h' ∧ gi h' 171 0 = 0 ∧ (0 ≤ gi h' 171 29 ∧ gi h' 171 29 ≤ 15) ∧ ∀ b, b < 2147482000 → NB b h → NB (b + 540) h') := by
  refine x_met _ rfl (Nat.le_of_ble_eq_true rfl) (fun K hK => ?_)
  have hmono := MONO_CLd hSP 8
  have loop2 : ∀ (m : Nat) (d : Int) (h4 : aH) (ls : List (Nat × Value)), ((60 - d).toNat = m) → 0 ≤ d → d ≤ gi h4 171 35 → lk ls 0 = some (.ref 171) → lk ls 4 = some (.int (I d)) → GD gE gRL sh h4 → FRM gRL [(0, 54, 0, 1), (0, 54, 17, 20), (0, 54, 29, 29), (0, 54, 31, 32), (0, 54, 35, 35), (0, 61, 0, 56), (0, 67, 0, 79), (0, 68, 0, 3), (0, 69, 0, 911), (0, 70, 0, 59), (0, 71, 0, 59), (1, 55, 0, 39)] h h4 → gi h4 171 0 = 0 → gi h4 171 29 = gi h 171 29 → (∀ b, b < 2147482000 → NB b h → NB (b + 9 * d) h4) → K 68 ls [] h4 0 0 := by
    intro m
    induction m using Nat.strongRecOn with
    | ind m ih =>
    intro d h4 ls hm h0 hd l0 l4 hG4 hF4 t4 hu4 hN4
    have hX4 : XI h4 := xOk_ok rfl h h4 hF4 hX
    have ga := gri 0 60 hG4 (a := 171) (r := 54) (k := 35) rfl rfl
    have gr4 := gi_r h4
    refine x_iload 70 hK rfl rfl l4 ?_
    refine x_aload_n 71 hK rfl rfl l0 ?_
    refine x_getE 74 hK rfl (Or.inl rfl) rfl (sp_171 (h := h4) hG4) (e := (gi h4 171 35)) (rfl) ?_
    refine x_if_icmp_ge 92 77 hK rfl rfl rfl (by first | omega | exact gi_r _ _ _) (by first | omega | exact gi_r _ _ _) (fun c4 => ?_) (fun c4 => ?_)
    · refine x_aload_n 93 hK rfl rfl l0 ?_
      refine x_iconst 94 hK rfl rfl ?_
      refine x_putI 97 hK rfl rfl (sp_171 (h := h4) hG4) ?_
      refine x_aload_n 98 hK rfl rfl l0 ?_
      refine x_iload 100 hK rfl rfl l4 ?_
      refine x_aload_n 101 hK rfl rfl l0 ?_
      refine x_getE 104 hK rfl (Or.inl rfl) rfl (sp_171 (h := h4) hG4) (e := (gi h4 171 35)) (gi_k (by decide) _) ?_
      refine x_if_icmp_ge 111 107 hK rfl rfl rfl (by first | omega | exact gi_r _ _ _) (by first | omega | exact gi_r _ _ _) (fun c12 => ?_) (fun c12 => ?_)
      · refine x_iconst 112 hK rfl rfl ?_
        refine x_callS 115 hK hmono rfl (Or.inl rfl) rfl [.int (I 0)] [.ref 171] rfl rfl (Nat.le_of_ble_eq_true rfl) (Nat.le_of_ble_eq_true rfl) (CLd_le (Nat.le_of_ble_eq_true rfl) (ctX11_flag (by omega))) ?_
        rintro v9 h9 ⟨e9, rfl⟩
        rw [e9]
        clear e9
        refine x_i2l 116 hK rfl rfl (by first | omega | exact gi_r _ _ _) ?_
        have hG6 : GD gE gRL sh (wI h4 171 1 0) := GD_w1 (hG4) (r := 54) rfl (by omega) rfl (by omega) (by omega)
        refine x_callV 119 hK hmono rfl rfl [.ref 171, .long (J 0)] [] rfl rfl (Nat.le_of_ble_eq_true rfl) (Nat.le_of_ble_eq_true rfl) rfl (sp_171 (h := h4) hG4) (CLd_le (Nat.le_of_ble_eq_true rfl) (ctX11_enters hSP hG6 (by rw [gi_same (by omega)]; omega))) ?_
        rintro v7 h7 ⟨rfl, hG7, hF7, r7⟩
        rw [gi_same (by omega)] at r7
        have t7 : gi h7 171 0 = 0 := (FRM_gi hF7 (r := 54) rfl rfl).trans ((gi_k (by decide) _).trans t4)
        have hu7 : gi h7 171 29 = gi h 171 29 := (FRM_gi hF7 (r := 54) rfl rfl).trans ((gi_k (by decide) _).trans hu4)
        have hN7 : ∀ b, b < 2147482000 → NB b h → NB (b + 540) h7 := fun b hb z => NB_frm (by decide) hF7 (((hN4 b hb z).mono (by omega)).w (by decide))
        replace hF7 : FRM gRL [(0, 54, 0, 1), (0, 54, 17, 20), (0, 54, 29, 29), (0, 54, 31, 32), (0, 54, 35, 35), (0, 61, 0, 56), (0, 67, 0, 79), (0, 68, 0, 3), (0, 69, 0, 911), (0, 70, 0, 59), (0, 71, 0, 59), (1, 55, 0, 39)] h h7 := (FRM_w (hF4) (r := 54) rfl rfl).trans (hF7.mono rfl)
        have gr7 := gi_r h7
        refine x_aload_n 120 hK rfl rfl l0 ?_
        refine x_aload_n 121 hK rfl rfl l0 ?_
        refine x_getE 124 hK rfl (Or.inl rfl) rfl (sp_171 (h := h7) hG7) (e := (gi h7 171 31)) (rfl) ?_
        refine x_i2l 125 hK rfl rfl (by first | omega | exact gi_r _ _ _) ?_
        refine x_callV 128 hK hmono rfl rfl [.ref 171, .long (J (gi h7 171 31))] [] rfl rfl (Nat.le_of_ble_eq_true rfl) (Nat.le_of_ble_eq_true rfl) rfl (sp_171 (h := h7) hG7) (CLd_le (Nat.le_of_ble_eq_true rfl) (ctX11_enters hSP hG7 (by omega))) ?_
        rintro v8 h8 ⟨rfl, hG8, hF8, r8⟩
        have t8 : gi h8 171 0 = 0 := (FRM_gi hF8 (r := 54) rfl rfl).trans t7
        have hu8 : gi h8 171 29 = gi h 171 29 := (FRM_gi hF8 (r := 54) rfl rfl).trans hu7
        have hN8 : ∀ b, b < 2147482000 → NB b h → NB (b + 540) h8 := fun b hb z => NB_frm (by decide) hF8 (hN7 b hb z)
        replace hF8 : FRM gRL [(0, 54, 0, 1), (0, 54, 17, 20), (0, 54, 29, 29), (0, 54, 31, 32), (0, 54, 35, 35), (0, 61, 0, 56), (0, 67, 0, 79), (0, 68, 0, 3), (0, 69, 0, 911), (0, 70, 0, 59), (0, 71, 0, 59), (1, 55, 0, 39)] h h8 := hF7.trans (hF8.mono rfl)
        have gr8 := gi_r h8
        refine x_iload 130 hK rfl rfl l4 ?_
        refine x_if_le 142 133 hK rfl rfl rfl (by first | omega | exact gi_r _ _ _) (fun c23 => ?_) (fun c23 => ?_)
        · refine x_iconst 143 hK rfl rfl ?_
          exact x_iret hK rfl ⟨⟨_, rfl⟩, hG8, hF8, t8, by omega, hN8⟩
        · refine x_aload_n 134 hK rfl rfl l0 ?_
          refine x_iload 136 hK rfl rfl l4 ?_
          refine x_callV 139 hK hmono rfl rfl [.ref 171, .int (I d)] [] rfl rfl (Nat.le_of_ble_eq_true rfl) (Nat.le_of_ble_eq_true rfl) rfl (sp_171 (h := h8) hG8) (CLd_le (Nat.le_of_ble_eq_true rfl) (ctX11_adds hSP hG8 (by omega))) ?_
          rintro v9 h9 ⟨rfl, hG9, hF9, hu9, hN9⟩
          have t9 : gi h9 171 0 = 0 := (FRM_gi hF9 (r := 54) rfl rfl).trans t8
          refine x_goto 143 hK rfl rfl ?_
          exact x_iret hK rfl ⟨⟨_, rfl⟩, hG9, hF8.trans (hF9.mono rfl), t9, hu9, fun b hb z => hN9 _ (hN8 b hb z)⟩
      · refine x_iconst 108 hK rfl rfl ?_
        refine x_goto 112 hK rfl rfl ?_
        refine x_callS 115 hK hmono rfl (Or.inl rfl) rfl [.int (I 1)] [.ref 171] rfl rfl (Nat.le_of_ble_eq_true rfl) (Nat.le_of_ble_eq_true rfl) (CLd_le (Nat.le_of_ble_eq_true rfl) (ctX11_flag (by omega))) ?_
        rintro v9 h9 ⟨e9, rfl⟩
        rw [e9]
        clear e9
        refine x_i2l 116 hK rfl rfl (by first | omega | exact gi_r _ _ _) ?_
        have hG6 : GD gE gRL sh (wI h4 171 1 0) := GD_w1 (hG4) (r := 54) rfl (by omega) rfl (by omega) (by omega)
        refine x_callV 119 hK hmono rfl rfl [.ref 171, .long (J 1)] [] rfl rfl (Nat.le_of_ble_eq_true rfl) (Nat.le_of_ble_eq_true rfl) rfl (sp_171 (h := h4) hG4) (CLd_le (Nat.le_of_ble_eq_true rfl) (ctX11_enters hSP hG6 (by rw [gi_same (by omega)]; omega))) ?_
        rintro v7 h7 ⟨rfl, hG7, hF7, r7⟩
        rw [gi_same (by omega)] at r7
        have t7 : gi h7 171 0 = 0 := (FRM_gi hF7 (r := 54) rfl rfl).trans ((gi_k (by decide) _).trans t4)
        have hu7 : gi h7 171 29 = gi h 171 29 := (FRM_gi hF7 (r := 54) rfl rfl).trans ((gi_k (by decide) _).trans hu4)
        have hN7 : ∀ b, b < 2147482000 → NB b h → NB (b + 540) h7 := fun b hb z => NB_frm (by decide) hF7 (((hN4 b hb z).mono (by omega)).w (by decide))
        replace hF7 : FRM gRL [(0, 54, 0, 1), (0, 54, 17, 20), (0, 54, 29, 29), (0, 54, 31, 32), (0, 54, 35, 35), (0, 61, 0, 56), (0, 67, 0, 79), (0, 68, 0, 3), (0, 69, 0, 911), (0, 70, 0, 59), (0, 71, 0, 59), (1, 55, 0, 39)] h h7 := (FRM_w (hF4) (r := 54) rfl rfl).trans (hF7.mono rfl)
        have gr7 := gi_r h7
        refine x_aload_n 120 hK rfl rfl l0 ?_
        refine x_aload_n 121 hK rfl rfl l0 ?_
        refine x_getE 124 hK rfl (Or.inl rfl) rfl (sp_171 (h := h7) hG7) (e := (gi h7 171 31)) (rfl) ?_
        refine x_i2l 125 hK rfl rfl (by first | omega | exact gi_r _ _ _) ?_
        refine x_callV 128 hK hmono rfl rfl [.ref 171, .long (J (gi h7 171 31))] [] rfl rfl (Nat.le_of_ble_eq_true rfl) (Nat.le_of_ble_eq_true rfl) rfl (sp_171 (h := h7) hG7) (CLd_le (Nat.le_of_ble_eq_true rfl) (ctX11_enters hSP hG7 (by omega))) ?_
        rintro v8 h8 ⟨rfl, hG8, hF8, r8⟩
        have t8 : gi h8 171 0 = 0 := (FRM_gi hF8 (r := 54) rfl rfl).trans t7
        have hu8 : gi h8 171 29 = gi h 171 29 := (FRM_gi hF8 (r := 54) rfl rfl).trans hu7
        have hN8 : ∀ b, b < 2147482000 → NB b h → NB (b + 540) h8 := fun b hb z => NB_frm (by decide) hF8 (hN7 b hb z)
        replace hF8 : FRM gRL [(0, 54, 0, 1), (0, 54, 17, 20), (0, 54, 29, 29), (0, 54, 31, 32), (0, 54, 35, 35), (0, 61, 0, 56), (0, 67, 0, 79), (0, 68, 0, 3), (0, 69, 0, 911), (0, 70, 0, 59), (0, 71, 0, 59), (1, 55, 0, 39)] h h8 := hF7.trans (hF8.mono rfl)
        have gr8 := gi_r h8
        refine x_iload 130 hK rfl rfl l4 ?_
        refine x_if_le 142 133 hK rfl rfl rfl (by first | omega | exact gi_r _ _ _) (fun c42 => ?_) (fun c42 => ?_)
        · refine x_iconst 143 hK rfl rfl ?_
          exact x_iret hK rfl ⟨⟨_, rfl⟩, hG8, hF8, t8, by omega, hN8⟩
        · refine x_aload_n 134 hK rfl rfl l0 ?_
          refine x_iload 136 hK rfl rfl l4 ?_
          refine x_callV 139 hK hmono rfl rfl [.ref 171, .int (I d)] [] rfl rfl (Nat.le_of_ble_eq_true rfl) (Nat.le_of_ble_eq_true rfl) rfl (sp_171 (h := h8) hG8) (CLd_le (Nat.le_of_ble_eq_true rfl) (ctX11_adds hSP hG8 (by omega))) ?_
          rintro v9 h9 ⟨rfl, hG9, hF9, hu9, hN9⟩
          have t9 : gi h9 171 0 = 0 := (FRM_gi hF9 (r := 54) rfl rfl).trans t8
          refine x_goto 143 hK rfl rfl ?_
          exact x_iret hK rfl ⟨⟨_, rfl⟩, hG9, hF8.trans (hF9.mono rfl), t9, hu9, fun b hb z => hN9 _ (hN8 b hb z)⟩
    · refine x_aload_n 78 hK rfl rfl l0 ?_
      refine x_iload 80 hK rfl rfl l4 ?_
      refine x_callV 83 hK hmono rfl rfl [.ref 171, .int (I d)] [] rfl rfl (Nat.le_of_ble_eq_true rfl) (Nat.le_of_ble_eq_true rfl) rfl (sp_171 (h := h4) hG4) (CLd_le (Nat.le_of_ble_eq_true rfl) (ctX11_does hSP hG4 hX4 (by omega))) ?_
      rintro v5 h5 ⟨hv, hG5, hF5, hN5⟩
      have t5 : gi h5 171 0 = 0 := (FRM_gi hF5 (r := 54) rfl rfl).trans t4
      have hu5 : gi h5 171 29 = gi h 171 29 := (FRM_gi hF5 (r := 54) rfl rfl).trans hu4
      have a5 : gi h5 171 35 = gi h4 171 35 := FRM_gi hF5 (r := 54) rfl rfl
      replace hN5 : ∀ b, b < 2147482000 → NB b h → NB (b + 9 * (d + 1)) h5 := fun b hb z => by
        rw [show b + 9 * (d + 1) = b + 9 * d + 9 by omega]
        exact hN5 _ (by omega) (hN4 b hb z)
      replace hF5 : FRM gRL [(0, 54, 0, 1), (0, 54, 17, 20), (0, 54, 29, 29), (0, 54, 31, 32), (0, 54, 35, 35), (0, 61, 0, 56), (0, 67, 0, 79), (0, 68, 0, 3), (0, 69, 0, 911), (0, 70, 0, 59), (0, 71, 0, 59), (1, 55, 0, 39)] h h5 := hF4.trans (hF5.mono rfl)
      have gr5 := gi_r h5
      have hN6 : ∀ b, b < 2147482000 → NB b h → NB (b + 540) h5 := fun b hb z => (hN5 b hb z).mono (by omega)
      rcases hv with rfl | rfl
      · refine x_if_eq 92 86 hK rfl rfl rfl (by first | omega | exact gi_r _ _ _) (fun _ => ?_) (fun c => by omega)
        refine x_aload_n 93 hK rfl rfl l0 ?_
        refine x_iconst 94 hK rfl rfl ?_
        refine x_putI 97 hK rfl rfl (sp_171 (h := h5) hG5) ?_
        refine x_aload_n 98 hK rfl rfl l0 ?_
        refine x_iload 100 hK rfl rfl l4 ?_
        refine x_aload_n 101 hK rfl rfl l0 ?_
        refine x_getE 104 hK rfl (Or.inl rfl) rfl (sp_171 (h := h5) hG5) (e := (gi h5 171 35)) (gi_k (by decide) _) ?_
        refine x_if_icmp_ge 111 107 hK rfl rfl rfl (by first | omega | exact gi_r _ _ _) (by first | omega | exact gi_r _ _ _) (fun c61 => ?_) (fun c61 => ?_)
        · refine x_iconst 112 hK rfl rfl ?_
          refine x_callS 115 hK hmono rfl (Or.inl rfl) rfl [.int (I 0)] [.ref 171] rfl rfl (Nat.le_of_ble_eq_true rfl) (Nat.le_of_ble_eq_true rfl) (CLd_le (Nat.le_of_ble_eq_true rfl) (ctX11_flag (by omega))) ?_
          rintro v9 h9 ⟨e9, rfl⟩
          rw [e9]
          clear e9
          refine x_i2l 116 hK rfl rfl (by first | omega | exact gi_r _ _ _) ?_
          have hG6 : GD gE gRL sh (wI h5 171 1 0) := GD_w1 (hG5) (r := 54) rfl (by omega) rfl (by omega) (by omega)
          refine x_callV 119 hK hmono rfl rfl [.ref 171, .long (J 0)] [] rfl rfl (Nat.le_of_ble_eq_true rfl) (Nat.le_of_ble_eq_true rfl) rfl (sp_171 (h := h5) hG5) (CLd_le (Nat.le_of_ble_eq_true rfl) (ctX11_enters hSP hG6 (by rw [gi_same (by omega)]; omega))) ?_
          rintro v7 h7 ⟨rfl, hG7, hF7, r7⟩
          rw [gi_same (by omega)] at r7
          have t7 : gi h7 171 0 = 0 := (FRM_gi hF7 (r := 54) rfl rfl).trans ((gi_k (by decide) _).trans t5)
          have hu7 : gi h7 171 29 = gi h 171 29 := (FRM_gi hF7 (r := 54) rfl rfl).trans ((gi_k (by decide) _).trans hu5)
          have hN7 : ∀ b, b < 2147482000 → NB b h → NB (b + 540) h7 := fun b hb z => NB_frm (by decide) hF7 ((hN6 b hb z).w (by decide))
          replace hF7 : FRM gRL [(0, 54, 0, 1), (0, 54, 17, 20), (0, 54, 29, 29), (0, 54, 31, 32), (0, 54, 35, 35), (0, 61, 0, 56), (0, 67, 0, 79), (0, 68, 0, 3), (0, 69, 0, 911), (0, 70, 0, 59), (0, 71, 0, 59), (1, 55, 0, 39)] h h7 := (FRM_w (hF5) (r := 54) rfl rfl).trans (hF7.mono rfl)
          have gr7 := gi_r h7
          refine x_aload_n 120 hK rfl rfl l0 ?_
          refine x_aload_n 121 hK rfl rfl l0 ?_
          refine x_getE 124 hK rfl (Or.inl rfl) rfl (sp_171 (h := h7) hG7) (e := (gi h7 171 31)) (rfl) ?_
          refine x_i2l 125 hK rfl rfl (by first | omega | exact gi_r _ _ _) ?_
          refine x_callV 128 hK hmono rfl rfl [.ref 171, .long (J (gi h7 171 31))] [] rfl rfl (Nat.le_of_ble_eq_true rfl) (Nat.le_of_ble_eq_true rfl) rfl (sp_171 (h := h7) hG7) (CLd_le (Nat.le_of_ble_eq_true rfl) (ctX11_enters hSP hG7 (by omega))) ?_
          rintro v8 h8 ⟨rfl, hG8, hF8, r8⟩
          have t8 : gi h8 171 0 = 0 := (FRM_gi hF8 (r := 54) rfl rfl).trans t7
          have hu8 : gi h8 171 29 = gi h 171 29 := (FRM_gi hF8 (r := 54) rfl rfl).trans hu7
          have hN8 : ∀ b, b < 2147482000 → NB b h → NB (b + 540) h8 := fun b hb z => NB_frm (by decide) hF8 (hN7 b hb z)
          replace hF8 : FRM gRL [(0, 54, 0, 1), (0, 54, 17, 20), (0, 54, 29, 29), (0, 54, 31, 32), (0, 54, 35, 35), (0, 61, 0, 56), (0, 67, 0, 79), (0, 68, 0, 3), (0, 69, 0, 911), (0, 70, 0, 59), (0, 71, 0, 59), (1, 55, 0, 39)] h h8 := hF7.trans (hF8.mono rfl)
          have gr8 := gi_r h8
          refine x_iload 130 hK rfl rfl l4 ?_
          refine x_if_le 142 133 hK rfl rfl rfl (by first | omega | exact gi_r _ _ _) (fun c72 => ?_) (fun c72 => ?_)
          · refine x_iconst 143 hK rfl rfl ?_
            exact x_iret hK rfl ⟨⟨_, rfl⟩, hG8, hF8, t8, by omega, hN8⟩
          · refine x_aload_n 134 hK rfl rfl l0 ?_
            refine x_iload 136 hK rfl rfl l4 ?_
            refine x_callV 139 hK hmono rfl rfl [.ref 171, .int (I d)] [] rfl rfl (Nat.le_of_ble_eq_true rfl) (Nat.le_of_ble_eq_true rfl) rfl (sp_171 (h := h8) hG8) (CLd_le (Nat.le_of_ble_eq_true rfl) (ctX11_adds hSP hG8 (by omega))) ?_
            rintro v9 h9 ⟨rfl, hG9, hF9, hu9, hN9⟩
            have t9 : gi h9 171 0 = 0 := (FRM_gi hF9 (r := 54) rfl rfl).trans t8
            refine x_goto 143 hK rfl rfl ?_
            exact x_iret hK rfl ⟨⟨_, rfl⟩, hG9, hF8.trans (hF9.mono rfl), t9, hu9, fun b hb z => hN9 _ (hN8 b hb z)⟩
        · refine x_iconst 108 hK rfl rfl ?_
          refine x_goto 112 hK rfl rfl ?_
          refine x_callS 115 hK hmono rfl (Or.inl rfl) rfl [.int (I 1)] [.ref 171] rfl rfl (Nat.le_of_ble_eq_true rfl) (Nat.le_of_ble_eq_true rfl) (CLd_le (Nat.le_of_ble_eq_true rfl) (ctX11_flag (by omega))) ?_
          rintro v9 h9 ⟨e9, rfl⟩
          rw [e9]
          clear e9
          refine x_i2l 116 hK rfl rfl (by first | omega | exact gi_r _ _ _) ?_
          have hG6 : GD gE gRL sh (wI h5 171 1 0) := GD_w1 (hG5) (r := 54) rfl (by omega) rfl (by omega) (by omega)
          refine x_callV 119 hK hmono rfl rfl [.ref 171, .long (J 1)] [] rfl rfl (Nat.le_of_ble_eq_true rfl) (Nat.le_of_ble_eq_true rfl) rfl (sp_171 (h := h5) hG5) (CLd_le (Nat.le_of_ble_eq_true rfl) (ctX11_enters hSP hG6 (by rw [gi_same (by omega)]; omega))) ?_
          rintro v7 h7 ⟨rfl, hG7, hF7, r7⟩
          rw [gi_same (by omega)] at r7
          have t7 : gi h7 171 0 = 0 := (FRM_gi hF7 (r := 54) rfl rfl).trans ((gi_k (by decide) _).trans t5)
          have hu7 : gi h7 171 29 = gi h 171 29 := (FRM_gi hF7 (r := 54) rfl rfl).trans ((gi_k (by decide) _).trans hu5)
          have hN7 : ∀ b, b < 2147482000 → NB b h → NB (b + 540) h7 := fun b hb z => NB_frm (by decide) hF7 ((hN6 b hb z).w (by decide))
          replace hF7 : FRM gRL [(0, 54, 0, 1), (0, 54, 17, 20), (0, 54, 29, 29), (0, 54, 31, 32), (0, 54, 35, 35), (0, 61, 0, 56), (0, 67, 0, 79), (0, 68, 0, 3), (0, 69, 0, 911), (0, 70, 0, 59), (0, 71, 0, 59), (1, 55, 0, 39)] h h7 := (FRM_w (hF5) (r := 54) rfl rfl).trans (hF7.mono rfl)
          have gr7 := gi_r h7
          refine x_aload_n 120 hK rfl rfl l0 ?_
          refine x_aload_n 121 hK rfl rfl l0 ?_
          refine x_getE 124 hK rfl (Or.inl rfl) rfl (sp_171 (h := h7) hG7) (e := (gi h7 171 31)) (rfl) ?_
          refine x_i2l 125 hK rfl rfl (by first | omega | exact gi_r _ _ _) ?_
          refine x_callV 128 hK hmono rfl rfl [.ref 171, .long (J (gi h7 171 31))] [] rfl rfl (Nat.le_of_ble_eq_true rfl) (Nat.le_of_ble_eq_true rfl) rfl (sp_171 (h := h7) hG7) (CLd_le (Nat.le_of_ble_eq_true rfl) (ctX11_enters hSP hG7 (by omega))) ?_
          rintro v8 h8 ⟨rfl, hG8, hF8, r8⟩
          have t8 : gi h8 171 0 = 0 := (FRM_gi hF8 (r := 54) rfl rfl).trans t7
          have hu8 : gi h8 171 29 = gi h 171 29 := (FRM_gi hF8 (r := 54) rfl rfl).trans hu7
          have hN8 : ∀ b, b < 2147482000 → NB b h → NB (b + 540) h8 := fun b hb z => NB_frm (by decide) hF8 (hN7 b hb z)
          replace hF8 : FRM gRL [(0, 54, 0, 1), (0, 54, 17, 20), (0, 54, 29, 29), (0, 54, 31, 32), (0, 54, 35, 35), (0, 61, 0, 56), (0, 67, 0, 79), (0, 68, 0, 3), (0, 69, 0, 911), (0, 70, 0, 59), (0, 71, 0, 59), (1, 55, 0, 39)] h h8 := hF7.trans (hF8.mono rfl)
          have gr8 := gi_r h8
          refine x_iload 130 hK rfl rfl l4 ?_
          refine x_if_le 142 133 hK rfl rfl rfl (by first | omega | exact gi_r _ _ _) (fun c91 => ?_) (fun c91 => ?_)
          · refine x_iconst 143 hK rfl rfl ?_
            exact x_iret hK rfl ⟨⟨_, rfl⟩, hG8, hF8, t8, by omega, hN8⟩
          · refine x_aload_n 134 hK rfl rfl l0 ?_
            refine x_iload 136 hK rfl rfl l4 ?_
            refine x_callV 139 hK hmono rfl rfl [.ref 171, .int (I d)] [] rfl rfl (Nat.le_of_ble_eq_true rfl) (Nat.le_of_ble_eq_true rfl) rfl (sp_171 (h := h8) hG8) (CLd_le (Nat.le_of_ble_eq_true rfl) (ctX11_adds hSP hG8 (by omega))) ?_
            rintro v9 h9 ⟨rfl, hG9, hF9, hu9, hN9⟩
            have t9 : gi h9 171 0 = 0 := (FRM_gi hF9 (r := 54) rfl rfl).trans t8
            refine x_goto 143 hK rfl rfl ?_
            exact x_iret hK rfl ⟨⟨_, rfl⟩, hG9, hF8.trans (hF9.mono rfl), t9, hu9, fun b hb z => hN9 _ (hN8 b hb z)⟩
      · refine x_if_eq 92 86 hK rfl rfl rfl (by first | omega | exact gi_r _ _ _) (fun c => by omega) (fun _ => ?_)
        refine x_iinc 89 hK rfl rfl l4 _ rfl ?_
        refine x_goto 68 hK rfl rfl ?_
        exact ih _ (by omega) (d + 1) h5 _ rfl (by omega) (by omega) (lk1_n l0 (by decide) (Or.inl rfl)) lk1_s hG5 hF5 t5 hu5 hN5
  have end1 : ∀ (is n : Int) (h2 : aH) (ls : List (Nat × Value)), (is = 0 ∨ is = 1) → r32 n → lk ls 0 = some (.ref 171) → lk ls 1 = some (.int (I n)) → lk ls 2 = some (.int (I is)) → GD gE gRL sh h2 → FRM gRL [(0, 54, 0, 0), (0, 54, 17, 20), (0, 54, 35, 35), (0, 70, 0, 59), (0, 71, 0, 59)] h h2 → gi h2 171 0 = 0 → K 42 ls [] h2 0 0 := by
    intro is n h2 ls his rn l0 l1 l2 hG2 hF2 t2
    have hN2 : ∀ b, NB b h → NB b h2 := fun b z => NB_frm (by decide) hF2 z
    have hX2 : XI h2 := xOk_ok rfl h h2 hF2 hX
    have hu2 : gi h2 171 29 = gi h 171 29 := FRM_gi hF2 (r := 54) rfl rfl
    have gr2 := gi_r h2
    refine x_aload_n 43 hK rfl rfl l0 ?_
    refine x_iload_n 44 hK rfl rfl l1 ?_
    refine x_bipush 46 hK rfl rfl rfl ?_
    refine x_iload_n 47 hK rfl rfl l2 ?_
    refine x_callV 50 hK hmono rfl rfl [.ref 171, .int (I n), .int (I 60), .int (I is)] [] rfl rfl (Nat.le_of_ble_eq_true rfl) (Nat.le_of_ble_eq_true rfl) rfl (sp_171 (h := h2) hG2) (CLd_le (Nat.le_of_ble_eq_true rfl) (ctX11_faultOf hSP hG2 rn (by omega) (by omega))) ?_
    rintro v9 h9 ⟨e9, rfl⟩
    rw [e9]
    clear e9
    have at9 := at_r hG2
    obtain ⟨w9, hw9, lw9, uw9⟩ : ∃ w : Int, (if 60 < n ∧ ((is = 1 ∧ gi h2 171 18 = gi h2 171 19) ∨ 60 ≤ gi h2 171 18) then -1 - 60 else if is = 1 ∧ gi h2 171 18 = gi h2 171 19 then 0 else -1 - gi h2 171 18) = w ∧ -82 ≤ w ∧ (w = 0 → is = 1) := by
      split
      · exact ⟨_, rfl, by omega, by omega⟩
      · split
        · exact ⟨_, rfl, by omega, by omega⟩
        · exact ⟨_, rfl, by omega, by omega⟩
    rw [hw9]
    refine x_istore_n 51 hK rfl rfl _ rfl ?_
    refine x_iload_n 52 hK rfl rfl lk1_s ?_
    refine x_if_ge 57 55 hK rfl rfl rfl (by first | omega | exact gi_r _ _ _) (fun c8 => ?_) (fun c8 => ?_)
    · refine x_aload_n 58 hK rfl rfl (lk1_n l0 (by decide) (Or.inl rfl)) ?_
      refine x_callV 61 hK hmono rfl rfl [.ref 171] [] rfl rfl (Nat.le_of_ble_eq_true rfl) (Nat.le_of_ble_eq_true rfl) rfl (sp_171 (h := h2) hG2) (CLd_le (Nat.le_of_ble_eq_true rfl) (ctX11_putsBy hSP hG2 (by omega))) ?_
      rintro v3 h3 ⟨rfl, hG3, hF3, hN3⟩
      have hu3 : gi h3 171 29 = gi h 171 29 := (FRM_gi hF3 (r := 54) rfl rfl).trans hu2
      have t3 : gi h3 171 0 = 0 := (FRM_gi hF3 (r := 54) rfl rfl).trans t2
      replace hF3 : FRM gRL [(0, 54, 0, 1), (0, 54, 17, 20), (0, 54, 29, 29), (0, 54, 31, 32), (0, 54, 35, 35), (0, 61, 0, 56), (0, 67, 0, 79), (0, 68, 0, 3), (0, 69, 0, 911), (0, 70, 0, 59), (0, 71, 0, 59), (1, 55, 0, 39)] h h3 := (hF2.mono rfl).trans (hF3.mono rfl)
      replace hN3 : ∀ b, NB b h → NB b h3 := fun b z => hN3 b (hN2 b z)
      have hX3 : XI h3 := xOk_ok rfl h h3 hF3 hX
      refine x_aload_n 62 hK rfl rfl (lk1_n l0 (by decide) (Or.inl rfl)) ?_
      refine x_callV 65 hK hmono rfl rfl [.ref 171] [] rfl rfl (Nat.le_of_ble_eq_true rfl) (Nat.le_of_ble_eq_true rfl) rfl (sp_171 (h := h3) hG3) (CLd_le (Nat.le_of_ble_eq_true rfl) (kX11_startsCounting_0 hSP [.ref 171] _ hX3 ⟨gv_r (by decide) rfl, trivial⟩ hG3 gov_n)) ?_
      rintro v4 h4 ⟨hG4, hF4, o4, m4, q4, z4, -⟩
      obtain rfl := List.mem_singleton.mp m4
      obtain rfl := QS_v q4
      have hu4 : gi h4 171 29 = gi h 171 29 := (FRM_gi hF4 (r := 54) rfl rfl).trans hu3
      have t4 : gi h4 171 0 = 0 := (FRM_gi hF4 (r := 54) rfl rfl).trans t3
      have hN4 : ∀ b, NB b h → NB b h4 := fun b z => NB_frm (by decide) hF4 (hN3 b z)
      replace hF4 : FRM gRL [(0, 54, 0, 1), (0, 54, 17, 20), (0, 54, 29, 29), (0, 54, 31, 32), (0, 54, 35, 35), (0, 61, 0, 56), (0, 67, 0, 79), (0, 68, 0, 3), (0, 69, 0, 911), (0, 70, 0, 59), (0, 71, 0, 59), (1, 55, 0, 39)] h h4 := hF3.trans (hF4.mono rfl)
      have ga4 := gri 0 60 hG4 (a := 171) (r := 54) (k := 35) rfl rfl
      refine x_iconst 66 hK rfl rfl ?_
      refine x_istore 68 hK rfl rfl _ rfl ?_
      exact loop2 _ 0 h4 _ rfl (by omega) (by omega) (lk1_n (lk1_n l0 (by decide) (Or.inl rfl)) (by decide) (Or.inl rfl)) lk1_s hG4 hF4 t4 hu4 fun b _ z => (hN4 b z).mono (by omega)
    · refine x_iload_n 56 hK rfl rfl lk1_s ?_
      exact x_iret hK rfl ⟨⟨_, rfl⟩, hG2, hF2.mono rfl, t2, by omega, fun b hb z => (hN2 b z).mono (by omega)⟩
  have end0 : ∀ (n : Int) (h2 : aH) (ls : List (Nat × Value)), r32 n → lk ls 0 = some (.ref 171) → lk ls 1 = some (.int (I n)) → lk ls 2 = some (.int (I 0)) → GD gE gRL sh h2 → FRM gRL [(0, 54, 0, 0), (0, 54, 17, 20), (0, 54, 35, 35), (0, 70, 0, 59), (0, 71, 0, 59)] h h2 → gi h2 171 0 = 0 → K 19 ls [] h2 0 0 := by
    intro n h2 ls rn l0 l1 l2 hG2 hF2 t2
    refine x_iload_n 20 hK rfl rfl l2 ?_
    refine x_if_eq 42 23 hK rfl rfl rfl (by omega) (fun _ => ?_) (fun c => absurd rfl c)
    exact end1 0 n h2 _ (Or.inl rfl) rn l0 l1 l2 hG2 hF2 t2
  have loop1 : ∀ (m : Nat) (is n : Int) (h2 : aH) (ls : List (Nat × Value)), ((81 - gi h2 171 18).toNat + is.toNat = m) → (is = 0 ∨ (is = 1 ∧ gi h2 171 35 ≤ gi h2 171 18 ∧ gi h2 171 18 ≤ gi h2 171 19)) → gi h2 171 19 ≤ 60 → r32 n → lk ls 0 = some (.ref 171) → lk ls 1 = some (.int (I n)) → lk ls 2 = some (.int (I is)) → GD gE gRL sh h2 → FRM gRL [(0, 54, 0, 0), (0, 54, 17, 20), (0, 54, 35, 35), (0, 70, 0, 59), (0, 71, 0, 59)] h h2 → gi h2 171 0 = 0 → K 19 ls [] h2 0 0 := by
    intro m
    induction m using Nat.strongRecOn with
    | ind m ih =>
    intro is n h2 ls hm his h60 rn l0 l1 l2 hG2 hF2 t2
    have ar2 := at_r hG2
    have ga2 := gri 0 60 hG2 (a := 171) (r := 54) (k := 35) rfl rfl
    have hN2 : ∀ b, NB b h → NB b h2 := fun b z => NB_frm (by decide) hF2 z
    have hX2 : XI h2 := xOk_ok rfl h h2 hF2 hX
    have hu2 : gi h2 171 29 = gi h 171 29 := FRM_gi hF2 (r := 54) rfl rfl
    refine x_iload_n 20 hK rfl rfl l2 ?_
    refine x_if_eq 42 23 hK rfl rfl rfl (by first | omega) (fun c2 => ?_) (fun c2 => ?_)
    · exact end1 is n h2 _ (by omega) rn l0 l1 l2 hG2 hF2 t2
    · refine x_aload_n 24 hK rfl rfl l0 ?_
      refine x_getE 27 hK rfl (Or.inl rfl) rfl (sp_171 (h := h2) hG2) (e := (gi h2 171 18)) (rfl) ?_
      refine x_aload_n 28 hK rfl rfl l0 ?_
      refine x_getE 31 hK rfl (Or.inl rfl) rfl (sp_171 (h := h2) hG2) (e := (gi h2 171 19)) (rfl) ?_
      refine x_if_icmp_ge 42 34 hK rfl rfl rfl (by first | omega) (by first | omega) (fun c8 => ?_) (fun c8 => ?_)
      · exact end1 is n h2 _ (by omega) rn l0 l1 l2 hG2 hF2 t2
      · refine x_aload_n 35 hK rfl rfl l0 ?_
        refine x_callV 38 hK hmono rfl rfl [.ref 171] [] rfl rfl (Nat.le_of_ble_eq_true rfl) (Nat.le_of_ble_eq_true rfl) rfl (sp_171 (h := h2) hG2) (CLd_le (Nat.le_of_ble_eq_true rfl) (ctX11_readsAct hSP hG2 (by omega))) ?_
        rintro v3 h3 ⟨hv, hG3, hF3⟩
        have e19 : gi h3 171 19 = gi h2 171 19 := FRM_gi hF3 (r := 54) rfl rfl
        have t3 : gi h3 171 0 = 0 := (FRM_gi hF3 (r := 54) rfl rfl).trans t2
        replace hF3 : FRM gRL [(0, 54, 0, 0), (0, 54, 17, 20), (0, 54, 35, 35), (0, 70, 0, 59), (0, 71, 0, 59)] h h3 := hF2.trans (hF3.mono rfl)
        have ar3 := at_r hG3
        rcases hv with rfl | ⟨rfl, q1, q2, q3⟩
        · refine x_istore_n 39 hK rfl rfl _ rfl ?_
          refine x_goto 19 hK rfl rfl ?_
          exact end0 n h3 _ rn (lk1_n l0 (by decide) (Or.inl rfl)) (lk1_n l1 (by decide) (Or.inl rfl)) lk1_s hG3 hF3 t3
        · refine x_istore_n 39 hK rfl rfl _ rfl ?_
          refine x_goto 19 hK rfl rfl ?_
          exact ih _ (by omega) 1 n h3 _ rfl (by omega) (by omega) rn (lk1_n l0 (by decide) (Or.inl rfl)) (lk1_n l1 (by decide) (Or.inl rfl)) lk1_s hG3 hF3 t3
  refine x_aload_n 1 hK rfl rfl rfl ?_
  refine x_iconst 2 hK rfl rfl ?_
  refine x_putI 5 hK rfl rfl (sp_171 (h := h) hG) ?_
  refine x_aload_n 6 hK rfl rfl rfl ?_
  refine x_bipush 8 hK rfl rfl rfl ?_
  have hGb : GD gE gRL sh (wI h 171 0 0) := GD_w1 (hG) (r := 54) rfl (by omega) rfl (by omega) (by omega)
  refine x_callV 11 hK hmono rfl rfl [.ref 171, .int (I 60)] [] rfl rfl (Nat.le_of_ble_eq_true rfl) (Nat.le_of_ble_eq_true rfl) rfl (sp_171 (h := h) hG) (CLd_le (Nat.le_of_ble_eq_true rfl) (ctX11_begins hSP hGb (by omega))) ?_
  rintro v1 h1 ⟨rfl, hG1, hF1, b17, b18, b20, b19⟩
  have tn := gri 0 80 hGb (a := 171) (r := 54) (k := 17) rfl rfl
  generalize gi (wI h 171 0 0) 171 17 = n at *
  have b0 : gi h1 171 0 = 0 := (FRM_gi hF1 (r := 54) rfl rfl).trans (gi_same (by omega))
  replace hF1 : FRM gRL [(0, 54, 0, 0), (0, 54, 17, 20), (0, 54, 35, 35), (0, 70, 0, 59), (0, 71, 0, 59)] h h1 := (FRM_w (FRM.rf) (r := 54) rfl rfl).trans (hF1.mono rfl)
  have rn : r32 n := by omega
  clear hGb
  refine x_istore_n 12 hK rfl rfl [(1, .int (I n)), (0, .ref 171)] rfl ?_
  refine x_aload_n 13 hK rfl rfl rfl ?_
  refine x_iconst 14 hK rfl rfl ?_
  refine x_putI 17 hK rfl rfl (sp_171 (h := h1) hG1) ?_
  refine x_iconst 18 hK rfl rfl ?_
  refine x_istore_n 19 hK rfl rfl [(2, .int (I 1)), (1, .int (I n)), (0, .ref 171)] rfl ?_
  have s18 : gi (wI h1 171 35 0) 171 18 = (gi h1 171 18) := gi_k (by decide) _
  have s19 : gi (wI h1 171 35 0) 171 19 = (gi h1 171 19) := gi_k (by decide) _
  have s35 : gi (wI h1 171 35 0) 171 35 = 0 := gi_same (by omega)
  exact loop1 _ 1 n _ _ rfl (Or.inr ⟨rfl, by omega, by omega⟩) (by omega) rn rfl rfl rfl (GD_w1 (hG1) (r := 54) rfl (by omega) rfl (by omega) (by omega)) (FRM_w (hF1) (r := 54) rfl rfl) ((gi_k (by decide) _).trans b0)
