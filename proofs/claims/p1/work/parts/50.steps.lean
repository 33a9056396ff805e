/-! ORDERS, STEPS, VOYAGES (the reference): safe, and by how much the step's number grows -/
/-- writes that leave the step's number alone -/
def nbOk (M : MD) : Bool := M.all fun q => !(Nat.beq q.1 0) || (!(Nat.beq q.2.1 69) && !(Nat.beq q.2.1 83) && (!(Nat.beq q.2.1 61) || Nat.blt 0 q.2.2.1))
theorem mHas_no {M : MD} {r k : Nat} (h : (M.all fun q => !(Nat.beq q.1 0 && Nat.beq q.2.1 r && Nat.ble q.2.2.1 k && Nat.ble k q.2.2.2)) = true) : mHas M 0 r k = false := by
  cases hc : mHas M 0 r k with
  | false => rfl
  | true =>
    obtain ⟨q, hq, h2⟩ := List.any_eq_true.mp hc
    have := List.all_eq_true.mp h q hq
    rw [h2] at this
    cases this
theorem nb_has {M : MD} (h : nbOk M = true) (k : Nat) : mHas M 0 61 0 = false ∧ mHas M 0 69 k = false ∧ mHas M 0 83 k = false := by
  refine ⟨mHas_no ?_, mHas_no ?_, mHas_no ?_⟩ <;> refine List.all_eq_true.mpr fun q hq => ?_ <;> have z := List.all_eq_true.mp h q hq <;>
    cases e0 : Nat.beq q.1 0 <;> simp only [e0, Bool.not_false, Bool.true_or, Bool.false_and, Bool.not_true, Bool.false_or, Bool.true_and, Bool.and_eq_true, Bool.not_eq_true', Bool.or_eq_true] at z ⊢
  · cases e1 : Nat.beq q.2.1 61
    · simp
    · have : ¬ q.2.2.1 ≤ 0 := by
        rcases z.2 with z2 | z2
        · rw [e1] at z2; cases z2
        · have := bt z2; omega
      have e2 : Nat.ble q.2.2.1 0 = false := by
        cases e3 : Nat.ble q.2.2.1 0
        · rfl
        · exact absurd (Nat.le_of_ble_eq_true e3) this
      simp [e2]
  · simp [z.1.1]
  · simp [z.1.2]
theorem NB_frm {M : MD} {h h' : aH} {b : Int} (hM : nbOk M = true) (hF : FRM gRL M h h') (n : NB b h) : NB b h' := by
  refine ⟨?_, fun u hu => ?_, fun u hu => ?_⟩
  · rw [FRM_gi hF (r := 61) rfl (nb_has hM 0).1]; exact n.1
  · rw [FRM_gi hF (r := 69) rfl (nb_has hM _).2.1]; exact n.2.1 u hu
  · rw [FRM_gi hF (r := 83) rfl (nb_has hM _).2.2]; exact n.2.2 u hu
theorem tm2 (a : Int) : -1 ≤ a.tmod 2 ∧ a.tmod 2 ≤ 1 := by
  by_cases c : 0 ≤ a
  · rw [Int.tmod_eq_emod_of_nonneg c]; omega
  · have e : a.tmod 2 = -((-a).tmod 2) := by rw [Int.neg_tmod, Int.neg_neg]
    rw [e, Int.tmod_eq_emod_of_nonneg (by omega)]; omega
theorem ctX11_turned {SP : CT} (hSP : MONO SP) {sh : List (Nat × Nat)} {h : aH} (hG : GD gE gRL sh h) {v : Int} : CLd SP 1 mX11_turned [.ref 171, .int (I v)] h 0 0 (fun rv h' => h' = h ∧ rv = some (.int (I (if (gi h 171 5).tmod 2 = 1 then -v else v)))) := by
  refine x_met _ rfl (Nat.le_of_ble_eq_true rfl) (fun K hK => ?_)
  have hmono := MONO_CLd hSP 0
  refine x_aload_n 1 hK rfl rfl rfl ?_
  refine x_getE 4 hK rfl (Or.inl rfl) rfl (sp_171 (h := h) hG) (e := (gi h 171 5)) (rfl) ?_
  refine x_iconst 5 hK rfl rfl ?_
  refine x_irem 6 hK rfl rfl (gi_r _ _ _) (by omega) (by omega) (by omega) ?_
  have tm := tm2 (gi h 171 5)
  generalize (gi h 171 5).tmod 2 = t at *
  refine x_iconst 7 hK rfl rfl ?_
  refine x_if_icmp_ne 15 10 hK rfl rfl rfl (by omega) (by omega) (fun c6 => ?_) (fun c6 => ?_)
  · refine x_iload_n 16 hK rfl rfl rfl ?_
    exact x_iret hK rfl ⟨rfl, by rw [if_neg (by omega)]⟩
  · refine x_iload_n 11 hK rfl rfl rfl ?_
    refine x_ineg 12 hK rfl rfl ?_
    refine x_goto 16 hK rfl rfl ?_
    exact x_iret hK rfl ⟨rfl, by rw [if_pos (by omega)]⟩
theorem ctX11_givesN {SP : CT} (hSP : MONO SP) {sh : List (Nat × Nat)} {h : aH} (hG : GD gE gRL sh h) {v : Int} (hX : XI h) (hv : r32 v) : CLd SP 7 mX11_gives [.ref 171, .ref 178, .int (I v)] h 0 0 (fun rv h' => (∃ e, rv = some (.int (I e)) ∧ -3 ≤ e ∧ e ≤ 12) ∧ GD gE gRL sh h' ∧ FRM gRL [(0, 61, 3, 40), (0, 67, 0, 79), (0, 68, 0, 3)] h h') := by
  refine x_met _ rfl (Nat.le_of_ble_eq_true rfl) (fun K hK => ?_)
  have hmono := MONO_CLd hSP 6
  have gr := gi_r h 178
  have g3 := gri 0 12 hG (a := 178) (r := 61) (k := 3) rfl rfl
  refine x_iload_n 1 hK rfl rfl rfl ?_
  refine x_i2l 2 hK rfl rfl (by first | omega | exact gr _ | exact gr8 _) ?_
  refine x_ldc2_w 5 hK rfl rfl ?_
  refine x_lconstE 6 1 hK rfl rfl rfl ?_
  refine x_callS 9 hK hmono rfl (Or.inl rfl) rfl [.long (J v), .long (J (-1)), .long (J 1)] [] rfl rfl (Nat.le_of_ble_eq_true rfl) (Nat.le_of_ble_eq_true rfl) (CLd_le (Nat.le_of_ble_eq_true rfl) (ctX11_in (by omega) (by omega) (by omega))) ?_
  rintro v9 h9 ⟨e9, ⟨rfl, i1, i2⟩ | ⟨rfl, i1⟩⟩ <;> rw [e9] <;> clear e9
  · refine x_if_ne 14 12 hK rfl rfl rfl (by first | omega | exact gr _ | exact gr8 _) (fun _ => ?_) (fun c => by omega)
    refine x_aload_n 15 hK rfl rfl rfl ?_
    refine x_iconst 16 hK rfl rfl ?_
    refine x_ialoadE 17 hK rfl rfl (sp_178 (h := h) hG) (by first | omega | exact gr _ | exact gr8 _) (by first | omega | exact gr _ | exact gr8 _) (by first | omega | exact gr _ | exact gr8 _) (e' := (gi h 178 4)) (rfl) ?_
    refine x_aload_n 18 hK rfl rfl rfl ?_
    refine x_iconst 19 hK rfl rfl ?_
    refine x_ialoadE 20 hK rfl rfl (sp_178 (h := h) hG) (by first | omega | exact gr _ | exact gr8 _) (by first | omega | exact gr _ | exact gr8 _) (by first | omega | exact gr _ | exact gr8 _) (e' := (gi h 178 0)) (rfl) ?_
    refine x_if_icmp_ne 26 23 hK rfl rfl rfl (by first | omega | exact gr _ | exact gr8 _) (by first | omega | exact gr _ | exact gr8 _) (fun c13 => ?_) (fun c13 => ?_)
    · refine x_aload_n 27 hK rfl rfl rfl ?_
      refine x_iconst 28 hK rfl rfl ?_
      refine x_ialoadE 29 hK rfl rfl (sp_178 (h := h) hG) (by first | omega | exact gr _ | exact gr8 _) (by first | omega | exact gr _ | exact gr8 _) (by first | omega | exact gr _ | exact gr8 _) (e' := (gi h 178 3)) (rfl) ?_
      refine x_bipush 31 hK rfl rfl rfl ?_
      refine x_if_icmp_ne 37 34 hK rfl rfl rfl (by first | omega | exact gr _ | exact gr8 _) (by first | omega | exact gr _ | exact gr8 _) (fun c18 => ?_) (fun c18 => ?_)
      · refine x_aload_n 38 hK rfl rfl rfl ?_
        refine x_aload_n 39 hK rfl rfl rfl ?_
        refine x_iconst 40 hK rfl rfl ?_
        refine x_ialoadE 41 hK rfl rfl (sp_178 (h := h) hG) (by first | omega | exact gr _ | exact gr8 _) (by first | omega | exact gr _ | exact gr8 _) (by first | omega | exact gr _ | exact gr8 _) (e' := (gi h 178 0)) (rfl) ?_
        refine x_callV 44 hK hmono rfl rfl [.ref 171, .int (I (gi h 178 0))] [] rfl rfl (Nat.le_of_ble_eq_true rfl) (Nat.le_of_ble_eq_true rfl) rfl (sp_171 (h := h) hG) (CLd_le (Nat.le_of_ble_eq_true rfl) (kX11_delayAt_0 hSP [.ref 171, .int (I (gi h 178 0))] _ hX ⟨gv_r (by decide) rfl, ⟨_, rfl, i32_lo _, i32_hi _, trivial⟩, trivial⟩ hG gov_n)) ?_
        rintro v8 h8 ⟨hG8, hF8, o8, m8, q8, z8, -⟩
        obtain rfl := List.mem_singleton.mp m8
        obtain ⟨w8, rw8, rfl, lw8, uw8⟩ := QS_i q8
        have k8 : ∀ k, gi h8 178 k = gi h 178 k := fun k => FRM_gi hF8 (r := 61) rfl rfl
        have hX8 : XI h8 := xOk_ok rfl h h8 hF8 hX
        have gr8 := gi_r h8 178
        have g38 := gri 0 12 hG8 (a := 178) (r := 61) (k := 3) rfl rfl
        have k83 := k8 3
        replace hF8 : FRM gRL [(0, 61, 3, 40), (0, 67, 0, 79), (0, 68, 0, 3)] h h8 := hF8.mono rfl
        refine x_istore_n 45 hK rfl rfl [(3, .int (I w8)), (0, .ref 171), (1, .ref 178), (2, .int (I v))] rfl ?_
        refine x_iconst 46 hK rfl rfl ?_
        refine x_iconst 47 hK rfl rfl ?_
        refine x_aload_n 48 hK rfl rfl rfl ?_
        refine x_iconst 49 hK rfl rfl ?_
        refine x_ialoadE 50 hK rfl rfl (sp_178 (h := h8) hG8) (by first | omega | exact gr _ | exact gr8 _) (by first | omega | exact gr _ | exact gr8 _) (by first | omega | exact gr _ | exact gr8 _) (e' := (gi h8 178 3)) (rfl) ?_
        refine x_imul 51 hK rfl rfl ?_
        refine x_iadd 52 hK rfl rfl ?_
        refine x_istore 54 hK rfl rfl [(4, .int (I (5 + (3 * (gi h8 178 3))))), (3, .int (I w8)), (0, .ref 171), (1, .ref 178), (2, .int (I v))] rfl ?_
        refine x_aload_n 55 hK rfl rfl rfl ?_
        refine x_iload 57 hK rfl rfl rfl ?_
        refine x_iconst 58 hK rfl rfl ?_
        refine x_iadd 59 hK rfl rfl ?_
        refine x_aload_n 60 hK rfl rfl rfl ?_
        refine x_iconst 61 hK rfl rfl ?_
        refine x_ialoadE 62 hK rfl rfl (sp_178 (h := h8) hG8) (by first | omega | exact gr _ | exact gr8 _) (by first | omega | exact gr _ | exact gr8 _) (by first | omega | exact gr _ | exact gr8 _) (e' := (gi h8 178 0)) (rfl) ?_
        refine x_iload_n 63 hK rfl rfl rfl ?_
        refine x_iadd 64 hK rfl rfl ?_
        refine x_iastore 65 hK rfl rfl (sp_178 (h := h8) hG8) (by first | omega | exact gr _ | exact gr8 _) (by first | omega | exact gr _ | exact gr8 _) (by first | omega | exact gr _ | exact gr8 _) ?_
        refine x_aload_n 66 hK rfl rfl rfl ?_
        refine x_iload 68 hK rfl rfl rfl ?_
        refine x_iconst 69 hK rfl rfl ?_
        refine x_iadd 70 hK rfl rfl ?_
        refine x_aload_n 71 hK rfl rfl rfl ?_
        refine x_iload_n 72 hK rfl rfl rfl ?_
        have hG7 : GD gE gRL sh (wI h8 178 ((5 + (3 * (gi h8 178 3))) + 0).toNat ((gi h8 178 0) + w8)) := GD_st (hG8) (r := 61) rfl rfl (fun z => by omega) (fun z => by omega) (fun j hj z => by omega)
        refine x_callV 75 hK hmono rfl rfl [.ref 171, .int (I v)] [.int (I ((5 + (3 * (gi h8 178 3))) + 1)), .ref 178] rfl rfl (Nat.le_of_ble_eq_true rfl) (Nat.le_of_ble_eq_true rfl) rfl (sp_171 (h := h8) hG8) (CLd_le (Nat.le_of_ble_eq_true rfl) (ctX11_turned hSP hG7)) ?_
        rintro v9 h9 ⟨e9, rfl⟩
        rw [e9]
        clear e9
        obtain ⟨w6, hw6, lw6, uw6⟩ : ∃ n : Int, (if (gi (wI h8 178 ((5 + (3 * (gi h8 178 3))) + 0).toNat ((gi h8 178 0) + w8)) 171 5).tmod 2 = 1 then -v else v) = n ∧ -1 ≤ n ∧ n ≤ 1 := by
          by_cases c : (gi (wI h8 178 ((5 + (3 * (gi h8 178 3))) + 0).toNat ((gi h8 178 0) + w8)) 171 5).tmod 2 = 1
          · rw [if_pos c]; exact ⟨_, rfl, by omega, by omega⟩
          · rw [if_neg c]; exact ⟨_, rfl, by omega, by omega⟩
        rw [hw6]
        refine x_iastore 76 hK rfl rfl (sp_178 (h := h8) hG8) (by first | omega | exact gr _ | exact gr8 _) (by first | omega | exact gr _ | exact gr8 _) (by first | omega | exact gr _ | exact gr8 _) ?_
        refine x_aload_n 77 hK rfl rfl rfl ?_
        refine x_iload 79 hK rfl rfl rfl ?_
        refine x_iconst 80 hK rfl rfl ?_
        refine x_iadd 81 hK rfl rfl ?_
        refine x_aload_n 82 hK rfl rfl rfl ?_
        refine x_iconst 83 hK rfl rfl ?_
        refine x_ialoadE 84 hK rfl rfl (sp_178 (h := h8) hG8) (by first | omega | exact gr _ | exact gr8 _) (by first | omega | exact gr _ | exact gr8 _) (by first | omega | exact gr _ | exact gr8 _) (e' := (gi h8 178 0)) ((gi_k (by omega) _).trans (gi_k (by omega) _)) ?_
        refine x_iastore 85 hK rfl rfl (sp_178 (h := h8) hG8) (by first | omega | exact gr _ | exact gr8 _) (by first | omega | exact gr _ | exact gr8 _) (by first | omega | exact gr _ | exact gr8 _) ?_
        refine x_aload_n 86 hK rfl rfl rfl ?_
        refine x_iconst 87 hK rfl rfl ?_
        refine x_dup2 88 hK rfl rfl rfl rfl ?_
        refine x_ialoadE 89 hK rfl rfl (sp_178 (h := h8) hG8) (by first | omega | exact gr _ | exact gr8 _) (by first | omega | exact gr _ | exact gr8 _) (by first | omega | exact gr _ | exact gr8 _) (e' := (gi h8 178 3)) ((gi_k (by omega) _).trans ((gi_k (by omega) _).trans (gi_k (by omega) _))) ?_
        refine x_iconst 90 hK rfl rfl ?_
        refine x_iadd 91 hK rfl rfl ?_
        refine x_iastore 92 hK rfl rfl (sp_178 (h := h8) hG8) (by first | omega | exact gr _ | exact gr8 _) (by first | omega | exact gr _ | exact gr8 _) (by first | omega | exact gr _ | exact gr8 _) ?_
        refine x_aload_n 93 hK rfl rfl rfl ?_
        refine x_iconst 94 hK rfl rfl ?_
        refine x_aload_n 95 hK rfl rfl rfl ?_
        refine x_iconst 96 hK rfl rfl ?_
        refine x_ialoadE 97 hK rfl rfl (sp_178 (h := h8) hG8) (by first | omega | exact gr _ | exact gr8 _) (by first | omega | exact gr _ | exact gr8 _) (by first | omega | exact gr _ | exact gr8 _) (e' := (gi h8 178 0)) ((gi_k (by omega) _).trans ((gi_k (by omega) _).trans ((gi_k (by omega) _).trans (gi_k (by omega) _)))) ?_
        refine x_iastore 98 hK rfl rfl (sp_178 (h := h8) hG8) (by first | omega | exact gr _ | exact gr8 _) (by first | omega | exact gr _ | exact gr8 _) (by first | omega | exact gr _ | exact gr8 _) ?_
        refine x_iload_n 99 hK rfl rfl rfl ?_
        exact x_iret hK rfl ⟨⟨_, rfl, by omega, by omega⟩, GD_st (GD_st (GD_st (GD_st (GD_st (hG8) (r := 61) rfl rfl (fun z => by omega) (fun z => by omega) (fun j hj z => by omega)) (r := 61) rfl rfl (fun z => by omega) (fun z => by omega) (fun j hj z => by omega)) (r := 61) rfl rfl (fun z => by omega) (fun z => by omega) (fun j hj z => by omega)) (r := 61) rfl rfl (fun z => by omega) (fun z => by omega) (fun j hj z => by omega)) (r := 61) rfl rfl (fun z => by omega) (fun z => by omega) (fun j hj z => by omega), FRM_w (FRM_w (FRM_wn 3 40 (FRM_wn 3 40 (FRM_wn 3 40 (hF8) (r := 61) rfl rfl rfl (by omega) (by omega)) (r := 61) rfl rfl rfl (by omega) (by omega)) (r := 61) rfl rfl rfl (by omega) (by omega)) (r := 61) rfl rfl) (r := 61) rfl rfl⟩
      · refine x_bipush 36 hK rfl rfl rfl ?_
        exact x_iret hK rfl ⟨⟨_, rfl, by omega, by omega⟩, hG, FRM.rf⟩
    · refine x_bipush 25 hK rfl rfl rfl ?_
      exact x_iret hK rfl ⟨⟨_, rfl, by omega, by omega⟩, hG, FRM.rf⟩
  · refine x_if_ne 14 12 hK rfl rfl rfl (by first | omega | exact gr _ | exact gr8 _) (fun c => by omega) (fun _ => ?_)
    refine x_iconst 13 hK rfl rfl ?_
    exact x_iret hK rfl ⟨⟨_, rfl, by omega, by omega⟩, hG, FRM.rf⟩
theorem ctX11_givesT {SP : CT} (hSP : MONO SP) {sh : List (Nat × Nat)} {h : aH} (hG : GD gE gRL sh h) {v : Int} (hX : XI h) (hv : r32 v) : CLd SP 7 mX11_gives [.ref 171, .ref 179, .int (I v)] h 0 0 (fun rv h' => (∃ e, rv = some (.int (I e)) ∧ -3 ≤ e ∧ e ≤ 12) ∧ GD gE gRL sh h' ∧ FRM gRL [(0, 62, 3, 40), (0, 67, 0, 79), (0, 68, 0, 3)] h h') := by
  refine x_met _ rfl (Nat.le_of_ble_eq_true rfl) (fun K hK => ?_)
  have hmono := MONO_CLd hSP 6
  have gr := gi_r h 179
  have g3 := gri 0 12 hG (a := 179) (r := 62) (k := 3) rfl rfl
  refine x_iload_n 1 hK rfl rfl rfl ?_
  refine x_i2l 2 hK rfl rfl (by first | omega | exact gr _ | exact gr8 _) ?_
  refine x_ldc2_w 5 hK rfl rfl ?_
  refine x_lconstE 6 1 hK rfl rfl rfl ?_
  refine x_callS 9 hK hmono rfl (Or.inl rfl) rfl [.long (J v), .long (J (-1)), .long (J 1)] [] rfl rfl (Nat.le_of_ble_eq_true rfl) (Nat.le_of_ble_eq_true rfl) (CLd_le (Nat.le_of_ble_eq_true rfl) (ctX11_in (by omega) (by omega) (by omega))) ?_
  rintro v9 h9 ⟨e9, ⟨rfl, i1, i2⟩ | ⟨rfl, i1⟩⟩ <;> rw [e9] <;> clear e9
  · refine x_if_ne 14 12 hK rfl rfl rfl (by first | omega | exact gr _ | exact gr8 _) (fun _ => ?_) (fun c => by omega)
    refine x_aload_n 15 hK rfl rfl rfl ?_
    refine x_iconst 16 hK rfl rfl ?_
    refine x_ialoadE 17 hK rfl rfl (sp_179 (h := h) hG) (by first | omega | exact gr _ | exact gr8 _) (by first | omega | exact gr _ | exact gr8 _) (by first | omega | exact gr _ | exact gr8 _) (e' := (gi h 179 4)) (rfl) ?_
    refine x_aload_n 18 hK rfl rfl rfl ?_
    refine x_iconst 19 hK rfl rfl ?_
    refine x_ialoadE 20 hK rfl rfl (sp_179 (h := h) hG) (by first | omega | exact gr _ | exact gr8 _) (by first | omega | exact gr _ | exact gr8 _) (by first | omega | exact gr _ | exact gr8 _) (e' := (gi h 179 0)) (rfl) ?_
    refine x_if_icmp_ne 26 23 hK rfl rfl rfl (by first | omega | exact gr _ | exact gr8 _) (by first | omega | exact gr _ | exact gr8 _) (fun c13 => ?_) (fun c13 => ?_)
    · refine x_aload_n 27 hK rfl rfl rfl ?_
      refine x_iconst 28 hK rfl rfl ?_
      refine x_ialoadE 29 hK rfl rfl (sp_179 (h := h) hG) (by first | omega | exact gr _ | exact gr8 _) (by first | omega | exact gr _ | exact gr8 _) (by first | omega | exact gr _ | exact gr8 _) (e' := (gi h 179 3)) (rfl) ?_
      refine x_bipush 31 hK rfl rfl rfl ?_
      refine x_if_icmp_ne 37 34 hK rfl rfl rfl (by first | omega | exact gr _ | exact gr8 _) (by first | omega | exact gr _ | exact gr8 _) (fun c18 => ?_) (fun c18 => ?_)
      · refine x_aload_n 38 hK rfl rfl rfl ?_
        refine x_aload_n 39 hK rfl rfl rfl ?_
        refine x_iconst 40 hK rfl rfl ?_
        refine x_ialoadE 41 hK rfl rfl (sp_179 (h := h) hG) (by first | omega | exact gr _ | exact gr8 _) (by first | omega | exact gr _ | exact gr8 _) (by first | omega | exact gr _ | exact gr8 _) (e' := (gi h 179 0)) (rfl) ?_
        refine x_callV 44 hK hmono rfl rfl [.ref 171, .int (I (gi h 179 0))] [] rfl rfl (Nat.le_of_ble_eq_true rfl) (Nat.le_of_ble_eq_true rfl) rfl (sp_171 (h := h) hG) (CLd_le (Nat.le_of_ble_eq_true rfl) (kX11_delayAt_0 hSP [.ref 171, .int (I (gi h 179 0))] _ hX ⟨gv_r (by decide) rfl, ⟨_, rfl, i32_lo _, i32_hi _, trivial⟩, trivial⟩ hG gov_n)) ?_
        rintro v8 h8 ⟨hG8, hF8, o8, m8, q8, z8, -⟩
        obtain rfl := List.mem_singleton.mp m8
        obtain ⟨w8, rw8, rfl, lw8, uw8⟩ := QS_i q8
        have k8 : ∀ k, gi h8 179 k = gi h 179 k := fun k => FRM_gi hF8 (r := 62) rfl rfl
        have hX8 : XI h8 := xOk_ok rfl h h8 hF8 hX
        have gr8 := gi_r h8 179
        have g38 := gri 0 12 hG8 (a := 179) (r := 62) (k := 3) rfl rfl
        have k83 := k8 3
        replace hF8 : FRM gRL [(0, 62, 3, 40), (0, 67, 0, 79), (0, 68, 0, 3)] h h8 := hF8.mono rfl
        refine x_istore_n 45 hK rfl rfl [(3, .int (I w8)), (0, .ref 171), (1, .ref 179), (2, .int (I v))] rfl ?_
        refine x_iconst 46 hK rfl rfl ?_
        refine x_iconst 47 hK rfl rfl ?_
        refine x_aload_n 48 hK rfl rfl rfl ?_
        refine x_iconst 49 hK rfl rfl ?_
        refine x_ialoadE 50 hK rfl rfl (sp_179 (h := h8) hG8) (by first | omega | exact gr _ | exact gr8 _) (by first | omega | exact gr _ | exact gr8 _) (by first | omega | exact gr _ | exact gr8 _) (e' := (gi h8 179 3)) (rfl) ?_
        refine x_imul 51 hK rfl rfl ?_
        refine x_iadd 52 hK rfl rfl ?_
        refine x_istore 54 hK rfl rfl [(4, .int (I (5 + (3 * (gi h8 179 3))))), (3, .int (I w8)), (0, .ref 171), (1, .ref 179), (2, .int (I v))] rfl ?_
        refine x_aload_n 55 hK rfl rfl rfl ?_
        refine x_iload 57 hK rfl rfl rfl ?_
        refine x_iconst 58 hK rfl rfl ?_
        refine x_iadd 59 hK rfl rfl ?_
        refine x_aload_n 60 hK rfl rfl rfl ?_
        refine x_iconst 61 hK rfl rfl ?_
        refine x_ialoadE 62 hK rfl rfl (sp_179 (h := h8) hG8) (by first | omega | exact gr _ | exact gr8 _) (by first | omega | exact gr _ | exact gr8 _) (by first | omega | exact gr _ | exact gr8 _) (e' := (gi h8 179 0)) (rfl) ?_
        refine x_iload_n 63 hK rfl rfl rfl ?_
        refine x_iadd 64 hK rfl rfl ?_
        refine x_iastore 65 hK rfl rfl (sp_179 (h := h8) hG8) (by first | omega | exact gr _ | exact gr8 _) (by first | omega | exact gr _ | exact gr8 _) (by first | omega | exact gr _ | exact gr8 _) ?_
        refine x_aload_n 66 hK rfl rfl rfl ?_
        refine x_iload 68 hK rfl rfl rfl ?_
        refine x_iconst 69 hK rfl rfl ?_
        refine x_iadd 70 hK rfl rfl ?_
        refine x_aload_n 71 hK rfl rfl rfl ?_
        refine x_iload_n 72 hK rfl rfl rfl ?_
        have hG7 : GD gE gRL sh (wI h8 179 ((5 + (3 * (gi h8 179 3))) + 0).toNat ((gi h8 179 0) + w8)) := GD_st (hG8) (r := 62) rfl rfl (fun z => by omega) (fun z => by omega) (fun j hj z => by omega)
        refine x_callV 75 hK hmono rfl rfl [.ref 171, .int (I v)] [.int (I ((5 + (3 * (gi h8 179 3))) + 1)), .ref 179] rfl rfl (Nat.le_of_ble_eq_true rfl) (Nat.le_of_ble_eq_true rfl) rfl (sp_171 (h := h8) hG8) (CLd_le (Nat.le_of_ble_eq_true rfl) (ctX11_turned hSP hG7)) ?_
        rintro v9 h9 ⟨e9, rfl⟩
        rw [e9]
        clear e9
        obtain ⟨w6, hw6, lw6, uw6⟩ : ∃ n : Int, (if (gi (wI h8 179 ((5 + (3 * (gi h8 179 3))) + 0).toNat ((gi h8 179 0) + w8)) 171 5).tmod 2 = 1 then -v else v) = n ∧ -1 ≤ n ∧ n ≤ 1 := by
          by_cases c : (gi (wI h8 179 ((5 + (3 * (gi h8 179 3))) + 0).toNat ((gi h8 179 0) + w8)) 171 5).tmod 2 = 1
          · rw [if_pos c]; exact ⟨_, rfl, by omega, by omega⟩
          · rw [if_neg c]; exact ⟨_, rfl, by omega, by omega⟩
        rw [hw6]
        refine x_iastore 76 hK rfl rfl (sp_179 (h := h8) hG8) (by first | omega | exact gr _ | exact gr8 _) (by first | omega | exact gr _ | exact gr8 _) (by first | omega | exact gr _ | exact gr8 _) ?_
        refine x_aload_n 77 hK rfl rfl rfl ?_
        refine x_iload 79 hK rfl rfl rfl ?_
        refine x_iconst 80 hK rfl rfl ?_
        refine x_iadd 81 hK rfl rfl ?_
        refine x_aload_n 82 hK rfl rfl rfl ?_
        refine x_iconst 83 hK rfl rfl ?_
        refine x_ialoadE 84 hK rfl rfl (sp_179 (h := h8) hG8) (by first | omega | exact gr _ | exact gr8 _) (by first | omega | exact gr _ | exact gr8 _) (by first | omega | exact gr _ | exact gr8 _) (e' := (gi h8 179 0)) ((gi_k (by omega) _).trans (gi_k (by omega) _)) ?_
        refine x_iastore 85 hK rfl rfl (sp_179 (h := h8) hG8) (by first | omega | exact gr _ | exact gr8 _) (by first | omega | exact gr _ | exact gr8 _) (by first | omega | exact gr _ | exact gr8 _) ?_
        refine x_aload_n 86 hK rfl rfl rfl ?_
        refine x_iconst 87 hK rfl rfl ?_
        refine x_dup2 88 hK rfl rfl rfl rfl ?_
        refine x_ialoadE 89 hK rfl rfl (sp_179 (h := h8) hG8) (by first | omega | exact gr _ | exact gr8 _) (by first | omega | exact gr _ | exact gr8 _) (by first | omega | exact gr _ | exact gr8 _) (e' := (gi h8 179 3)) ((gi_k (by omega) _).trans ((gi_k (by omega) _).trans (gi_k (by omega) _))) ?_
        refine x_iconst 90 hK rfl rfl ?_
        refine x_iadd 91 hK rfl rfl ?_
        refine x_iastore 92 hK rfl rfl (sp_179 (h := h8) hG8) (by first | omega | exact gr _ | exact gr8 _) (by first | omega | exact gr _ | exact gr8 _) (by first | omega | exact gr _ | exact gr8 _) ?_
        refine x_aload_n 93 hK rfl rfl rfl ?_
        refine x_iconst 94 hK rfl rfl ?_
        refine x_aload_n 95 hK rfl rfl rfl ?_
        refine x_iconst 96 hK rfl rfl ?_
        refine x_ialoadE 97 hK rfl rfl (sp_179 (h := h8) hG8) (by first | omega | exact gr _ | exact gr8 _) (by first | omega | exact gr _ | exact gr8 _) (by first | omega | exact gr _ | exact gr8 _) (e' := (gi h8 179 0)) ((gi_k (by omega) _).trans ((gi_k (by omega) _).trans ((gi_k (by omega) _).trans (gi_k (by omega) _)))) ?_
        refine x_iastore 98 hK rfl rfl (sp_179 (h := h8) hG8) (by first | omega | exact gr _ | exact gr8 _) (by first | omega | exact gr _ | exact gr8 _) (by first | omega | exact gr _ | exact gr8 _) ?_
        refine x_iload_n 99 hK rfl rfl rfl ?_
        exact x_iret hK rfl ⟨⟨_, rfl, by omega, by omega⟩, GD_st (GD_st (GD_st (GD_st (GD_st (hG8) (r := 62) rfl rfl (fun z => by omega) (fun z => by omega) (fun j hj z => by omega)) (r := 62) rfl rfl (fun z => by omega) (fun z => by omega) (fun j hj z => by omega)) (r := 62) rfl rfl (fun z => by omega) (fun z => by omega) (fun j hj z => by omega)) (r := 62) rfl rfl (fun z => by omega) (fun z => by omega) (fun j hj z => by omega)) (r := 62) rfl rfl (fun z => by omega) (fun z => by omega) (fun j hj z => by omega), FRM_w (FRM_w (FRM_wn 3 40 (FRM_wn 3 40 (FRM_wn 3 40 (hF8) (r := 62) rfl rfl rfl (by omega) (by omega)) (r := 62) rfl rfl rfl (by omega) (by omega)) (r := 62) rfl rfl rfl (by omega) (by omega)) (r := 62) rfl rfl) (r := 62) rfl rfl⟩
      · refine x_bipush 36 hK rfl rfl rfl ?_
        exact x_iret hK rfl ⟨⟨_, rfl, by omega, by omega⟩, hG, FRM.rf⟩
    · refine x_bipush 25 hK rfl rfl rfl ?_
      exact x_iret hK rfl ⟨⟨_, rfl, by omega, by omega⟩, hG, FRM.rf⟩
  · refine x_if_ne 14 12 hK rfl rfl rfl (by first | omega | exact gr _ | exact gr8 _) (fun c => by omega) (fun _ => ?_)
    refine x_iconst 13 hK rfl rfl ?_
    exact x_iret hK rfl ⟨⟨_, rfl, by omega, by omega⟩, hG, FRM.rf⟩
theorem ctX11_stepGoesN {SP : CT} (hSP : MONO SP) {sh : List (Nat × Nat)} {h : aH} (hG : GD gE gRL sh h) (hX : XI h) : CLd SP 5 mX11_stepGoes [.ref 171, .ref 178] h 0 0 (fun rv h' => rv = none ∧ GD gE gRL sh h' ∧ FRM gRL [(0, 54, 31, 32), (0, 61, 0, 56)] h h' ∧ (gi h 178 0 < 2147483647 → gi h' 178 0 = gi h 178 0 + 1)) := by
  refine x_met _ rfl (Nat.le_of_ble_eq_true rfl) (fun K hK => ?_)
  have hmono := MONO_CLd hSP 4
  have gr := gi_r h 178
  have gm := gri 0 8 hG (a := 171) (r := 54) (k := 7) rfl rfl
  have loop : ∀ (m : Nat) (k : Int) (h4 : aH) (ls : List (Nat × Value)), ((gi h 171 7 - k).toNat = m) → 0 ≤ k → k ≤ gi h 171 7 → lk ls 0 = some (.ref 171) → lk ls 1 = some (.ref 178) → lk ls 3 = some (.int (I k)) → GD gE gRL sh h4 → FRM gRL [(0, 54, 31, 32), (0, 61, 0, 56)] h h4 → (gi h 178 0 < 2147483647 → gi h4 178 0 = gi h 178 0 + 1) → K 41 ls [] h4 0 0 := by
    intro m
    induction m using Nat.strongRecOn with
    | ind m ih =>
    intro k h4 ls hm h0 hk l0 l1 l3 hG4 hF4 e4
    have k47 : gi h4 171 7 = gi h 171 7 := FRM_gi hF4 (r := 54) rfl rfl
    have gr4 := gi_r h4
    refine x_iload_n 42 hK rfl rfl l3 ?_
    refine x_aload_n 43 hK rfl rfl l0 ?_
    refine x_getE 46 hK rfl (Or.inl rfl) rfl (sp_171 (h := h4) hG4) (e := (gi h 171 7)) (k47) ?_
    refine x_if_icmp_ge 133 49 hK rfl rfl rfl (by first | omega | exact gr4 _ _) (by first | omega | exact gr4 _ _) (fun c4 => ?_) (fun c4 => ?_)
    · exact x_vret hK rfl ⟨rfl, hG4, hF4, e4⟩
    · refine x_aload_n 50 hK rfl rfl l1 ?_
      refine x_bipush 52 hK rfl rfl rfl ?_
      refine x_iload_n 53 hK rfl rfl l3 ?_
      refine x_iadd 54 hK rfl rfl ?_
      refine x_ialoadE 55 hK rfl rfl (sp_178 (h := h4) hG4) (by first | omega | exact gr4 _ _) (by first | omega | exact gr4 _ _) (by first | omega | exact gr4 _ _) (e' := (gi h4 178 (41 + k).toNat)) (rfl) ?_
      refine x_aload_n 56 hK rfl rfl l0 ?_
      refine x_getR 59 hK rfl rfl (sp_171 (h := h4) hG4) (rf_171_13 (h := h4) hG4) ?_
      refine x_iload_n 60 hK rfl rfl l3 ?_
      refine x_ialoadE 61 hK rfl rfl (sp_177 (h := h4) hG4) (by first | omega | exact gr4 _ _) (by first | omega | exact gr4 _ _) (by first | omega | exact gr4 _ _) (e' := (gi h4 177 k.toNat)) (rfl) ?_
      refine x_if_icmp_ge 68 64 hK rfl rfl rfl (by first | omega | exact gr4 _ _) (by first | omega | exact gr4 _ _) (fun c15 => ?_) (fun c15 => ?_)
      · refine x_iconst 69 hK rfl rfl ?_
        refine x_istore 71 hK rfl rfl _ rfl ?_
        refine x_aload_n 72 hK rfl rfl (lk1_n l1 (by decide) (Or.inl rfl)) ?_
        refine x_bipush 74 hK rfl rfl rfl ?_
        refine x_iload_n 75 hK rfl rfl (lk1_n l3 (by decide) (Or.inl rfl)) ?_
        refine x_iadd 76 hK rfl rfl ?_
        refine x_dup2 77 hK rfl rfl rfl rfl ?_
        refine x_ialoadE 78 hK rfl rfl (sp_178 (h := h4) hG4) (by first | omega | exact gr4 _ _) (by first | omega | exact gr4 _ _) (by first | omega | exact gr4 _ _) (e' := (gi h4 178 (49 + k).toNat)) (rfl) ?_
        refine x_iload 80 hK rfl rfl lk1_s ?_
        refine x_callS 83 hK hmono rfl (Or.inl rfl) rfl [.int (I 0)] [.int (I (gi h4 178 (49 + k).toNat)), .int (I (49 + k)), .ref 178] rfl rfl (Nat.le_of_ble_eq_true rfl) (Nat.le_of_ble_eq_true rfl) (CLd_le (Nat.le_of_ble_eq_true rfl) (ctX11_flag (by omega))) ?_
        rintro v9 h9 ⟨e9, rfl⟩
        rw [e9]
        clear e9
        refine x_iadd 84 hK rfl rfl ?_
        refine x_iastore 85 hK rfl rfl (sp_178 (h := h4) hG4) (by first | omega | exact gr4 _ _) (by first | omega | exact gr4 _ _) (by first | omega | exact gr4 _ _) ?_
        refine x_aload_n 86 hK rfl rfl (lk1_n l0 (by decide) (Or.inl rfl)) ?_
        refine x_dup 87 hK rfl rfl rfl ?_
        refine x_getE 90 hK rfl (Or.inl rfl) rfl (sp_171 (h := h4) hG4) (e := (gi h4 171 32)) (gi_a (by decide) _) ?_
        refine x_iload 92 hK rfl rfl lk1_s ?_
        refine x_callS 95 hK hmono rfl (Or.inl rfl) rfl [.int (I 0)] [.int (I (gi h4 171 32)), .ref 171] rfl rfl (Nat.le_of_ble_eq_true rfl) (Nat.le_of_ble_eq_true rfl) (CLd_le (Nat.le_of_ble_eq_true rfl) (ctX11_flag (by omega))) ?_
        rintro v9 h9 ⟨e9, rfl⟩
        rw [e9]
        clear e9
        refine x_iadd 96 hK rfl rfl ?_
        refine x_putI 99 hK rfl rfl (sp_171 (h := h4) hG4) ?_
        refine x_aload_n 100 hK rfl rfl (lk1_n l1 (by decide) (Or.inl rfl)) ?_
        refine x_bipush 102 hK rfl rfl rfl ?_
        refine x_iload_n 103 hK rfl rfl (lk1_n l3 (by decide) (Or.inl rfl)) ?_
        refine x_iadd 104 hK rfl rfl ?_
        refine x_iload 106 hK rfl rfl lk1_s ?_
        refine x_if_eq 113 109 hK rfl rfl rfl (by first | omega | exact gr4 _ _) (fun _ => ?_) (fun c => by omega)
        refine x_aload_n 114 hK rfl rfl (lk1_n l1 (by decide) (Or.inl rfl)) ?_
        refine x_bipush 116 hK rfl rfl rfl ?_
        refine x_iload_n 117 hK rfl rfl (lk1_n l3 (by decide) (Or.inl rfl)) ?_
        refine x_iadd 118 hK rfl rfl ?_
        refine x_ialoadE 119 hK rfl rfl (sp_178 (h := h4) hG4) (by first | omega | exact gr4 _ _) (by first | omega | exact gr4 _ _) (by first | omega | exact gr4 _ _) (e' := (gi h4 178 (41 + k).toNat)) ((gi_a (by decide) _).trans (gi_k (by omega) _)) ?_
        refine x_aload_n 120 hK rfl rfl (lk1_n l0 (by decide) (Or.inl rfl)) ?_
        refine x_getR 123 hK rfl rfl (sp_171 (h := h4) hG4) (rf_171_13 (h := h4) hG4) ?_
        refine x_iload_n 124 hK rfl rfl (lk1_n l3 (by decide) (Or.inl rfl)) ?_
        refine x_ialoadE 125 hK rfl rfl (sp_177 (h := h4) hG4) (by first | omega | exact gr4 _ _) (by first | omega | exact gr4 _ _) (by first | omega | exact gr4 _ _) (e' := (gi h4 177 k.toNat)) ((gi_a (by decide) _).trans (gi_a (by decide) _)) ?_
        refine x_isub 126 hK rfl rfl ?_
        refine x_iastore 127 hK rfl rfl (sp_178 (h := h4) hG4) (by first | omega | exact gr4 _ _) (by first | omega | exact gr4 _ _) (by first | omega | exact gr4 _ _) ?_
        refine x_iinc 130 hK rfl rfl (lk1_n l3 (by decide) (Or.inl rfl)) _ rfl ?_
        refine x_goto 41 hK rfl rfl ?_
        refine ih _ (by omega) (k + 1) _ _ rfl (by omega) (by omega) (lk1_n (lk1_n l0 (by decide) (Or.inl rfl)) (by decide) (Or.inl rfl)) (lk1_n (lk1_n l1 (by decide) (Or.inl rfl)) (by decide) (Or.inl rfl)) lk1_s (GD_st (GD_w0 (GD_st (hG4) (r := 61) rfl rfl (fun z => by omega) (fun z => by omega) (fun j hj z => by omega)) (r := 54) rfl rfl) (r := 61) rfl rfl (fun z => by omega) (fun z => by omega) (fun j hj z => by omega)) (FRM_wn 0 56 (FRM_w (FRM_wn 0 56 (hF4) (r := 61) rfl rfl rfl (by omega) (by omega)) (r := 54) rfl rfl) (r := 61) rfl rfl rfl (by omega) (by omega)) (fun z => ?_)
        exact (gi_k (by omega) _).trans ((gi_a (by decide) _).trans ((gi_k (by omega) _).trans (e4 z)))
      · refine x_iconst 65 hK rfl rfl ?_
        refine x_goto 69 hK rfl rfl ?_
        refine x_istore 71 hK rfl rfl _ rfl ?_
        refine x_aload_n 72 hK rfl rfl (lk1_n l1 (by decide) (Or.inl rfl)) ?_
        refine x_bipush 74 hK rfl rfl rfl ?_
        refine x_iload_n 75 hK rfl rfl (lk1_n l3 (by decide) (Or.inl rfl)) ?_
        refine x_iadd 76 hK rfl rfl ?_
        refine x_dup2 77 hK rfl rfl rfl rfl ?_
        refine x_ialoadE 78 hK rfl rfl (sp_178 (h := h4) hG4) (by first | omega | exact gr4 _ _) (by first | omega | exact gr4 _ _) (by first | omega | exact gr4 _ _) (e' := (gi h4 178 (49 + k).toNat)) (rfl) ?_
        refine x_iload 80 hK rfl rfl lk1_s ?_
        refine x_callS 83 hK hmono rfl (Or.inl rfl) rfl [.int (I 1)] [.int (I (gi h4 178 (49 + k).toNat)), .int (I (49 + k)), .ref 178] rfl rfl (Nat.le_of_ble_eq_true rfl) (Nat.le_of_ble_eq_true rfl) (CLd_le (Nat.le_of_ble_eq_true rfl) (ctX11_flag (by omega))) ?_
        rintro v9 h9 ⟨e9, rfl⟩
        rw [e9]
        clear e9
        refine x_iadd 84 hK rfl rfl ?_
        refine x_iastore 85 hK rfl rfl (sp_178 (h := h4) hG4) (by first | omega | exact gr4 _ _) (by first | omega | exact gr4 _ _) (by first | omega | exact gr4 _ _) ?_
        refine x_aload_n 86 hK rfl rfl (lk1_n l0 (by decide) (Or.inl rfl)) ?_
        refine x_dup 87 hK rfl rfl rfl ?_
        refine x_getE 90 hK rfl (Or.inl rfl) rfl (sp_171 (h := h4) hG4) (e := (gi h4 171 32)) (gi_a (by decide) _) ?_
        refine x_iload 92 hK rfl rfl lk1_s ?_
        refine x_callS 95 hK hmono rfl (Or.inl rfl) rfl [.int (I 1)] [.int (I (gi h4 171 32)), .ref 171] rfl rfl (Nat.le_of_ble_eq_true rfl) (Nat.le_of_ble_eq_true rfl) (CLd_le (Nat.le_of_ble_eq_true rfl) (ctX11_flag (by omega))) ?_
        rintro v9 h9 ⟨e9, rfl⟩
        rw [e9]
        clear e9
        refine x_iadd 96 hK rfl rfl ?_
        refine x_putI 99 hK rfl rfl (sp_171 (h := h4) hG4) ?_
        refine x_aload_n 100 hK rfl rfl (lk1_n l1 (by decide) (Or.inl rfl)) ?_
        refine x_bipush 102 hK rfl rfl rfl ?_
        refine x_iload_n 103 hK rfl rfl (lk1_n l3 (by decide) (Or.inl rfl)) ?_
        refine x_iadd 104 hK rfl rfl ?_
        refine x_iload 106 hK rfl rfl lk1_s ?_
        refine x_if_eq 113 109 hK rfl rfl rfl (by first | omega | exact gr4 _ _) (fun c => by omega) (fun _ => ?_)
        refine x_iconst 110 hK rfl rfl ?_
        refine x_goto 126 hK rfl rfl ?_
        refine x_iastore 127 hK rfl rfl (sp_178 (h := h4) hG4) (by first | omega | exact gr4 _ _) (by first | omega | exact gr4 _ _) (by first | omega | exact gr4 _ _) ?_
        refine x_iinc 130 hK rfl rfl (lk1_n l3 (by decide) (Or.inl rfl)) _ rfl ?_
        refine x_goto 41 hK rfl rfl ?_
        refine ih _ (by omega) (k + 1) _ _ rfl (by omega) (by omega) (lk1_n (lk1_n l0 (by decide) (Or.inl rfl)) (by decide) (Or.inl rfl)) (lk1_n (lk1_n l1 (by decide) (Or.inl rfl)) (by decide) (Or.inl rfl)) lk1_s (GD_st (GD_w0 (GD_st (hG4) (r := 61) rfl rfl (fun z => by omega) (fun z => by omega) (fun j hj z => by omega)) (r := 54) rfl rfl) (r := 61) rfl rfl (fun z => by omega) (fun z => by omega) (fun j hj z => by omega)) (FRM_wn 0 56 (FRM_w (FRM_wn 0 56 (hF4) (r := 61) rfl rfl rfl (by omega) (by omega)) (r := 54) rfl rfl) (r := 61) rfl rfl rfl (by omega) (by omega)) (fun z => ?_)
        exact (gi_k (by omega) _).trans ((gi_a (by decide) _).trans ((gi_k (by omega) _).trans (e4 z)))
  refine x_aload_n 1 hK rfl rfl rfl ?_
  refine x_iconst 2 hK rfl rfl ?_
  refine x_dup2 3 hK rfl rfl rfl rfl ?_
  refine x_ialoadE 4 hK rfl rfl (sp_178 (h := h) hG) (by first | omega | exact gr _ | exact gr2 _ _ | exact gr3 _ _) (by first | omega | exact gr _ | exact gr2 _ _ | exact gr3 _ _) (by first | omega | exact gr _ | exact gr2 _ _ | exact gr3 _ _) (e' := (gi h 178 0)) (rfl) ?_
  refine x_iconst 5 hK rfl rfl ?_
  refine x_iadd 6 hK rfl rfl ?_
  refine x_iastore 7 hK rfl rfl (sp_178 (h := h) hG) (by first | omega | exact gr _ | exact gr2 _ _ | exact gr3 _ _) (by first | omega | exact gr _ | exact gr2 _ _ | exact gr3 _ _) (by first | omega | exact gr _ | exact gr2 _ _ | exact gr3 _ _) ?_
  refine x_aload_n 8 hK rfl rfl rfl ?_
  have hG1 : GD gE gRL sh (wI h 178 0 ((gi h 178 0) + 1)) := GD_st (hG) (r := 61) rfl rfl (fun z => by omega) (fun z => by omega) (fun j hj z => by omega)
  have e0 : gi h 178 0 < 2147483647 → gi (wI h 178 0 ((gi h 178 0) + 1)) 178 0 = gi h 178 0 + 1 := fun z => gi_same (by have := gr 0; omega)
  refine x_callS 11 hK hmono rfl (Or.inl rfl) rfl [.ref 178] [] rfl rfl (Nat.le_of_ble_eq_true rfl) (Nat.le_of_ble_eq_true rfl) (CLd_le (Nat.le_of_ble_eq_true rfl) (ctX11_doesDueN hSP hG1)) ?_
  rintro v2 h2 ⟨rfl, hG2, hF2⟩
  have e2 : gi h 178 0 < 2147483647 → gi h2 178 0 = gi h 178 0 + 1 := fun z => (FRM_gi hF2 (r := 61) rfl rfl).trans (e0 z)
  replace hF2 : FRM gRL [(0, 54, 31, 32), (0, 61, 0, 56)] h h2 := (FRM_w (FRM.rf) (r := 61) rfl rfl).trans (hF2.mono rfl)
  have hX2 : XI h2 := xOk_ok rfl h h2 hF2 hX
  have gr2 := gi_r h2
  refine x_aload_n 12 hK rfl rfl rfl ?_
  refine x_aload_n 13 hK rfl rfl rfl ?_
  refine x_iconst 14 hK rfl rfl ?_
  refine x_ialoadE 15 hK rfl rfl (sp_178 (h := h2) hG2) (by first | omega | exact gr _ | exact gr2 _ _ | exact gr3 _ _) (by first | omega | exact gr _ | exact gr2 _ _ | exact gr3 _ _) (by first | omega | exact gr _ | exact gr2 _ _ | exact gr3 _ _) (e' := (gi h2 178 0)) (rfl) ?_
  refine x_aload_n 16 hK rfl rfl rfl ?_
  refine x_iconst 17 hK rfl rfl ?_
  refine x_ialoadE 18 hK rfl rfl (sp_178 (h := h2) hG2) (by first | omega | exact gr _ | exact gr2 _ _ | exact gr3 _ _) (by first | omega | exact gr _ | exact gr2 _ _ | exact gr3 _ _) (by first | omega | exact gr _ | exact gr2 _ _ | exact gr3 _ _) (e' := (gi h2 178 1)) (rfl) ?_
  refine x_callV 21 hK hmono rfl rfl [.ref 171, .int (I (gi h2 178 0)), .int (I (gi h2 178 1))] [] rfl rfl (Nat.le_of_ble_eq_true rfl) (Nat.le_of_ble_eq_true rfl) rfl (sp_171 (h := h2) hG2) (CLd_le (Nat.le_of_ble_eq_true rfl) (kX11_hitsAt_0 hSP [.ref 171, .int (I (gi h2 178 0)), .int (I (gi h2 178 1))] _ hX2 ⟨gv_r (by decide) rfl, ⟨_, rfl, i32_lo _, i32_hi _, trivial⟩, ⟨_, rfl, i32_lo _, i32_hi _, trivial⟩, trivial⟩ hG2 gov_n)) ?_
  rintro v3 h3 ⟨hG3, hF3, o3, m3, q3, z3, -⟩
  obtain ⟨w3, rw3, rfl⟩ := int_ans m3 rfl q3
  have e3 : gi h 178 0 < 2147483647 → gi h3 178 0 = gi h 178 0 + 1 := fun z => (FRM_gi hF3 (r := 61) rfl rfl).trans (e2 z)
  replace hF3 : FRM gRL [(0, 54, 31, 32), (0, 61, 0, 56)] h h3 := hF2.trans (hF3.mono rfl)
  have gr3 := gi_r h3
  refine x_istore_n 22 hK rfl rfl [(2, .int (I w3)), (0, .ref 171), (1, .ref 178)] rfl ?_
  refine x_aload_n 23 hK rfl rfl rfl ?_
  refine x_iconst 24 hK rfl rfl ?_
  refine x_dup2 25 hK rfl rfl rfl rfl ?_
  refine x_ialoadE 26 hK rfl rfl (sp_178 (h := h3) hG3) (by first | omega | exact gr _ | exact gr2 _ _ | exact gr3 _ _) (by first | omega | exact gr _ | exact gr2 _ _ | exact gr3 _ _) (by first | omega | exact gr _ | exact gr2 _ _ | exact gr3 _ _) (e' := (gi h3 178 2)) (rfl) ?_
  refine x_iload_n 27 hK rfl rfl rfl ?_
  refine x_iadd 28 hK rfl rfl ?_
  refine x_iastore 29 hK rfl rfl (sp_178 (h := h3) hG3) (by first | omega | exact gr _ | exact gr2 _ _ | exact gr3 _ _) (by first | omega | exact gr _ | exact gr2 _ _ | exact gr3 _ _) (by first | omega | exact gr _ | exact gr2 _ _ | exact gr3 _ _) ?_
  refine x_aload_n 30 hK rfl rfl rfl ?_
  refine x_dup 31 hK rfl rfl rfl ?_
  refine x_getE 34 hK rfl (Or.inl rfl) rfl (sp_171 (h := h3) hG3) (e := (gi h3 171 31)) (gi_a (by decide) _) ?_
  refine x_iload_n 35 hK rfl rfl rfl ?_
  refine x_iadd 36 hK rfl rfl ?_
  refine x_putI 39 hK rfl rfl (sp_171 (h := h3) hG3) ?_
  refine x_iconst 40 hK rfl rfl ?_
  refine x_istore_n 41 hK rfl rfl [(3, .int (I 0)), (2, .int (I w3)), (0, .ref 171), (1, .ref 178)] rfl ?_
  refine loop _ 0 _ _ rfl (by omega) (by omega) rfl rfl rfl (GD_w0 (GD_st (hG3) (r := 61) rfl rfl (fun z => by omega) (fun z => by omega) (fun j hj z => by omega)) (r := 54) rfl rfl) (FRM_w (FRM_w (hF3) (r := 61) rfl rfl) (r := 54) rfl rfl) (fun z => ?_)
  exact (gi_a (by decide) _).trans ((gi_k (by decide) _).trans (e3 z))
theorem ctX11_counts {SP : CT} (hSP : MONO SP) {sh : List (Nat × Nat)} {h : aH} (hG : GD gE gRL sh h) {n : Int} (hn : r32 n) (hu : 0 ≤ gi h 171 29 ∧ gi h 171 29 ≤ 15) : CLd SP 3 mX11_counts [.ref 171, .int (I n)] h 0 0 (fun rv h' => rv = some (.int (I n)) ∧ GD gE gRL sh h' ∧ FRM gRL [(0, 54, 29, 29), (0, 69, 0, 911)] h h' ∧ (0 ≤ gi h' 171 29 ∧ gi h' 171 29 ≤ 15) ∧ ∀ b, NB b h → NB b h') := by
  refine x_met _ rfl (Nat.le_of_ble_eq_true rfl) (fun K hK => ?_)
  have hmono := MONO_CLd hSP 2
  refine x_iload_n 1 hK rfl rfl rfl ?_
  refine x_if_ge 8 4 hK rfl rfl rfl (by omega) (fun c2 => ?_) (fun c2 => ?_)
  · refine x_aload_n 9 hK rfl rfl rfl ?_
    refine x_iload_n 10 hK rfl rfl rfl ?_
    refine x_callV 13 hK hmono rfl rfl [.ref 171, .int (I n)] [] rfl rfl (Nat.le_of_ble_eq_true rfl) (Nat.le_of_ble_eq_true rfl) rfl (sp_171 (h := h) hG) (CLd_le (Nat.le_of_ble_eq_true rfl) (ctX11_adds hSP hG hu)) ?_
    rintro v2 h2 ⟨rfl, hG2, hF2, hu2, hN2⟩
    exact x_iret hK rfl ⟨rfl, hG2, hF2.mono rfl, hu2, hN2⟩
  · refine x_iload_n 5 hK rfl rfl rfl ?_
    refine x_goto 13 hK rfl rfl ?_
    exact x_iret hK rfl ⟨rfl, hG, FRM.rf, hu, fun b z => z⟩
theorem NB_step {b : Int} {h h' : aH} (n : NB b h) (hb : b < 2147483647) (hF : FRM gRL [(0, 54, 31, 32), (0, 61, 0, 56)] h h') (e : gi h 178 0 < 2147483647 → gi h' 178 0 = gi h 178 0 + 1) : NB (b + 1) h' := by
  have n0 := n.1
  have e1 := e (by omega)
  refine ⟨⟨by omega, by omega⟩, fun u hu => ?_, fun u hu => ?_⟩
  · rw [FRM_gi hF (r := 69) rfl rfl]; have := n.2.1 u hu; omega
  · rw [FRM_gi hF (r := 83) rfl rfl]; have := n.2.2 u hu; omega
theorem ctX11_order {SP : CT} (hSP : MONO SP) {sh : List (Nat × Nat)} {h : aH} (hG : GD gE gRL sh h) {v : Int} (hX : XI h) (hu : 0 ≤ gi h 171 29 ∧ gi h 171 29 ≤ 15) (rv : r32 v) : CLd SP 8 mX11_order [.ref 171, .int (I v)] h 0 0 (fun rv h' => (∃ e, rv = some (.int (I e))) ∧ GD gE gRL sh h' ∧ FRM gRL [(0, 54, 0, 0), (0, 54, 29, 29), (0, 61, 3, 40), (0, 67, 0, 79), (0, 68, 0, 3), (0, 69, 0, 911)] h h' ∧ gi h' 171 0 = 0 ∧ (0 ≤ gi h' 171 29 ∧ gi h' 171 29 ≤ 15) ∧ ∀ b, NB b h → NB b h') := by
  refine x_met _ rfl (Nat.le_of_ble_eq_true rfl) (fun K hK => ?_)
  have hmono := MONO_CLd hSP 7
  refine x_aload_n 1 hK rfl rfl rfl ?_
  refine x_iconst 2 hK rfl rfl ?_
  refine x_putI 5 hK rfl rfl (sp_171 (h := h) hG) ?_
  refine x_aload_n 6 hK rfl rfl rfl ?_
  have hG1 : GD gE gRL sh (wI h 171 0 0) := GD_w1 (hG) (r := 54) rfl (by omega) rfl (by omega) (by omega)
  have hu1 : 0 ≤ gi (wI h 171 0 0) 171 29 ∧ gi (wI h 171 0 0) 171 29 ≤ 15 := by rw [show gi (wI h 171 0 0) 171 29 = gi h 171 29 from gi_k (by decide) _]; exact hu
  have hN1 : ∀ b, NB b h → NB b (wI h 171 0 0) := fun b z => (z).w (by decide)
  have hF1 : FRM gRL [(0, 54, 0, 0), (0, 54, 29, 29), (0, 61, 3, 40), (0, 67, 0, 79), (0, 68, 0, 3), (0, 69, 0, 911)] h (wI h 171 0 0) := FRM_w (FRM.rf) (r := 54) rfl rfl
  refine x_callV 9 hK hmono rfl rfl [.ref 171] [] rfl rfl (Nat.le_of_ble_eq_true rfl) (Nat.le_of_ble_eq_true rfl) rfl (sp_171 (h := h) hG) (CLd_le (Nat.le_of_ble_eq_true rfl) (ctX11_putsBy hSP hG1 hu1)) ?_
  rintro v2 h2 ⟨rfl, hG2, hF2, hN2⟩
  have hu2 : gi h2 171 29 = gi h 171 29 := (FRM_gi hF2 (r := 54) rfl rfl).trans (gi_k (by decide) _)
  have t2 : gi h2 171 0 = 0 := (FRM_gi hF2 (r := 54) rfl rfl).trans (gi_same (by omega))
  replace hF2 : FRM gRL [(0, 54, 0, 0), (0, 54, 29, 29), (0, 61, 3, 40), (0, 67, 0, 79), (0, 68, 0, 3), (0, 69, 0, 911)] h h2 := hF1.trans (hF2.mono rfl)
  replace hN2 : ∀ b, NB b h → NB b h2 := fun b z => hN2 b (hN1 b z)
  have hX2 : XI h2 := xOk_ok rfl h h2 hF2 hX
  refine x_aload_n 10 hK rfl rfl rfl ?_
  refine x_aload_n 11 hK rfl rfl rfl ?_
  refine x_aload_n 12 hK rfl rfl rfl ?_
  refine x_getR 15 hK rfl rfl (sp_171 (h := h2) hG2) (rf_171_14 (h := h2) hG2) ?_
  refine x_iload_n 16 hK rfl rfl rfl ?_
  refine x_callV 19 hK hmono rfl rfl [.ref 171, .ref 178, .int (I v)] [.ref 171] rfl rfl (Nat.le_of_ble_eq_true rfl) (Nat.le_of_ble_eq_true rfl) rfl (sp_171 (h := h2) hG2) (CLd_le (Nat.le_of_ble_eq_true rfl) (ctX11_givesN hSP hG2 hX2 rv)) ?_
  rintro v3 h3 ⟨⟨w3, rfl, l3, u3⟩, hG3, hF3⟩
  have rw3 : r32 w3 := by omega
  have hu3 : gi h3 171 29 = gi h 171 29 := (FRM_gi hF3 (r := 54) rfl rfl).trans hu2
  have t3 : gi h3 171 0 = 0 := (FRM_gi hF3 (r := 54) rfl rfl).trans t2
  have hN3 : ∀ b, NB b h → NB b h3 := fun b z => NB_frm (by decide) hF3 (hN2 b z)
  replace hF3 : FRM gRL [(0, 54, 0, 0), (0, 54, 29, 29), (0, 61, 3, 40), (0, 67, 0, 79), (0, 68, 0, 3), (0, 69, 0, 911)] h h3 := hF2.trans (hF3.mono rfl)
  refine x_callV 22 hK hmono rfl rfl [.ref 171, .int (I w3)] [] rfl rfl (Nat.le_of_ble_eq_true rfl) (Nat.le_of_ble_eq_true rfl) rfl (sp_171 (h := h3) hG3) (CLd_le (Nat.le_of_ble_eq_true rfl) (ctX11_counts hSP hG3 rw3 (by omega))) ?_
  rintro v4 h4 ⟨rfl, hG4, hF4, hu4, hN4⟩
  have t4 : gi h4 171 0 = 0 := (FRM_gi hF4 (r := 54) rfl rfl).trans t3
  exact x_iret hK rfl ⟨⟨_, rfl⟩, hG4, hF3.trans (hF4.mono rfl), t4, hu4, fun b z => hN4 b (hN3 b z)⟩
theorem ctX11_pass {SP : CT} (hSP : MONO SP) {sh : List (Nat × Nat)} {h : aH} (hG : GD gE gRL sh h) {m n a : Int} (hX : XI h) (hu : 0 ≤ gi h 171 29 ∧ gi h 171 29 ≤ 15) (rm : r32 m) (rn : r32 n) (ra : r32 a) : CLd SP 8 mX11_pass [.ref 171, .int (I m), .int (I n), .int (I a)] h 0 0 (fun rv h' => (∃ e, rv = some (.int (I e))) ∧ GD gE gRL sh h' ∧ FRM gRL [(0, 54, 0, 0), (0, 54, 29, 29), (0, 61, 41, 48), (0, 69, 0, 911)] h h' ∧ gi h' 171 0 = 0 ∧ (0 ≤ gi h' 171 29 ∧ gi h' 171 29 ≤ 15) ∧ ∀ b, NB b h → NB b h') := by
  refine x_met _ rfl (Nat.le_of_ble_eq_true rfl) (fun K hK => ?_)
  have hmono := MONO_CLd hSP 7
  refine x_aload_n 1 hK rfl rfl rfl ?_
  refine x_iconst 2 hK rfl rfl ?_
  refine x_putI 5 hK rfl rfl (sp_171 (h := h) hG) ?_
  refine x_aload_n 6 hK rfl rfl rfl ?_
  have hG1 : GD gE gRL sh (wI h 171 0 0) := GD_w1 (hG) (r := 54) rfl (by omega) rfl (by omega) (by omega)
  have hu1 : 0 ≤ gi (wI h 171 0 0) 171 29 ∧ gi (wI h 171 0 0) 171 29 ≤ 15 := by rw [show gi (wI h 171 0 0) 171 29 = gi h 171 29 from gi_k (by decide) _]; exact hu
  have hN1 : ∀ b, NB b h → NB b (wI h 171 0 0) := fun b z => (z).w (by decide)
  have hF1 : FRM gRL [(0, 54, 0, 0), (0, 54, 29, 29), (0, 61, 41, 48), (0, 69, 0, 911)] h (wI h 171 0 0) := FRM_w (FRM.rf) (r := 54) rfl rfl
  refine x_callV 9 hK hmono rfl rfl [.ref 171] [] rfl rfl (Nat.le_of_ble_eq_true rfl) (Nat.le_of_ble_eq_true rfl) rfl (sp_171 (h := h) hG) (CLd_le (Nat.le_of_ble_eq_true rfl) (ctX11_putsBy hSP hG1 hu1)) ?_
  rintro v2 h2 ⟨rfl, hG2, hF2, hN2⟩
  have hu2 : gi h2 171 29 = gi h 171 29 := (FRM_gi hF2 (r := 54) rfl rfl).trans (gi_k (by decide) _)
  have t2 : gi h2 171 0 = 0 := (FRM_gi hF2 (r := 54) rfl rfl).trans (gi_same (by omega))
  replace hF2 : FRM gRL [(0, 54, 0, 0), (0, 54, 29, 29), (0, 61, 41, 48), (0, 69, 0, 911)] h h2 := hF1.trans (hF2.mono rfl)
  replace hN2 : ∀ b, NB b h → NB b h2 := fun b z => hN2 b (hN1 b z)
  have hX2 : XI h2 := xOk_ok rfl h h2 hF2 hX
  refine x_aload_n 10 hK rfl rfl rfl ?_
  refine x_aload_n 11 hK rfl rfl rfl ?_
  refine x_iload_n 12 hK rfl rfl rfl ?_
  refine x_iload_n 13 hK rfl rfl rfl ?_
  refine x_iload_n 14 hK rfl rfl rfl ?_
  refine x_callV 17 hK hmono rfl rfl [.ref 171, .int (I m), .int (I n), .int (I a)] [.ref 171] rfl rfl (Nat.le_of_ble_eq_true rfl) (Nat.le_of_ble_eq_true rfl) rfl (sp_171 (h := h2) hG2) (CLd_le (Nat.le_of_ble_eq_true rfl) (kX11_passes_0 hSP [.ref 171, .int (I m), .int (I n), .int (I a)] _ hX2 ⟨gv_r (by decide) rfl, ⟨_, rfl, i32_lo _, i32_hi _, trivial⟩, ⟨_, rfl, i32_lo _, i32_hi _, trivial⟩, ⟨_, rfl, i32_lo _, i32_hi _, trivial⟩, trivial⟩ hG2 gov_n)) ?_
  rintro v3 h3 ⟨hG3, hF3, o3, m3, q3, z3, -⟩
  obtain ⟨w3, rw3, rfl⟩ := int_ans m3 rfl q3
  have hu3 : gi h3 171 29 = gi h 171 29 := (FRM_gi hF3 (r := 54) rfl rfl).trans hu2
  have t3 : gi h3 171 0 = 0 := (FRM_gi hF3 (r := 54) rfl rfl).trans t2
  have hN3 : ∀ b, NB b h → NB b h3 := fun b z => NB_frm (by decide) hF3 (hN2 b z)
  replace hF3 : FRM gRL [(0, 54, 0, 0), (0, 54, 29, 29), (0, 61, 41, 48), (0, 69, 0, 911)] h h3 := hF2.trans (hF3.mono rfl)
  refine x_callV 20 hK hmono rfl rfl [.ref 171, .int (I w3)] [] rfl rfl (Nat.le_of_ble_eq_true rfl) (Nat.le_of_ble_eq_true rfl) rfl (sp_171 (h := h3) hG3) (CLd_le (Nat.le_of_ble_eq_true rfl) (ctX11_counts hSP hG3 rw3 (by omega))) ?_
  rintro v4 h4 ⟨rfl, hG4, hF4, hu4, hN4⟩
  have t4 : gi h4 171 0 = 0 := (FRM_gi hF4 (r := 54) rfl rfl).trans t3
  exact x_iret hK rfl ⟨⟨_, rfl⟩, hG4, hF3.trans (hF4.mono rfl), t4, hu4, fun b z => hN4 b (hN3 b z)⟩
theorem ctX11_cook {SP : CT} (hSP : MONO SP) {sh : List (Nat × Nat)} {h : aH} (hG : GD gE gRL sh h) {m n : Int} (hX : XI h) (hu : 0 ≤ gi h 171 29 ∧ gi h 171 29 ≤ 15) (rm : r32 m) (rn : r32 n) : CLd SP 8 mX11_cook [.ref 171, .int (I m), .int (I n)] h 0 0 (fun rv h' => (∃ e, rv = some (.int (I e))) ∧ GD gE gRL sh h' ∧ FRM gRL [(0, 54, 0, 0), (0, 54, 29, 29), (0, 61, 41, 48), (0, 69, 0, 911)] h h' ∧ gi h' 171 0 = 0 ∧ (0 ≤ gi h' 171 29 ∧ gi h' 171 29 ≤ 15) ∧ ∀ b, NB b h → NB b h') := by
  refine x_met _ rfl (Nat.le_of_ble_eq_true rfl) (fun K hK => ?_)
  have hmono := MONO_CLd hSP 7
  refine x_aload_n 1 hK rfl rfl rfl ?_
  refine x_iconst 2 hK rfl rfl ?_
  refine x_putI 5 hK rfl rfl (sp_171 (h := h) hG) ?_
  refine x_aload_n 6 hK rfl rfl rfl ?_
  have hG1 : GD gE gRL sh (wI h 171 0 0) := GD_w1 (hG) (r := 54) rfl (by omega) rfl (by omega) (by omega)
  have hu1 : 0 ≤ gi (wI h 171 0 0) 171 29 ∧ gi (wI h 171 0 0) 171 29 ≤ 15 := by rw [show gi (wI h 171 0 0) 171 29 = gi h 171 29 from gi_k (by decide) _]; exact hu
  have hN1 : ∀ b, NB b h → NB b (wI h 171 0 0) := fun b z => (z).w (by decide)
  have hF1 : FRM gRL [(0, 54, 0, 0), (0, 54, 29, 29), (0, 61, 41, 48), (0, 69, 0, 911)] h (wI h 171 0 0) := FRM_w (FRM.rf) (r := 54) rfl rfl
  refine x_callV 9 hK hmono rfl rfl [.ref 171] [] rfl rfl (Nat.le_of_ble_eq_true rfl) (Nat.le_of_ble_eq_true rfl) rfl (sp_171 (h := h) hG) (CLd_le (Nat.le_of_ble_eq_true rfl) (ctX11_putsBy hSP hG1 hu1)) ?_
  rintro v2 h2 ⟨rfl, hG2, hF2, hN2⟩
  have hu2 : gi h2 171 29 = gi h 171 29 := (FRM_gi hF2 (r := 54) rfl rfl).trans (gi_k (by decide) _)
  have t2 : gi h2 171 0 = 0 := (FRM_gi hF2 (r := 54) rfl rfl).trans (gi_same (by omega))
  replace hF2 : FRM gRL [(0, 54, 0, 0), (0, 54, 29, 29), (0, 61, 41, 48), (0, 69, 0, 911)] h h2 := hF1.trans (hF2.mono rfl)
  replace hN2 : ∀ b, NB b h → NB b h2 := fun b z => hN2 b (hN1 b z)
  have hX2 : XI h2 := xOk_ok rfl h h2 hF2 hX
  refine x_aload_n 10 hK rfl rfl rfl ?_
  refine x_aload_n 11 hK rfl rfl rfl ?_
  refine x_iload_n 12 hK rfl rfl rfl ?_
  refine x_iload_n 13 hK rfl rfl rfl ?_
  refine x_callV 16 hK hmono rfl rfl [.ref 171, .int (I m), .int (I n)] [.ref 171] rfl rfl (Nat.le_of_ble_eq_true rfl) (Nat.le_of_ble_eq_true rfl) rfl (sp_171 (h := h2) hG2) (CLd_le (Nat.le_of_ble_eq_true rfl) (kX11_cooks_0 hSP [.ref 171, .int (I m), .int (I n)] _ hX2 ⟨gv_r (by decide) rfl, ⟨_, rfl, i32_lo _, i32_hi _, trivial⟩, ⟨_, rfl, i32_lo _, i32_hi _, trivial⟩, trivial⟩ hG2 gov_n)) ?_
  rintro v3 h3 ⟨hG3, hF3, o3, m3, q3, z3, -⟩
  obtain ⟨w3, rw3, rfl⟩ := int_ans m3 rfl q3
  have hu3 : gi h3 171 29 = gi h 171 29 := (FRM_gi hF3 (r := 54) rfl rfl).trans hu2
  have t3 : gi h3 171 0 = 0 := (FRM_gi hF3 (r := 54) rfl rfl).trans t2
  have hN3 : ∀ b, NB b h → NB b h3 := fun b z => NB_frm (by decide) hF3 (hN2 b z)
  replace hF3 : FRM gRL [(0, 54, 0, 0), (0, 54, 29, 29), (0, 61, 41, 48), (0, 69, 0, 911)] h h3 := hF2.trans (hF3.mono rfl)
  refine x_callV 19 hK hmono rfl rfl [.ref 171, .int (I w3)] [] rfl rfl (Nat.le_of_ble_eq_true rfl) (Nat.le_of_ble_eq_true rfl) rfl (sp_171 (h := h3) hG3) (CLd_le (Nat.le_of_ble_eq_true rfl) (ctX11_counts hSP hG3 rw3 (by omega))) ?_
  rintro v4 h4 ⟨rfl, hG4, hF4, hu4, hN4⟩
  have t4 : gi h4 171 0 = 0 := (FRM_gi hF4 (r := 54) rfl rfl).trans t3
  exact x_iret hK rfl ⟨⟨_, rfl⟩, hG4, hF3.trans (hF4.mono rfl), t4, hu4, fun b z => hN4 b (hN3 b z)⟩
theorem ctX11_steps {SP : CT} (hSP : MONO SP) {sh : List (Nat × Nat)} {h : aH} (hG : GD gE gRL sh h) {n : Int} (hX : XI h) (hu : 0 ≤ gi h 171 29 ∧ gi h 171 29 ≤ 15) (rn : r32 n) : CLd SP 9 mX11_steps [.ref 171, .int (I n)] h 0 0 (fun rv h' => (∃ e, rv = some (.int (I e))) ∧ GD gE gRL sh h' ∧ FRM gRL [(0, 54, 0, 1), (0, 54, 29, 29), (0, 54, 31, 32), (0, 61, 0, 56), (0, 69, 0, 911), (1, 55, 0, 39)] h h' ∧ gi h' 171 0 = 0 ∧ (0 ≤ gi h' 171 29 ∧ gi h' 171 29 ≤ 15) ∧ ∀ b, b < 2147483000 → NB b h → NB (b + 60) h') := by
  refine x_met _ rfl (Nat.le_of_ble_eq_true rfl) (fun K hK => ?_)
  have hmono := MONO_CLd hSP 8
  have loop : ∀ (m : Nat) (k : Int) (h4 : aH) (ls : List (Nat × Value)), ((n - k).toNat = m) → 0 ≤ k → k ≤ n → n ≤ 60 → lk ls 0 = some (.ref 171) → lk ls 1 = some (.int (I n)) → lk ls 2 = some (.int (I k)) → GD gE gRL sh h4 → FRM gRL [(0, 54, 0, 1), (0, 54, 29, 29), (0, 54, 31, 32), (0, 61, 0, 56), (0, 69, 0, 911), (1, 55, 0, 39)] h h4 → gi h4 171 0 = 0 → gi h4 171 29 = gi h 171 29 → (∀ b, b < 2147483000 → NB b h → NB (b + k) h4) → K 29 ls [] h4 0 0 := by
    intro m
    induction m using Nat.strongRecOn with
    | ind m ih =>
    intro k h4 ls hm h0 hk h60 l0 l1 l2 hG4 hF4 t4 hu4 hN4
    have hX4 : XI h4 := xOk_ok rfl h h4 hF4 hX
    have gr4 := gi_r h4
    refine x_iload_n 30 hK rfl rfl l2 ?_
    refine x_iload_n 31 hK rfl rfl l1 ?_
    refine x_if_icmp_ge 48 34 hK rfl rfl rfl (by first | omega | exact gr4 _ _ | exact gr7 _ _) (by first | omega | exact gr4 _ _ | exact gr7 _ _) (fun c3 => ?_) (fun c3 => ?_)
    · refine x_aload_n 49 hK rfl rfl l0 ?_
      refine x_iconst 50 hK rfl rfl ?_
      refine x_putI 53 hK rfl rfl (sp_171 (h := h4) hG4) ?_
      refine x_aload_n 54 hK rfl rfl l0 ?_
      refine x_aload_n 55 hK rfl rfl l0 ?_
      refine x_getE 58 hK rfl (Or.inl rfl) rfl (sp_171 (h := h4) hG4) (e := (gi h4 171 31)) (gi_k (by decide) _) ?_
      refine x_i2l 59 hK rfl rfl (by first | omega | exact gr4 _ _ | exact gr7 _ _) ?_
      have hG6 : GD gE gRL sh (wI h4 171 1 0) := GD_w1 (hG4) (r := 54) rfl (by omega) rfl (by omega) (by omega)
      refine x_callV 62 hK hmono rfl rfl [.ref 171, .long (J (gi h4 171 31))] [] rfl rfl (Nat.le_of_ble_eq_true rfl) (Nat.le_of_ble_eq_true rfl) rfl (sp_171 (h := h4) hG4) (CLd_le (Nat.le_of_ble_eq_true rfl) (ctX11_enters hSP hG6 (by rw [gi_same (by omega)]; omega))) ?_
      rintro v7 h7 ⟨rfl, hG7, hF7, r7⟩
      rw [gi_same (by omega)] at r7
      have t7 : gi h7 171 0 = 0 := (FRM_gi hF7 (r := 54) rfl rfl).trans ((gi_k (by decide) _).trans t4)
      have hu7 : gi h7 171 29 = gi h 171 29 := (FRM_gi hF7 (r := 54) rfl rfl).trans ((gi_k (by decide) _).trans hu4)
      have hN7 : ∀ b, b < 2147483000 → NB b h → NB (b + k) h7 := fun b hb z => NB_frm (by decide) hF7 ((hN4 b hb z).w (by decide))
      replace hF7 : FRM gRL [(0, 54, 0, 1), (0, 54, 29, 29), (0, 54, 31, 32), (0, 61, 0, 56), (0, 69, 0, 911), (1, 55, 0, 39)] h h7 := (FRM_w (hF4) (r := 54) rfl rfl).trans (hF7.mono rfl)
      have gr7 := gi_r h7
      refine x_aload_n 63 hK rfl rfl l0 ?_
      refine x_aload_n 64 hK rfl rfl l0 ?_
      refine x_getE 67 hK rfl (Or.inl rfl) rfl (sp_171 (h := h7) hG7) (e := (gi h7 171 32)) (rfl) ?_
      refine x_i2l 68 hK rfl rfl (by first | omega | exact gr4 _ _ | exact gr7 _ _) ?_
      refine x_callV 71 hK hmono rfl rfl [.ref 171, .long (J (gi h7 171 32))] [] rfl rfl (Nat.le_of_ble_eq_true rfl) (Nat.le_of_ble_eq_true rfl) rfl (sp_171 (h := h7) hG7) (CLd_le (Nat.le_of_ble_eq_true rfl) (ctX11_enters hSP hG7 (by omega))) ?_
      rintro v8 h8 ⟨rfl, hG8, hF8, r8⟩
      have t8 : gi h8 171 0 = 0 := (FRM_gi hF8 (r := 54) rfl rfl).trans t7
      have hu8 : gi h8 171 29 = gi h 171 29 := (FRM_gi hF8 (r := 54) rfl rfl).trans hu7
      have hN8 : ∀ b, b < 2147483000 → NB b h → NB (b + k) h8 := fun b hb z => NB_frm (by decide) hF8 (hN7 b hb z)
      replace hF8 : FRM gRL [(0, 54, 0, 1), (0, 54, 29, 29), (0, 54, 31, 32), (0, 61, 0, 56), (0, 69, 0, 911), (1, 55, 0, 39)] h h8 := hF7.trans (hF8.mono rfl)
      have gr8 := gi_r h8
      refine x_aload_n 72 hK rfl rfl l0 ?_
      refine x_aload_n 73 hK rfl rfl l0 ?_
      refine x_getR 76 hK rfl rfl (sp_171 (h := h8) hG8) (rf_171_14 (h := h8) hG8) ?_
      refine x_iconst 77 hK rfl rfl ?_
      refine x_ialoadE 78 hK rfl rfl (sp_178 (h := h8) hG8) (by first | omega | exact gr4 _ _ | exact gr7 _ _) (by first | omega | exact gr4 _ _ | exact gr7 _ _) (by first | omega | exact gr4 _ _ | exact gr7 _ _) (e' := (gi h8 178 1)) (rfl) ?_
      refine x_callV 81 hK hmono rfl rfl [.ref 171, .int (I (gi h8 178 1))] [] rfl rfl (Nat.le_of_ble_eq_true rfl) (Nat.le_of_ble_eq_true rfl) rfl (sp_171 (h := h8) hG8) (CLd_le (Nat.le_of_ble_eq_true rfl) (ctX11_adds hSP hG8 (by omega))) ?_
      rintro v9 h9 ⟨rfl, hG9, hF9, hu9, hN9⟩
      have t9 : gi h9 171 0 = 0 := (FRM_gi hF9 (r := 54) rfl rfl).trans t8
      exact x_iret hK rfl ⟨⟨_, rfl⟩, hG9, hF8.trans (hF9.mono rfl), t9, hu9, fun b hb z => hN9 _ ((hN8 b hb z).mono (by omega))⟩
    · refine x_aload_n 35 hK rfl rfl l0 ?_
      refine x_aload_n 36 hK rfl rfl l0 ?_
      refine x_getR 39 hK rfl rfl (sp_171 (h := h4) hG4) (rf_171_14 (h := h4) hG4) ?_
      refine x_callV 42 hK hmono rfl rfl [.ref 171, .ref 178] [] rfl rfl (Nat.le_of_ble_eq_true rfl) (Nat.le_of_ble_eq_true rfl) rfl (sp_171 (h := h4) hG4) (CLd_le (Nat.le_of_ble_eq_true rfl) (ctX11_stepGoesN hSP hG4 hX4)) ?_
      rintro v5 h5 ⟨rfl, hG5, hF5, e5⟩
      have t5 : gi h5 171 0 = 0 := (FRM_gi hF5 (r := 54) rfl rfl).trans t4
      have hu5 : gi h5 171 29 = gi h 171 29 := (FRM_gi hF5 (r := 54) rfl rfl).trans hu4
      have hN5 : ∀ b, b < 2147483000 → NB b h → NB (b + (k + 1)) h5 := fun b hb z => by
        rw [show b + (k + 1) = b + k + 1 by omega]
        exact NB_step (hN4 b hb z) (by omega) hF5 e5
      replace hF5 : FRM gRL [(0, 54, 0, 1), (0, 54, 29, 29), (0, 54, 31, 32), (0, 61, 0, 56), (0, 69, 0, 911), (1, 55, 0, 39)] h h5 := hF4.trans (hF5.mono rfl)
      refine x_iinc 45 hK rfl rfl l2 _ rfl ?_
      refine x_goto 29 hK rfl rfl ?_
      exact ih _ (by omega) (k + 1) h5 _ rfl (by omega) (by omega) h60 (lk1_n l0 (by decide) (Or.inl rfl)) (lk1_n l1 (by decide) (Or.inl rfl)) lk1_s hG5 hF5 t5 hu5 hN5
  refine x_aload_n 1 hK rfl rfl rfl ?_
  refine x_iconst 2 hK rfl rfl ?_
  refine x_putI 5 hK rfl rfl (sp_171 (h := h) hG) ?_
  refine x_iload_n 6 hK rfl rfl rfl ?_
  refine x_i2l 7 hK rfl rfl (by omega) ?_
  refine x_lconstE 8 0 hK rfl rfl rfl ?_
  refine x_ldc2_w 11 hK rfl rfl ?_
  refine x_callS 14 hK hmono rfl (Or.inl rfl) rfl [.long (J n), .long (J 0), .long (J 60)] [] rfl rfl (Nat.le_of_ble_eq_true rfl) (Nat.le_of_ble_eq_true rfl) (CLd_le (Nat.le_of_ble_eq_true rfl) (ctX11_in (by omega) (by omega) (by omega))) ?_
  rintro v9 h9 ⟨e9, ⟨rfl, i1, i2⟩ | ⟨rfl, i1⟩⟩ <;> rw [e9] <;> clear e9
  · refine x_if_ne 19 17 hK rfl rfl rfl (by omega) (fun _ => ?_) (fun c => by omega)
    refine x_aload_n 20 hK rfl rfl rfl ?_
    have hG1 : GD gE gRL sh (wI h 171 0 0) := GD_w1 (hG) (r := 54) rfl (by omega) rfl (by omega) (by omega)
    have hu1 : 0 ≤ gi (wI h 171 0 0) 171 29 ∧ gi (wI h 171 0 0) 171 29 ≤ 15 := by rw [show gi (wI h 171 0 0) 171 29 = gi h 171 29 from gi_k (by decide) _]; exact hu
    have hN1 : ∀ b, NB b h → NB b (wI h 171 0 0) := fun b z => (z).w (by decide)
    have hF1 : FRM gRL [(0, 54, 0, 1), (0, 54, 29, 29), (0, 54, 31, 32), (0, 61, 0, 56), (0, 69, 0, 911), (1, 55, 0, 39)] h (wI h 171 0 0) := FRM_w (FRM.rf) (r := 54) rfl rfl
    refine x_callV 23 hK hmono rfl rfl [.ref 171] [] rfl rfl (Nat.le_of_ble_eq_true rfl) (Nat.le_of_ble_eq_true rfl) rfl (sp_171 (h := h) hG) (CLd_le (Nat.le_of_ble_eq_true rfl) (ctX11_putsBy hSP hG1 hu1)) ?_
    rintro v2 h2 ⟨rfl, hG2, hF2, hN2⟩
    have hu2 : gi h2 171 29 = gi h 171 29 := (FRM_gi hF2 (r := 54) rfl rfl).trans (gi_k (by decide) _)
    have t2 : gi h2 171 0 = 0 := (FRM_gi hF2 (r := 54) rfl rfl).trans (gi_same (by omega))
    replace hF2 : FRM gRL [(0, 54, 0, 1), (0, 54, 29, 29), (0, 54, 31, 32), (0, 61, 0, 56), (0, 69, 0, 911), (1, 55, 0, 39)] h h2 := hF1.trans (hF2.mono rfl)
    replace hN2 : ∀ b, NB b h → NB b h2 := fun b z => hN2 b (hN1 b z)
    have hX2 : XI h2 := xOk_ok rfl h h2 hF2 hX
    refine x_aload_n 24 hK rfl rfl rfl ?_
    refine x_callV 27 hK hmono rfl rfl [.ref 171] [] rfl rfl (Nat.le_of_ble_eq_true rfl) (Nat.le_of_ble_eq_true rfl) rfl (sp_171 (h := h2) hG2) (CLd_le (Nat.le_of_ble_eq_true rfl) (kX11_startsCounting_0 hSP [.ref 171] _ hX2 ⟨gv_r (by decide) rfl, trivial⟩ hG2 gov_n)) ?_
    rintro v3 h3 ⟨hG3, hF3, o3, m3, q3, z3, -⟩
    obtain rfl := List.mem_singleton.mp m3
    obtain rfl := QS_v q3
    have hu3 : gi h3 171 29 = gi h 171 29 := (FRM_gi hF3 (r := 54) rfl rfl).trans hu2
    have t3 : gi h3 171 0 = 0 := (FRM_gi hF3 (r := 54) rfl rfl).trans t2
    have hN3 : ∀ b, NB b h → NB b h3 := fun b z => NB_frm (by decide) hF3 (hN2 b z)
    replace hF3 : FRM gRL [(0, 54, 0, 1), (0, 54, 29, 29), (0, 54, 31, 32), (0, 61, 0, 56), (0, 69, 0, 911), (1, 55, 0, 39)] h h3 := hF2.trans (hF3.mono rfl)
    refine x_iconst 28 hK rfl rfl ?_
    refine x_istore_n 29 hK rfl rfl [(2, .int (I 0)), (0, .ref 171), (1, .int (I n))] rfl ?_
    exact loop _ 0 h3 _ rfl (by omega) (by omega) (by omega) rfl rfl rfl hG3 hF3 t3 hu3 fun b _ z => (hN3 b z).mono (by omega)
  · refine x_if_ne 19 17 hK rfl rfl rfl (by omega) (fun c => by omega) (fun _ => ?_)
    refine x_iconst 18 hK rfl rfl ?_
    exact x_iret hK rfl ⟨⟨_, rfl⟩, GD_w1 (hG) (r := 54) rfl (by omega) rfl (by omega) (by omega), FRM_w (FRM.rf) (r := 54) rfl rfl, gi_same (by omega), by rw [gi_k (by decide)]; exact hu, fun b hb z => ((z.w (by decide)).mono (by omega))⟩
