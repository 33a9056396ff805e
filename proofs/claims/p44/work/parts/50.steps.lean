/-! ORDERS, STEPS, VOYAGES (the reference): safe, and by how much the step's number grows -/
/-- writes that leave the step's number alone -/
def nbOk (M : MD) : Bool := M.all fun q => !(Nat.beq q.1 0) || (!(Nat.beq q.2.1 69) && !(Nat.beq q.2.1 83) && (!(Nat.beq q.2.1 61) || Nat.blt 0 q.2.2.1))
theorem mHas_no {M : MD} {r k : Nat} (h : (M.all fun q => !(Nat.beq q.1 0 && Nat.beq q.2.1 r && Nat.ble q.2.2.1 k && Nat.ble k q.2.2.2)) = true) : mHas M 0 r k = false := by
  cases hc : mHas M 0 r k with
  | false => rfl
  | true =>
    obtain ⟨q, hq, h2⟩ := List.any_eq_true.mp hc
    have := List.all_eq_true.mp h q hq
    rw [h2] at this
    cases this
theorem nb_has {M : MD} (h : nbOk M = true) (k : Nat) : mHas M 0 61 0 = false ∧ mHas M 0 69 k = false ∧ mHas M 0 83 k = false := by
  refine ⟨mHas_no ?_, mHas_no ?_, mHas_no ?_⟩ <;> refine List.all_eq_true.mpr fun q hq => ?_ <;> have z := List.all_eq_true.mp h q hq <;>
    cases e0 : Nat.beq q.1 0 <;> simp only [e0, Bool.not_false, Bool.true_or, Bool.false_and, Bool.not_true, Bool.false_or, Bool.true_and, Bool.and_eq_true, Bool.not_eq_true', Bool.or_eq_true] at z ⊢
  · cases e1 : Nat.beq q.2.1 61
    · simp
    · have : ¬ q.2.2.1 ≤ 0 := by
        rcases z.2 with z2 | z2
        · rw [e1] at z2; cases z2
        · have := bt z2; omega
      have e2 : Nat.ble q.2.2.1 0 = false := by
        cases e3 : Nat.ble q.2.2.1 0
        · rfl
        · exact absurd (Nat.le_of_ble_eq_true e3) this
      simp [e2]
  · simp [z.1.1]
  · simp [z.1.2]
theorem NB_frm {M : MD} {h h' : aH} {b : Int} (hM : nbOk M = true) (hF : FRM gRL M h h') (n : NB b h) : NB b h' := by
  refine ⟨?_, fun u hu => ?_, fun u hu => ?_⟩
  · rw [FRM_gi hF (r := 61) rfl (nb_has hM 0).1]; exact n.1
  · rw [FRM_gi hF (r := 69) rfl (nb_has hM _).2.1]; exact n.2.1 u hu
  · rw [FRM_gi hF (r := 83) rfl (nb_has hM _).2.2]; exact n.2.2 u hu
theorem tm2 (a : Int) : -1 ≤ a.tmod 2 ∧ a.tmod 2 ≤ 1 := by
  by_cases c : 0 ≤ a
  · rw [Int.tmod_eq_emod_of_nonneg c]; omega
  · have e : a.tmod 2 = -((-a).tmod 2) := by rw [Int.neg_tmod, Int.neg_neg]
    rw [e, Int.tmod_eq_emod_of_nonneg (by omega)]; omega
theorem ctX11_turned {SP : CT} (hSP : MONO SP) {sh : List (Nat × Nat)} {h : aH} (hG : GD gE gRL sh h) {v : Int} : CLd SP 1 mX11_turned [.ref 171, .int (I v)] h 0 0 (fun rv h' => h' = h ∧ rv = some (.int (I (if (gi h 171 5).tmod 2 = 1 then -v else v)))) := by
  refine x_met _ rfl (Nat.le_of_ble_eq_true rfl) (fun K hK => ?_)
  have hmono := MONO_CLd hSP 0
  refine x_aload_n 1 hK rfl rfl rfl ?_
  refine x_getE 4 hK rfl (Or.inl rfl) rfl (sp_171 (h := h) hG) (e := (gi h 171 5)) (rfl) ?_
  refine x_iconst 5 hK rfl rfl ?_
  refine x_irem 6 hK rfl rfl (gi_r _ _ _) (by omega) (by omega) (by omega) ?_
  have tm := tm2 (gi h 171 5)
  generalize (gi h 171 5).tmod 2 = t at *
  refine x_iconst 7 hK rfl rfl ?_
  refine x_if_icmp_ne 15 10 hK rfl rfl rfl (by omega) (by omega) (fun c6 => ?_) (fun c6 => ?_)
  · refine x_iload_n 16 hK rfl rfl rfl ?_
    exact x_iret hK rfl ⟨rfl, by rw [if_neg (by omega)]⟩
  · refine x_iload_n 11 hK rfl rfl rfl ?_
    refine x_ineg 12 hK rfl rfl ?_
    refine x_goto 16 hK rfl rfl ?_
    exact x_iret hK rfl ⟨rfl, by rw [if_pos (by omega)]⟩
theorem ctX11_givesT {SP : CT} (hSP : MONO SP) {sh : List (Nat × Nat)} {h : aH} (hG : GD gE gRL sh h) {v : Int} (hX : XI h) (hv : r32 v) : CLd SP 7 mX11_gives [.ref 171, .ref 179, .int (I v)] h 0 0 (fun rv h' => (∃ e, rv = some (.int (I e)) ∧ -3 ≤ e ∧ e ≤ 12) ∧ GD gE gRL sh h' ∧ FRM gRL [(0, 62, 3, 40), (0, 67, 0, 79), (0, 68, 0, 3)] h h') := by
  refine x_met _ rfl (Nat.le_of_ble_eq_true rfl) (fun K hK => ?_)
  have hmono := MONO_CLd hSP 6
  have gr := gi_r h 179
  have g3 := gri 0 12 hG (a := 179) (r := 62) (k := 3) rfl rfl
  refine x_iload_n 1 hK rfl rfl rfl ?_
  refine x_i2l 2 hK rfl rfl (by first | omega | exact gr _ | exact gr8 _) ?_
  refine x_ldc2_w 5 hK rfl rfl ?_
  refine x_lconstE 6 1 hK rfl rfl rfl ?_
  refine x_callS 9 hK hmono rfl (Or.inl rfl) rfl [.long (J v), .long (J (-1)), .long (J 1)] [] rfl rfl (Nat.le_of_ble_eq_true rfl) (Nat.le_of_ble_eq_true rfl) (CLd_le (Nat.le_of_ble_eq_true rfl) (ctX11_in (by omega) (by omega) (by omega))) ?_
  rintro v9 h9 ⟨e9, ⟨rfl, i1, i2⟩ | ⟨rfl, i1⟩⟩ <;> rw [e9] <;> clear e9
  · refine x_if_ne 14 12 hK rfl rfl rfl (by first | omega | exact gr _ | exact gr8 _) (fun _ => ?_) (fun c => by omega)
    refine x_aload_n 15 hK rfl rfl rfl ?_
    refine x_iconst 16 hK rfl rfl ?_
    refine x_ialoadE 17 hK rfl rfl (sp_179 (h := h) hG) (by first | omega | exact gr _ | exact gr8 _) (by first | omega | exact gr _ | exact gr8 _) (by first | omega | exact gr _ | exact gr8 _) (e' := (gi h 179 4)) (rfl) ?_
    refine x_aload_n 18 hK rfl rfl rfl ?_
    refine x_iconst 19 hK rfl rfl ?_
    refine x_ialoadE 20 hK rfl rfl (sp_179 (h := h) hG) (by first | omega | exact gr _ | exact gr8 _) (by first | omega | exact gr _ | exact gr8 _) (by first | omega | exact gr _ | exact gr8 _) (e' := (gi h 179 0)) (rfl) ?_
    refine x_if_icmp_ne 26 23 hK rfl rfl rfl (by first | omega | exact gr _ | exact gr8 _) (by first | omega | exact gr _ | exact gr8 _) (fun c13 => ?_) (fun c13 => ?_)
    · refine x_aload_n 27 hK rfl rfl rfl ?_
      refine x_iconst 28 hK rfl rfl ?_
      refine x_ialoadE 29 hK rfl rfl (sp_179 (h := h) hG) (by first | omega | exact gr _ | exact gr8 _) (by first | omega | exact gr _ | exact gr8 _) (by first | omega | exact gr _ | exact gr8 _) (e' := (gi h 179 3)) (rfl) ?_
      refine x_bipush 31 hK rfl rfl rfl ?_
      refine x_if_icmp_ne 37 34 hK rfl rfl rfl (by first | omega | exact gr _ | exact gr8 _) (by first | omega | exact gr _ | exact gr8 _) (fun c18 => ?_) (fun c18 => ?_)
      · refine x_aload_n 38 hK rfl rfl rfl ?_
        refine x_aload_n 39 hK rfl rfl rfl ?_
        refine x_iconst 40 hK rfl rfl ?_
        refine x_ialoadE 41 hK rfl rfl (sp_179 (h := h) hG) (by first | omega | exact gr _ | exact gr8 _) (by first | omega | exact gr _ | exact gr8 _) (by first | omega | exact gr _ | exact gr8 _) (e' := (gi h 179 0)) (rfl) ?_
        refine x_callV 44 hK hmono rfl rfl [.ref 171, .int (I (gi h 179 0))] [] rfl rfl (Nat.le_of_ble_eq_true rfl) (Nat.le_of_ble_eq_true rfl) rfl (sp_171 (h := h) hG) (CLd_le (Nat.le_of_ble_eq_true rfl) (kX11_delayAt_0 hSP [.ref 171, .int (I (gi h 179 0))] _ hX ⟨gv_r (by decide) rfl, ⟨_, rfl, i32_lo _, i32_hi _, trivial⟩, trivial⟩ hG gov_n)) ?_
        rintro v8 h8 ⟨hG8, hF8, o8, m8, q8, z8, -⟩
        obtain rfl := List.mem_singleton.mp m8
        obtain ⟨w8, rw8, rfl, lw8, uw8⟩ := QS_i q8
        have k8 : ∀ k, gi h8 179 k = gi h 179 k := fun k => FRM_gi hF8 (r := 62) rfl rfl
        have hX8 : XI h8 := xOk_ok rfl h h8 hF8 hX
        have gr8 := gi_r h8 179
        have g38 := gri 0 12 hG8 (a := 179) (r := 62) (k := 3) rfl rfl
        have k83 := k8 3
        replace hF8 : FRM gRL [(0, 62, 3, 40), (0, 67, 0, 79), (0, 68, 0, 3)] h h8 := hF8.mono rfl
        refine x_istore_n 45 hK rfl rfl [(3, .int (I w8)), (0, .ref 171), (1, .ref 179), (2, .int (I v))] rfl ?_
        refine x_iconst 46 hK rfl rfl ?_
        refine x_iconst 47 hK rfl rfl ?_
        refine x_aload_n 48 hK rfl rfl rfl ?_
        refine x_iconst 49 hK rfl rfl ?_
        refine x_ialoadE 50 hK rfl rfl (sp_179 (h := h8) hG8) (by first | omega | exact gr _ | exact gr8 _) (by first | omega | exact gr _ | exact gr8 _) (by first | omega | exact gr _ | exact gr8 _) (e' := (gi h8 179 3)) (rfl) ?_
        refine x_imul 51 hK rfl rfl ?_
        refine x_iadd 52 hK rfl rfl ?_
        refine x_istore 54 hK rfl rfl [(4, .int (I (5 + (3 * (gi h8 179 3))))), (3, .int (I w8)), (0, .ref 171), (1, .ref 179), (2, .int (I v))] rfl ?_
        refine x_aload_n 55 hK rfl rfl rfl ?_
        refine x_iload 57 hK rfl rfl rfl ?_
        refine x_iconst 58 hK rfl rfl ?_
        refine x_iadd 59 hK rfl rfl ?_
        refine x_aload_n 60 hK rfl rfl rfl ?_
        refine x_iconst 61 hK rfl rfl ?_
        refine x_ialoadE 62 hK rfl rfl (sp_179 (h := h8) hG8) (by first | omega | exact gr _ | exact gr8 _) (by first | omega | exact gr _ | exact gr8 _) (by first | omega | exact gr _ | exact gr8 _) (e' := (gi h8 179 0)) (rfl) ?_
        refine x_iload_n 63 hK rfl rfl rfl ?_
        refine x_iadd 64 hK rfl rfl ?_
        refine x_iastore 65 hK rfl rfl (sp_179 (h := h8) hG8) (by first | omega | exact gr _ | exact gr8 _) (by first | omega | exact gr _ | exact gr8 _) (by first | omega | exact gr _ | exact gr8 _) ?_
        refine x_aload_n 66 hK rfl rfl rfl ?_
        refine x_iload 68 hK rfl rfl rfl ?_
        refine x_iconst 69 hK rfl rfl ?_
        refine x_iadd 70 hK rfl rfl ?_
        refine x_aload_n 71 hK rfl rfl rfl ?_
        refine x_iload_n 72 hK rfl rfl rfl ?_
        have hG7 : GD gE gRL sh (wI h8 179 ((5 + (3 * (gi h8 179 3))) + 0).toNat ((gi h8 179 0) + w8)) := GD_st (hG8) (r := 62) rfl rfl (fun z => by omega) (fun z => by omega) (fun j hj z => by omega)
        refine x_callV 75 hK hmono rfl rfl [.ref 171, .int (I v)] [.int (I ((5 + (3 * (gi h8 179 3))) + 1)), .ref 179] rfl rfl (Nat.le_of_ble_eq_true rfl) (Nat.le_of_ble_eq_true rfl) rfl (sp_171 (h := h8) hG8) (CLd_le (Nat.le_of_ble_eq_true rfl) (ctX11_turned hSP hG7)) ?_
        rintro v9 h9 ⟨e9, rfl⟩
        rw [e9]
        clear e9
        obtain ⟨w6, hw6, lw6, uw6⟩ : ∃ n : Int, (if (gi (wI h8 179 ((5 + (3 * (gi h8 179 3))) + 0).toNat ((gi h8 179 0) + w8)) 171 5).tmod 2 = 1 then -v else v) = n ∧ -1 ≤ n ∧ n ≤ 1 := by
          by_cases c : (gi (wI h8 179 ((5 + (3 * (gi h8 179 3))) + 0).toNat ((gi h8 179 0) + w8)) 171 5).tmod 2 = 1
          · rw [if_pos c]; exact ⟨_, rfl, by omega, by omega⟩
          · rw [if_neg c]; exact ⟨_, rfl, by omega, by omega⟩
        rw [hw6]
        refine x_iastore 76 hK rfl rfl (sp_179 (h := h8) hG8) (by first | omega | exact gr _ | exact gr8 _) (by first | omega | exact gr _ | exact gr8 _) (by first | omega | exact gr _ | exact gr8 _) ?_
        refine x_aload_n 77 hK rfl rfl rfl ?_
        refine x_iload 79 hK rfl rfl rfl ?_
        refine x_iconst 80 hK rfl rfl ?_
        refine x_iadd 81 hK rfl rfl ?_
        refine x_aload_n 82 hK rfl rfl rfl ?_
        refine x_iconst 83 hK rfl rfl ?_
        refine x_ialoadE 84 hK rfl rfl (sp_179 (h := h8) hG8) (by first | omega | exact gr _ | exact gr8 _) (by first | omega | exact gr _ | exact gr8 _) (by first | omega | exact gr _ | exact gr8 _) (e' := (gi h8 179 0)) ((gi_k (by omega) _).trans (gi_k (by omega) _)) ?_
        refine x_iastore 85 hK rfl rfl (sp_179 (h := h8) hG8) (by first | omega | exact gr _ | exact gr8 _) (by first | omega | exact gr _ | exact gr8 _) (by first | omega | exact gr _ | exact gr8 _) ?_
        refine x_aload_n 86 hK rfl rfl rfl ?_
        refine x_iconst 87 hK rfl rfl ?_
        refine x_dup2 88 hK rfl rfl rfl rfl ?_
        refine x_ialoadE 89 hK rfl rfl (sp_179 (h := h8) hG8) (by first | omega | exact gr _ | exact gr8 _) (by first | omega | exact gr _ | exact gr8 _) (by first | omega | exact gr _ | exact gr8 _) (e' := (gi h8 179 3)) ((gi_k (by omega) _).trans ((gi_k (by omega) _).trans (gi_k (by omega) _))) ?_
        refine x_iconst 90 hK rfl rfl ?_
        refine x_iadd 91 hK rfl rfl ?_
        refine x_iastore 92 hK rfl rfl (sp_179 (h := h8) hG8) (by first | omega | exact gr _ | exact gr8 _) (by first | omega | exact gr _ | exact gr8 _) (by first | omega | exact gr _ | exact gr8 _) ?_
        refine x_aload_n 93 hK rfl rfl rfl ?_
        refine x_iconst 94 hK rfl rfl ?_
        refine x_aload_n 95 hK rfl rfl rfl ?_
        refine x_iconst 96 hK rfl rfl ?_
        refine x_ialoadE 97 hK rfl rfl (sp_179 (h := h8) hG8) (by first | omega | exact gr _ | exact gr8 _) (by first | omega | exact gr _ | exact gr8 _) (by first | omega | exact gr _ | exact gr8 _) (e' := (gi h8 179 0)) ((gi_k (by omega) _).trans ((gi_k (by omega) _).trans ((gi_k (by omega) _).trans (gi_k (by omega) _)))) ?_
        refine x_iastore 98 hK rfl rfl (sp_179 (h := h8) hG8) (by first | omega | exact gr _ | exact gr8 _) (by first | omega | exact gr _ | exact gr8 _) (by first | omega | exact gr _ | exact gr8 _) ?_
        refine x_iload_n 99 hK rfl rfl rfl ?_
        exact x_iret hK rfl ⟨⟨_, rfl, by omega, by omega⟩, GD_st (GD_st (GD_st (GD_st (GD_st (hG8) (r := 62) rfl rfl (fun z => by omega) (fun z => by omega) (fun j hj z => by omega)) (r := 62) rfl rfl (fun z => by omega) (fun z => by omega) (fun j hj z => by omega)) (r := 62) rfl rfl (fun z => by omega) (fun z => by omega) (fun j hj z => by omega)) (r := 62) rfl rfl (fun z => by omega) (fun z => by omega) (fun j hj z => by omega)) (r := 62) rfl rfl (fun z => by omega) (fun z => by omega) (fun j hj z => by omega), FRM_w (FRM_w (FRM_wn 3 40 (FRM_wn 3 40 (FRM_wn 3 40 (hF8) (r := 62) rfl rfl rfl (by omega) (by omega)) (r := 62) rfl rfl rfl (by omega) (by omega)) (r := 62) rfl rfl rfl (by omega) (by omega)) (r := 62) rfl rfl) (r := 62) rfl rfl⟩
      · refine x_bipush 36 hK rfl rfl rfl ?_
        exact x_iret hK rfl ⟨⟨_, rfl, by omega, by omega⟩, hG, FRM.rf⟩
    · refine x_bipush 25 hK rfl rfl rfl ?_
      exact x_iret hK rfl ⟨⟨_, rfl, by omega, by omega⟩, hG, FRM.rf⟩
  · refine x_if_ne 14 12 hK rfl rfl rfl (by first | omega | exact gr _ | exact gr8 _) (fun c => by omega) (fun _ => ?_)
    refine x_iconst 13 hK rfl rfl ?_
    exact x_iret hK rfl ⟨⟨_, rfl, by omega, by omega⟩, hG, FRM.rf⟩
