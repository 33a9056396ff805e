/-! WHAT IS HELD OF THE STATES OF BOTH -/
/-- the kept ones -/
noncomputable def KPR (h : aH) : Prop := ∀ i : Nat, i < 3 → (gi h 36 i = 1 ↔ gi h 198 i = 1 ∧ gi h 199 i = gi h 171 8) ∧ (gi h 36 i = 1 → STR (gi h 0 9) (kS h (112 + 5 * i)) (vw (RC h 200 (57 * i))))
/-- how often the MESSES changed -/
noncomputable def CHR (h : aH) : Prop := (0 ≤ gi h 171 8 ∧ gi h 171 8 ≤ gi h 0 9) ∧ ∀ i : Nat, i < 3 → gi h 198 i = 1 → gi h 199 i ≤ gi h 171 8
noncomputable def STA (h : aH) : Prop := STR (gi h 0 9) (kS h 23) (vw (RC h 178 0)) ∧ PLR (gi h 0 9) (PL h) (UL h) ∧ KPR h ∧ CHR h
noncomputable def kcOk (M : MD) : Bool := !(mHas M 0 0 9) && !(mHas M 0 54 8) && (M.all fun q => !(Nat.beq q.1 0 && Nat.beq q.2.1 30)) && (M.all fun q => !(Nat.beq q.1 0 && Nat.beq q.2.1 36)) && (M.all fun q => !(Nat.beq q.1 0 && Nat.beq q.2.1 37)) && (M.all fun q => !(Nat.beq q.1 0 && Nat.beq q.2.1 38)) && (M.all fun q => !(Nat.beq q.1 0 && Nat.beq q.2.1 39)) && (M.all fun q => !(Nat.beq q.1 0 && Nat.beq q.2.1 40)) && (M.all fun q => !(Nat.beq q.1 0 && Nat.beq q.2.1 81)) && (M.all fun q => !(Nat.beq q.1 0 && Nat.beq q.2.1 82)) && (M.all fun q => !(Nat.beq q.1 0 && Nat.beq q.2.1 83))
theorem kSk_F {M : MD} {h h' : aH} (hF : FRM gRL M h h') (m3 : (M.all fun q => !(Nat.beq q.1 0 && Nat.beq q.2.1 36)) = true) (m4 : (M.all fun q => !(Nat.beq q.1 0 && Nat.beq q.2.1 37)) = true) (m5 : (M.all fun q => !(Nat.beq q.1 0 && Nat.beq q.2.1 38)) = true) (m6 : (M.all fun q => !(Nat.beq q.1 0 && Nat.beq q.2.1 39)) = true) (m7 : (M.all fun q => !(Nat.beq q.1 0 && Nat.beq q.2.1 40)) = true) {i : Nat} (hi : i < 3) : kS h' (112 + 5 * i) = kS h (112 + 5 * i) := by
  obtain ⟨q0, q1, q2, q3, q4⟩ := kp_r (c := 112 + 5 * i) ⟨i, hi, rfl⟩
  refine kS_ge fun a k h1 h2 => ?_
  rcases (show a = 112 + 5 * i ∨ a = 112 + 5 * i + 1 ∨ a = 112 + 5 * i + 2 ∨ a = 112 + 5 * i + 3 ∨ a = 112 + 5 * i + 4 by omega) with rfl | rfl | rfl | rfl | rfl
  · exact FRM_gi hF q0 (mHas_non m3 k)
  · exact FRM_gi hF q1 (mHas_non m4 k)
  · exact FRM_gi hF q2 (mHas_non m5 k)
  · exact FRM_gi hF q3 (mHas_non m6 k)
  · exact FRM_gi hF q4 (mHas_non m7 k)
theorem KPR_F {M : MD} {h h' : aH} (hF : FRM gRL M h h') (hm : kcOk M = true) (hk : KPR h) : KPR h' := by
  simp only [kcOk, Bool.and_eq_true, Bool.not_eq_true'] at hm
  have m0 := hm.1.1.1.1.1.1.1.1.1.1
  have m1 := hm.1.1.1.1.1.1.1.1.1.2
  have m2 := hm.1.1.1.1.1.1.1.1.2
  have m3 := hm.1.1.1.1.1.1.1.2
  have m4 := hm.1.1.1.1.1.1.2
  have m5 := hm.1.1.1.1.1.2
  have m6 := hm.1.1.1.1.2
  have m7 := hm.1.1.1.2
  have m8 := hm.1.1.2
  have m9 := hm.1.2
  have m10 := hm.2
  intro i hi
  have e1 : gi h' 36 i = gi h 36 i := FRM_gi hF (r := 30) rfl (mHas_non m2 i)
  have e2 : gi h' 198 i = gi h 198 i := FRM_gi hF (r := 81) rfl (mHas_non m8 i)
  have e3 : gi h' 199 i = gi h 199 i := FRM_gi hF (r := 82) rfl (mHas_non m9 i)
  have e4 : gi h' 171 8 = gi h 171 8 := FRM_gi hF (r := 54) rfl m1
  have e5 : gi h' 0 9 = gi h 0 9 := FRM_gi hF (r := 0) rfl m0
  rw [e1, e2, e3, e4, e5, kSk_F hF m3 m4 m5 m6 m7 hi, RC_F hF (a := 200) (r := 83) rfl m10]
  exact hk i hi
theorem CHR_F {M : MD} {h h' : aH} (hF : FRM gRL M h h') (hm : kcOk M = true) (hk : CHR h) : CHR h' := by
  simp only [kcOk, Bool.and_eq_true, Bool.not_eq_true'] at hm
  have m0 := hm.1.1.1.1.1.1.1.1.1.1
  have m1 := hm.1.1.1.1.1.1.1.1.1.2
  have m2 := hm.1.1.1.1.1.1.1.1.2
  have m3 := hm.1.1.1.1.1.1.1.2
  have m4 := hm.1.1.1.1.1.1.2
  have m5 := hm.1.1.1.1.1.2
  have m6 := hm.1.1.1.1.2
  have m7 := hm.1.1.1.2
  have m8 := hm.1.1.2
  have m9 := hm.1.2
  have m10 := hm.2
  have e4 : gi h' 171 8 = gi h 171 8 := FRM_gi hF (r := 54) rfl m1
  have e5 : gi h' 0 9 = gi h 0 9 := FRM_gi hF (r := 0) rfl m0
  refine ⟨by rw [e4, e5]; exact hk.1, fun i hi z => ?_⟩
  rw [FRM_gi hF (a := 198) (r := 81) rfl (mHas_non m8 i)] at z
  rw [FRM_gi hF (a := 199) (r := 82) rfl (mHas_non m9 i), e4]
  exact hk.2 i hi z
theorem kc_9 {M : MD} {h h' : aH} (hF : FRM gRL M h h') (hm : kcOk M = true) : gi h' 0 9 = gi h 0 9 := by
  simp only [kcOk, Bool.and_eq_true, Bool.not_eq_true'] at hm
  have m0 := hm.1.1.1.1.1.1.1.1.1.1
  exact FRM_gi hF (r := 0) rfl m0
theorem UL_F {M : MD} {h h' : aH} (hF : FRM gRL M h h') (h1 : mHas M 0 54 29 = false) (h2 : (M.all fun q => !(Nat.beq q.1 0 && Nat.beq q.2.1 69)) = true) : UL h' = UL h :=
  UL_eq (FRM_gi hF (r := 54) rfl h1) fun u _ => RC_F hF (r := 69) rfl h2 _
/-- a pair of calls that leaves what is kept -/
theorem STA_of {M1 M2 : MD} {h h1 h2 : aH} (hF1 : FRM gRL M1 h h1) (hF2 : FRM gRL M2 h1 h2) (m1 : kcOk M1 = true) (m2 : (kcOk M2 && (s23Ok M2 && plOk M2)) = true) (hk : KPR h) (hc : CHR h) (hs : STR (gi h 0 9) (kS h1 23) (vw (RC h2 178 0))) (hp : PLR (gi h 0 9) (PL h1) (UL h2)) : STA h2 := by
  simp only [Bool.and_eq_true] at m2
  have e9 : gi h2 0 9 = gi h 0 9 := (kc_9 hF2 m2.1).trans (kc_9 hF1 m1)
  refine ⟨?_, ?_, KPR_F hF2 m2.1 (KPR_F hF1 m1 hk), CHR_F hF2 m2.1 (CHR_F hF1 m1 hc)⟩
  · rw [e9, kS23_F hF2 m2.2.1]; exact hs
  · rw [e9, PL_F hF2 m2.2.2]; exact hp
noncomputable def STAOk (M : MD) : Bool := kcOk M && (s23Ok M && (plOk M && (!(mHas M 0 54 29) && ((M.all fun q => !(Nat.beq q.1 0 && Nat.beq q.2.1 61)) && (M.all fun q => !(Nat.beq q.1 0 && Nat.beq q.2.1 69))))))
theorem STA_F {M : MD} {h h' : aH} (hF : FRM gRL M h h') (hm : STAOk M = true) (hs : STA h) : STA h' := by
  simp only [STAOk, Bool.and_eq_true, Bool.not_eq_true'] at hm
  obtain ⟨m0, m1, m2, m3, m4, m5⟩ := hm
  obtain ⟨s1, s2, s3, s4⟩ := hs
  refine ⟨?_, ?_, KPR_F hF m0 s3, CHR_F hF m0 s4⟩
  · rw [kc_9 hF m0, kS23_F hF m1, RC_F hF (a := 178) (r := 61) rfl m4]; exact s1
  · rw [kc_9 hF m0, PL_F hF m2, UL_F hF m3 m5]; exact s2
/-- a state brought back -/
theorem UL_pop {h h' : aH} (h0 : 0 < gi h 171 29) (e : gi h' 171 29 = gi h 171 29 - 1) (f : ∀ v, RC h' 186 v = RC h 186 v) : UL h = UL h' ++ [RC h 186 (57 * (gi h 171 29 - 1).toNat)] := by
  unfold UL
  rw [e, show (gi h 171 29).toNat = (gi h 171 29 - 1).toNat + 1 by omega, List.range_succ, List.map_append]
  congr 1
  exact List.map_congr_left fun u _ => (f _).symm
/-- nothing was ordered, passed, kept yet -/
theorem OKW_0 {w : WS} (h0 : w.2.2.2.2.1 = []) (h1 : w.2.2.2.1 ≤ w.1) : OKW w := by
  unfold OKW
  rw [h0]
  exact ⟨fun q hq => absurd hq List.not_mem_nil, List.Pairwise.nil, Nat.zero_le _, h1⟩
theorem w32_of {a b : Int} (h : some (Value.int (I a)) = some (Value.int (I b))) : w32 a = w32 b := congrArg Int32.toInt (Value.int.inj (Option.some.inj h))
noncomputable def rgOk (M : MD) : Bool := (M.all fun q => !(Nat.beq q.1 0 && Nat.beq q.2.1 31)) && (M.all fun q => !(Nat.beq q.1 0 && Nat.beq q.2.1 32)) && (M.all fun q => !(Nat.beq q.1 0 && Nat.beq q.2.1 33)) && (M.all fun q => !(Nat.beq q.1 0 && Nat.beq q.2.1 34)) && (M.all fun q => !(Nat.beq q.1 0 && Nat.beq q.2.1 35))
theorem PL_G {M : MD} {h h' : aH} (hF : FRM gRL M h h') (hm : rgOk M = true) (e1 : gi h' 33 1 = gi h 33 1) (e2 : gi h' 33 2 = gi h 33 2) : PL h' = PL h := by
  simp only [rgOk, Bool.and_eq_true] at hm
  have m0 := hm.1.1.1.1
  have m1 := hm.1.1.1.2
  have m2 := hm.1.1.2
  have m3 := hm.1.2
  have m4 := hm.2
  refine PL_eq e1 e2 fun i hi => ?_
  obtain ⟨q0, q1, q2, q3, q4⟩ := rg_r (c := 37 + 5 * i) ⟨i, hi, rfl⟩
  refine kS_ge fun a k h1 h2 => ?_
  rcases (show a = 37 + 5 * i ∨ a = 37 + 5 * i + 1 ∨ a = 37 + 5 * i + 2 ∨ a = 37 + 5 * i + 3 ∨ a = 37 + 5 * i + 4 by omega) with rfl | rfl | rfl | rfl | rfl
  · exact FRM_gi hF q0 (mHas_non m0 k)
  · exact FRM_gi hF q1 (mHas_non m1 k)
  · exact FRM_gi hF q2 (mHas_non m2 k)
  · exact FRM_gi hF q3 (mHas_non m3 k)
  · exact FRM_gi hF q4 (mHas_non m4 k)
theorem PL_nil {h : aH} (e : gi h 33 2 = 0) : PL h = [] := by
  unfold PL
  rw [e]
  rfl
theorem UL_nil {h : aH} (e : gi h 171 29 = 0) : UL h = [] := by
  unfold UL
  rw [e]
  rfl
theorem AW_u {b : Int} {M : MD} {h h' : aH} {x : Nat → Int} (aw : AW b h) (hF : FRM gRL M h h') (h69 : (M.all fun q => !(Nat.beq q.1 0 && Nat.beq q.2.1 69)) = true) (h83 : (M.all fun q => !(Nat.beq q.1 0 && Nat.beq q.2.1 83)) = true) (e : RC h' 178 0 = x) (hx : WB b x) : AW b h' :=
  ⟨by rw [e]; exact hx, fun u hu => by rw [RC_F hF (a := 186) (r := 69) rfl h69]; exact aw.2.1 u hu, fun u hu => by rw [RC_F hF (a := 200) (r := 83) rfl h83]; exact aw.2.2 u hu⟩
theorem tm4 (a : Int) : -3 ≤ a.tmod 4 ∧ a.tmod 4 ≤ 3 := by
  by_cases c : 0 ≤ a
  · rw [Int.tmod_eq_emod_of_nonneg c]; omega
  · have e : a.tmod 4 = -((-a).tmod 4) := by rw [Int.neg_tmod, Int.neg_neg]
    rw [e, Int.tmod_eq_emod_of_nonneg (by omega)]; omega
set_option maxRecDepth 4000 in
theorem ctX10_voyagesS {SP : CT} (hSP : MONO SP) {sh : List (Nat × Nat)} {h : aH} (hG : GD gE gRL sh h) (hP : PT h) (hX : XI h) {x n : Int} (rx : r32 x) (rn : r32 n) : CLd SP 12 mX10_voyages [.ref 0, .int (I x), .int (I n)] h 0 0 (fun rv h' => (∃ e, rv = some (.int (I e))) ∧ GD gE gRL sh h' ∧ FRM gRL [(0, 3, 1, 1), (0, 8, 3, 3), (0, 10, 0, 39), (0, 17, 0, 4), (0, 18, 0, 11), (0, 19, 0, 11), (0, 20, 0, 7), (0, 21, 0, 7), (0, 22, 0, 4), (0, 23, 0, 11), (0, 24, 0, 11), (0, 25, 0, 7), (0, 26, 0, 7), (1, 4, 0, 29)] h h' ∧ kS h' 23 = kS h 23) := by
  refine x_met _ rfl (Nat.le_of_ble_eq_true rfl) (fun K hK => ?_)
  have hmono := MONO_CLd hSP 11
  have loop : ∀ (mz : Nat) (d g i : Int) (h4 : aH) (ls : List (Nat × Value)), ((n - i).toNat = mz) → (1 ≤ n ∧ n ≤ 60) → (0 ≤ i ∧ i ≤ n) → (0 ≤ g ∧ g ≤ i) → (kS h4 28 = kS h 23) → lk ls 0 = some (.ref 0) → lk ls 2 = some (.int (I n)) → lk ls 3 = some (.int (I d)) → lk ls 4 = some (.int (I g)) → lk ls 5 = some (.int (I i)) → GD gE gRL sh h4 → FRM gRL [(0, 8, 3, 3), (0, 10, 0, 39), (0, 17, 0, 4), (0, 18, 0, 11), (0, 19, 0, 11), (0, 20, 0, 7), (0, 21, 0, 7), (0, 22, 0, 4), (0, 23, 0, 11), (0, 24, 0, 11), (0, 25, 0, 7), (0, 26, 0, 7)] h h4 → K 32 ls [] h4 0 0 := by
    intro mz
    induction mz using Nat.strongRecOn with
    | ind mz ih =>
    intro d g i h4 ls hm n0 i0 g0 s28 l0 l2 l3 l4 l5 hG4 hF4
    have e28 : gi h4 28 2 = gi h 23 2 := congrArg (fun z : CWS => z.2.2.1) s28
    refine x_iload 34 hK rfl rfl l5 ?_
    refine x_iload_n 35 hK rfl rfl l2 ?_
    refine x_if_icmp_ge 98 38 hK rfl rfl rfl (by omega) (by omega) (fun c3 => ?_) (fun c3 => ?_)
    · refine x_aload_n 99 hK rfl rfl l0 ?_
      refine x_getR 102 hK rfl rfl (sp_0 (h := h4) hG4) (rf_0_10 (h := h4) hG4) ?_
      have g514 := gi_r h4 23 2
      refine x_getE 105 hK rfl (Or.inl rfl) rfl (sp_23 (h := h4) hG4) (e := (gi h4 23 2)) (rfl) ?_
      refine x_aload_n 106 hK rfl rfl l0 ?_
      refine x_getR 109 hK rfl rfl (sp_0 (h := h4) hG4) (rf_0_11 (h := h4) hG4) ?_
      have g515 := gi_r h4 28 2
      refine x_getE 112 hK rfl (Or.inl rfl) rfl (sp_28 (h := h4) hG4) (e := (gi h4 28 2)) (rfl) ?_
      refine x_isub 113 hK rfl rfl ?_
      refine x_istore 115 hK rfl rfl _ rfl ?_
      refine x_aload_n 116 hK rfl rfl (lk1_n l0 (by decide) (Or.inl rfl)) ?_
      refine x_getR 119 hK rfl rfl (sp_0 (h := h4) hG4) (rf_0_1 (h := h4) hG4) ?_
      refine x_aload_n 120 hK rfl rfl (lk1_n l0 (by decide) (Or.inl rfl)) ?_
      refine x_getR 123 hK rfl rfl (sp_0 (h := h4) hG4) (rf_0_10 (h := h4) hG4) ?_
      have g516 := gri (0) (8) hG4 (a := 23) (r := 17) (k := 1) rfl rfl
      refine x_getE 126 hK rfl (Or.inl rfl) rfl (sp_23 (h := h4) hG4) (e := (gi h4 23 1)) (rfl) ?_
      refine x_i2l 127 hK rfl rfl (by omega) ?_
      refine x_iload 129 hK rfl rfl (lk1_n l4 (by decide) (Or.inl rfl)) ?_
      refine x_i2l 130 hK rfl rfl (by omega) ?_
      refine x_callV 133 hK hmono rfl rfl [.ref 3, .long (J (gi h4 23 1)), .long (J g)] [] rfl rfl (Nat.le_of_ble_eq_true rfl) (Nat.le_of_ble_eq_true rfl) rfl (sp_3 (h := h4) hG4) (CLd_le (Nat.le_of_ble_eq_true rfl) (ctX3_tellTwo hSP hG4 (by omega) (by omega))) ?_
      rintro v517 h517 ⟨rfl, hG517, hF517, t517, s517⟩
      refine x_aload_n 134 hK rfl rfl (lk1_n l0 (by decide) (Or.inl rfl)) ?_
      refine x_getR 137 hK rfl rfl (sp_0 (h := h517) hG517) (rf_0_10 (h := h517) hG517) ?_
      refine x_aload_n 138 hK rfl rfl (lk1_n l0 (by decide) (Or.inl rfl)) ?_
      refine x_getR 141 hK rfl rfl (sp_0 (h := h517) hG517) (rf_0_11 (h := h517) hG517) ?_
      refine x_callV 144 hK hmono rfl rfl [.ref 23, .ref 28] [] rfl rfl (Nat.le_of_ble_eq_true rfl) (Nat.le_of_ble_eq_true rfl) rfl (sp_23 (h := h517) hG517) (CLd_le (Nat.le_of_ble_eq_true rfl) (ctX8_copyFrom_23_28 hSP hG517 (show PT h517 from (PT_F hF517 (by decide) (PT_F hF4 (by decide) hP))))) ?_
      rintro v518 h518 ⟨rfl, hG518, hF518, eS518, ot518⟩
      refine x_iload 146 hK rfl rfl lk1_s ?_
      exact x_iret hK rfl ⟨⟨_, rfl⟩, hG518, (((hF4).mono rfl).trans ((hF517).mono rfl)).trans ((hF518).mono rfl), (eS518).trans ((kS28_F hF517 (by decide)).trans (s28))⟩
    · refine x_iload_n 39 hK rfl rfl l3 ?_
      refine x_ldc_w 42 hK rfl rfl ?_
      refine x_imul 43 hK rfl rfl ?_
      refine x_sipush 46 hK rfl rfl rfl ?_
      refine x_iadd 47 hK rfl rfl ?_
      refine x_istore_n 48 hK rfl rfl _ rfl ?_
      refine x_iload_n 49 hK rfl rfl lk1_s ?_
      refine x_bipush 51 hK rfl rfl rfl ?_
      refine x_iushrX 52 hK rfl rfl (fun q36 rq36 => ?_)
      refine x_iconst 53 hK rfl rfl ?_
      refine x_irem 54 hK rfl rfl (by omega) (by omega) (by omega) (by omega) ?_
      have tm := tm4 q36
      generalize Int.tmod q36 4 = t at *
      refine x_istore 56 hK rfl rfl _ rfl ?_
      refine x_iload 58 hK rfl rfl lk1_s ?_
      refine x_iconst 59 hK rfl rfl ?_
      refine x_if_icmp_ge 87 62 hK rfl rfl rfl (by omega) (by omega) (fun c42 => ?_) (fun c42 => ?_)
      · refine x_aload_n 88 hK rfl rfl (lk1_n (lk1_n l0 (by decide) (Or.inl rfl)) (by decide) (Or.inl rfl)) ?_
        refine x_callV 91 hK hmono rfl rfl [.ref 0] [] rfl rfl (Nat.le_of_ble_eq_true rfl) (Nat.le_of_ble_eq_true rfl) rfl (sp_0 (h := h4) hG4) (CLd_le (Nat.le_of_ble_eq_true rfl) (kX10_goStep_0 hSP [.ref 0] _ (xOk_ok rfl _ h4 hF4 hX) ⟨gv_r (by decide) rfl, trivial⟩ hG4 gov_n)) ?_
        rintro v519 h519 ⟨hG519, hF519, o519, m519, q519, z519, -⟩
        obtain ⟨w519, rw519, rfl⟩ := int_ans m519 rfl q519
        refine x_pop 92 hK rfl rfl rfl ?_
        refine x_iinc 95 hK rfl rfl (lk1_n (lk1_n l5 (by decide) (Or.inl rfl)) (by decide) (Or.inl rfl)) _ rfl ?_
        refine x_goto 32 hK rfl rfl ?_
        exact ih _ (by omega) ((d * 1103515245) + 12345) g (i + 1) _ _ rfl (n0) (by omega) (by omega) ((kS28_F hF519 (by decide)).trans (s28)) (lk1_n (lk1_n (lk1_n l0 (by decide) (Or.inl rfl)) (by decide) (Or.inl rfl)) (by decide) (Or.inl rfl)) (lk1_n (lk1_n (lk1_n l2 (by decide) (Or.inl rfl)) (by decide) (Or.inl rfl)) (by decide) (Or.inl rfl)) (lk1_n (lk1_n lk1_s (by decide) (Or.inl rfl)) (by decide) (Or.inl rfl)) (lk1_n (lk1_n (lk1_n l4 (by decide) (Or.inl rfl)) (by decide) (Or.inl rfl)) (by decide) (Or.inl rfl)) lk1_s (hG519) ((hF4).trans ((hF519).mono rfl))
      · refine x_aload_n 63 hK rfl rfl (lk1_n (lk1_n l0 (by decide) (Or.inl rfl)) (by decide) (Or.inl rfl)) ?_
        refine x_callV 66 hK hmono rfl rfl [.ref 0] [] rfl rfl (Nat.le_of_ble_eq_true rfl) (Nat.le_of_ble_eq_true rfl) rfl (sp_0 (h := h4) hG4) (CLd_le (Nat.le_of_ble_eq_true rfl) (kX10_orderRefusal_0 hSP [.ref 0] _ (xOk_ok rfl _ h4 hF4 hX) ⟨gv_r (by decide) rfl, trivial⟩ hG4 gov_n)) ?_
        rintro v520 h520 ⟨hG520, hF520, o520, m520, q520, z520, -⟩
        obtain ⟨w520, rw520, rfl⟩ := int_ans m520 rfl q520
        refine x_if_ne 87 69 hK rfl rfl rfl (by omega) (fun c51 => ?_) (fun c51 => ?_)
        · refine x_aload_n 88 hK rfl rfl (lk1_n (lk1_n l0 (by decide) (Or.inl rfl)) (by decide) (Or.inl rfl)) ?_
          refine x_callV 91 hK hmono rfl rfl [.ref 0] [] rfl rfl (Nat.le_of_ble_eq_true rfl) (Nat.le_of_ble_eq_true rfl) rfl (sp_0 (h := h520) hG520) (CLd_le (Nat.le_of_ble_eq_true rfl) (kX10_goStep_0 hSP [.ref 0] _ (xOk_ok rfl _ h520 hF520 (xOk_ok rfl _ h4 hF4 hX)) ⟨gv_r (by decide) rfl, trivial⟩ hG520 gov_n)) ?_
          rintro v521 h521 ⟨hG521, hF521, o521, m521, q521, z521, -⟩
          obtain ⟨w521, rw521, rfl⟩ := int_ans m521 rfl q521
          refine x_pop 92 hK rfl rfl rfl ?_
          refine x_iinc 95 hK rfl rfl (lk1_n (lk1_n l5 (by decide) (Or.inl rfl)) (by decide) (Or.inl rfl)) _ rfl ?_
          refine x_goto 32 hK rfl rfl ?_
          exact ih _ (by omega) ((d * 1103515245) + 12345) g (i + 1) _ _ rfl (n0) (by omega) (by omega) ((kS28_F hF521 (by decide)).trans ((kS28_F hF520 (by decide)).trans (s28))) (lk1_n (lk1_n (lk1_n l0 (by decide) (Or.inl rfl)) (by decide) (Or.inl rfl)) (by decide) (Or.inl rfl)) (lk1_n (lk1_n (lk1_n l2 (by decide) (Or.inl rfl)) (by decide) (Or.inl rfl)) (by decide) (Or.inl rfl)) (lk1_n (lk1_n lk1_s (by decide) (Or.inl rfl)) (by decide) (Or.inl rfl)) (lk1_n (lk1_n (lk1_n l4 (by decide) (Or.inl rfl)) (by decide) (Or.inl rfl)) (by decide) (Or.inl rfl)) lk1_s (hG521) (((hF4).trans ((hF520).mono rfl)).trans ((hF521).mono rfl))
        · refine x_aload_n 70 hK rfl rfl (lk1_n (lk1_n l0 (by decide) (Or.inl rfl)) (by decide) (Or.inl rfl)) ?_
          refine x_iload 72 hK rfl rfl lk1_s ?_
          refine x_if_ne 79 75 hK rfl rfl rfl (by omega) (fun c60 => ?_) (fun c60 => ?_)
          · refine x_iconst 80 hK rfl rfl ?_
            refine x_callV 83 hK hmono rfl rfl [.ref 0, .int (I 1)] [] rfl rfl (Nat.le_of_ble_eq_true rfl) (Nat.le_of_ble_eq_true rfl) rfl (sp_0 (h := h520) hG520) (CLd_le (Nat.le_of_ble_eq_true rfl) (kX10_giveOrder_0 hSP [.ref 0, .int (I 1)] _ (xOk_ok rfl _ h520 hF520 (xOk_ok rfl _ h4 hF4 hX)) ⟨gv_r (by decide) rfl, ⟨_, rfl, i32_lo _, i32_hi _, trivial⟩, trivial⟩ hG520 gov_n)) ?_
            rintro v522 h522 ⟨hG522, hF522, o522, m522, q522, z522, -⟩
            obtain ⟨w522, rw522, rfl⟩ := int_ans m522 rfl q522
            refine x_pop 84 hK rfl rfl rfl ?_
            refine x_iinc 87 hK rfl rfl (lk1_n (lk1_n l4 (by decide) (Or.inl rfl)) (by decide) (Or.inl rfl)) _ rfl ?_
            refine x_aload_n 88 hK rfl rfl (lk1_n (lk1_n (lk1_n l0 (by decide) (Or.inl rfl)) (by decide) (Or.inl rfl)) (by decide) (Or.inl rfl)) ?_
            refine x_callV 91 hK hmono rfl rfl [.ref 0] [] rfl rfl (Nat.le_of_ble_eq_true rfl) (Nat.le_of_ble_eq_true rfl) rfl (sp_0 (h := h522) hG522) (CLd_le (Nat.le_of_ble_eq_true rfl) (kX10_goStep_0 hSP [.ref 0] _ (xOk_ok rfl _ h522 hF522 (xOk_ok rfl _ h520 hF520 (xOk_ok rfl _ h4 hF4 hX))) ⟨gv_r (by decide) rfl, trivial⟩ hG522 gov_n)) ?_
            rintro v523 h523 ⟨hG523, hF523, o523, m523, q523, z523, -⟩
            obtain ⟨w523, rw523, rfl⟩ := int_ans m523 rfl q523
            refine x_pop 92 hK rfl rfl rfl ?_
            refine x_iinc 95 hK rfl rfl (lk1_n (lk1_n (lk1_n l5 (by decide) (Or.inl rfl)) (by decide) (Or.inl rfl)) (by decide) (Or.inl rfl)) _ rfl ?_
            refine x_goto 32 hK rfl rfl ?_
            exact ih _ (by omega) ((d * 1103515245) + 12345) (g + 1) (i + 1) _ _ rfl (n0) (by omega) (by omega) ((kS28_F hF523 (by decide)).trans ((kS28_F hF522 (by decide)).trans ((kS28_F hF520 (by decide)).trans (s28)))) (lk1_n (lk1_n (lk1_n (lk1_n l0 (by decide) (Or.inl rfl)) (by decide) (Or.inl rfl)) (by decide) (Or.inl rfl)) (by decide) (Or.inl rfl)) (lk1_n (lk1_n (lk1_n (lk1_n l2 (by decide) (Or.inl rfl)) (by decide) (Or.inl rfl)) (by decide) (Or.inl rfl)) (by decide) (Or.inl rfl)) (lk1_n (lk1_n (lk1_n lk1_s (by decide) (Or.inl rfl)) (by decide) (Or.inl rfl)) (by decide) (Or.inl rfl)) (lk1_n lk1_s (by decide) (Or.inl rfl)) lk1_s (hG523) ((((hF4).trans ((hF520).mono rfl)).trans ((hF522).mono rfl)).trans ((hF523).mono rfl))
          · refine x_iconst 76 hK rfl rfl ?_
            refine x_goto 80 hK rfl rfl ?_
            refine x_callV 83 hK hmono rfl rfl [.ref 0, .int (I (-1))] [] rfl rfl (Nat.le_of_ble_eq_true rfl) (Nat.le_of_ble_eq_true rfl) rfl (sp_0 (h := h520) hG520) (CLd_le (Nat.le_of_ble_eq_true rfl) (kX10_giveOrder_0 hSP [.ref 0, .int (I (-1))] _ (xOk_ok rfl _ h520 hF520 (xOk_ok rfl _ h4 hF4 hX)) ⟨gv_r (by decide) rfl, ⟨_, rfl, i32_lo _, i32_hi _, trivial⟩, trivial⟩ hG520 gov_n)) ?_
            rintro v524 h524 ⟨hG524, hF524, o524, m524, q524, z524, -⟩
            obtain ⟨w524, rw524, rfl⟩ := int_ans m524 rfl q524
            refine x_pop 84 hK rfl rfl rfl ?_
            refine x_iinc 87 hK rfl rfl (lk1_n (lk1_n l4 (by decide) (Or.inl rfl)) (by decide) (Or.inl rfl)) _ rfl ?_
            refine x_aload_n 88 hK rfl rfl (lk1_n (lk1_n (lk1_n l0 (by decide) (Or.inl rfl)) (by decide) (Or.inl rfl)) (by decide) (Or.inl rfl)) ?_
            refine x_callV 91 hK hmono rfl rfl [.ref 0] [] rfl rfl (Nat.le_of_ble_eq_true rfl) (Nat.le_of_ble_eq_true rfl) rfl (sp_0 (h := h524) hG524) (CLd_le (Nat.le_of_ble_eq_true rfl) (kX10_goStep_0 hSP [.ref 0] _ (xOk_ok rfl _ h524 hF524 (xOk_ok rfl _ h520 hF520 (xOk_ok rfl _ h4 hF4 hX))) ⟨gv_r (by decide) rfl, trivial⟩ hG524 gov_n)) ?_
            rintro v525 h525 ⟨hG525, hF525, o525, m525, q525, z525, -⟩
            obtain ⟨w525, rw525, rfl⟩ := int_ans m525 rfl q525
            refine x_pop 92 hK rfl rfl rfl ?_
            refine x_iinc 95 hK rfl rfl (lk1_n (lk1_n (lk1_n l5 (by decide) (Or.inl rfl)) (by decide) (Or.inl rfl)) (by decide) (Or.inl rfl)) _ rfl ?_
            refine x_goto 32 hK rfl rfl ?_
            exact ih _ (by omega) ((d * 1103515245) + 12345) (g + 1) (i + 1) _ _ rfl (n0) (by omega) (by omega) ((kS28_F hF525 (by decide)).trans ((kS28_F hF524 (by decide)).trans ((kS28_F hF520 (by decide)).trans (s28)))) (lk1_n (lk1_n (lk1_n (lk1_n l0 (by decide) (Or.inl rfl)) (by decide) (Or.inl rfl)) (by decide) (Or.inl rfl)) (by decide) (Or.inl rfl)) (lk1_n (lk1_n (lk1_n (lk1_n l2 (by decide) (Or.inl rfl)) (by decide) (Or.inl rfl)) (by decide) (Or.inl rfl)) (by decide) (Or.inl rfl)) (lk1_n (lk1_n (lk1_n lk1_s (by decide) (Or.inl rfl)) (by decide) (Or.inl rfl)) (by decide) (Or.inl rfl)) (lk1_n lk1_s (by decide) (Or.inl rfl)) lk1_s (hG525) ((((hF4).trans ((hF520).mono rfl)).trans ((hF524).mono rfl)).trans ((hF525).mono rfl))
  refine x_iload_n 1 hK rfl rfl rfl ?_
  refine x_iconst 2 hK rfl rfl ?_
  refine x_if_icmp_lt 11 5 hK rfl rfl rfl (by omega) (by omega) (fun c3 => ?_) (fun c3 => ?_)
  · refine x_iconst 12 hK rfl rfl ?_
    exact x_iret hK rfl ⟨⟨_, rfl⟩, hG, FRM.rf, rfl⟩
  · refine x_iload_n 6 hK rfl rfl rfl ?_
    refine x_bipush 8 hK rfl rfl rfl ?_
    refine x_if_icmp_le 13 11 hK rfl rfl rfl (by omega) (by omega) (fun c8 => ?_) (fun c8 => ?_)
    · refine x_aload_n 14 hK rfl rfl rfl ?_
      refine x_getR 17 hK rfl rfl (sp_0 (h := h) hG) (rf_0_11 (h := h) hG) ?_
      refine x_aload_n 18 hK rfl rfl rfl ?_
      refine x_getR 21 hK rfl rfl (sp_0 (h := h) hG) (rf_0_10 (h := h) hG) ?_
      refine x_callV 24 hK hmono rfl rfl [.ref 28, .ref 23] [] rfl rfl (Nat.le_of_ble_eq_true rfl) (Nat.le_of_ble_eq_true rfl) rfl (sp_28 (h := h) hG) (CLd_le (Nat.le_of_ble_eq_true rfl) (ctX8_copyFrom_28_23 hSP hG (show PT h from hP))) ?_
      rintro v526 h526 ⟨rfl, hG526, hF526, eS526, ot526⟩
      refine x_iload_n 25 hK rfl rfl rfl ?_
      refine x_istore_n 26 hK rfl rfl [(3, .int (I x)), (0, .ref 0), (1, .int (I x)), (2, .int (I n))] rfl ?_
      refine x_iconst 27 hK rfl rfl ?_
      refine x_istore 29 hK rfl rfl [(4, .int (I 0)), (3, .int (I x)), (0, .ref 0), (1, .int (I x)), (2, .int (I n))] rfl ?_
      refine x_iconst 30 hK rfl rfl ?_
      refine x_istore 32 hK rfl rfl [(5, .int (I 0)), (4, .int (I 0)), (3, .int (I x)), (0, .ref 0), (1, .int (I x)), (2, .int (I n))] rfl ?_
      exact loop _ x 0 0 _ _ rfl (⟨by omega, by omega⟩) (by omega) (by omega) (eS526) rfl rfl rfl rfl rfl (hG526) ((hF526).mono rfl)
    · refine x_iconst 12 hK rfl rfl ?_
      exact x_iret hK rfl ⟨⟨_, rfl⟩, hG, FRM.rf, rfl⟩
