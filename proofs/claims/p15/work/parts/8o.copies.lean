/-! STATES OF THE CLASS -/
/-- a piece of an array goes into another one (or further along) -/
theorem x_acp {CL : CT} {ac : AC} {ret : Option FieldType} {Q : QT} {K : KT} {pc : Nat} {ls : List (Nat × Value)} {st : List Value} {h : aH} {bc bs : Nat} (p : Nat) {idx a0 a1 n0 n1 : Nat} {sp dp n : Int} (hK : CLO CL ac ret Q K) (hf : fr ac pc = some (.invokestatic idx, 0, 13, 0)) (hp : pc + 3 = p) (hc : catsum st ≤ 8) (hs0 : h.1[a0]? = some (0, n0)) (hs1 : h.1[a1]? = some (0, n1)) (b0 : 0 ≤ sp ∧ sp ≤ 1000) (b1 : 0 ≤ dp ∧ dp ≤ 1000) (b2 : 0 ≤ n ∧ n ≤ 1000) (b3 : sp + n ≤ n0) (b4 : dp + n ≤ n1) (hk : K p ls st (sC h a0 sp.toNat a1 dp.toNat n.toNat) bc bs) : K pc ls (.int (I n) :: .int (I dp) :: .ref a1 :: .int (I sp) :: .ref a0 :: st) h bc bs := by
  subst hp
  have e0 := I_nat (a := sp) b0.1 (by omega)
  have e1 := I_nat (a := dp) b1.1 (by omega)
  have e2 := I_nat (a := n) b2.1 (by omega)
  have l0 : ∀ {x : Int}, 0 ≤ x ∧ x ≤ 1000 → ¬ I x < 0 := fun {x} hx z => by
    have := (I_lt (a := x) (b := 0) ⟨by omega, by omega⟩ ⟨by omega, by omega⟩).mp z
    omega
  refine x_row hK hf ?_
  refine ⟨hc, ⟨n0, n1, hs0, hs1, l0 b0, l0 b1, l0 b2, by rw [e0, e2]; omega, by rw [e1, e2]; omega⟩, ?_⟩
  rw [e0, e1, e2]
  exact hk
theorem gi_sC {h : aH} {a0 sp a1 dp n : Nat} (j : Nat) : gi (sC h a0 sp a1 dp n) a1 j = if dp ≤ j ∧ j < dp + n then gi h a0 (sp + (j - dp)) else gi h a1 j := by
  have e : aI (sC h a0 sp a1 dp n) a1 = va_cpy (aI h a0) (aI h a1) sp dp n := up_s
  show (aI (sC h a0 sp a1 dp n) a1 j).toInt = _
  rw [e]
  unfold va_cpy
  split <;> rfl
theorem gi_sCn {h : aH} {a0 sp a1 dp n a : Nat} (ha : a ≠ a1) (j : Nat) : gi (sC h a0 sp a1 dp n) a j = gi h a j := by
  have e : aI (sC h a0 sp a1 dp n) a = aI h a := up_n ha
  show (aI (sC h a0 sp a1 dp n) a j).toInt = _
  rw [e]
  rfl
theorem GD_C {sh : List (Nat × Nat)} {h : aH} {a0 sp a1 dp n r : Nat} (hG : GD gE gRL sh h) (hr : gRL[a1]? = some r) (ho : eG gE r = []) : GD gE gRL sh (sC h a0 sp a1 dp n) := by
  refine ⟨hG.1, hG.2.1, fun b r' hb q hq k k1 k2 => ?_, hG.2.2.2⟩
  by_cases c : b = a1
  · subst c
    rw [hr] at hb
    cases hb
    rw [ho] at hq
    cases hq
  · have e := gi_sCn (h := h) (a0 := a0) (sp := sp) (dp := dp) (n := n) c k
    have z := hG.2.2.1 b r' hb q hq k k1 k2
    show q.2.2.1 ≤ gi (sC h a0 sp a1 dp n) b k ∧ gi (sC h a0 sp a1 dp n) b k ≤ q.2.2.2
    rw [e]
    exact z
theorem FRM_C {M : MD} {h0 h : aH} {a0 sp a1 dp n r : Nat} (hF : FRM gRL M h0 h) (hr : gRL[a1]? = some r) (hm : ∀ k, dp ≤ k → k < dp + n → mHas M 0 r k = true) : FRM gRL M h0 (sC h a0 sp a1 dp n) := by
  refine ⟨fun b j z => ?_, hF.2.1, hF.2.2⟩
  by_cases c : b = a1
  · subst c
    have e : aI (sC h a0 sp b dp n) b = va_cpy (aI h a0) (aI h b) sp dp n := up_s
    rw [e]
    unfold va_cpy
    by_cases y : dp ≤ j ∧ j < dp + n
    · have := z r hr
      rw [hm j y.1 y.2] at this
      cases this
    · rw [if_neg y]
      exact hF.1 b j z
  · have e : aI (sC h a0 sp a1 dp n) b = aI h b := up_n c
    rw [e]
    exact hF.1 b j z
theorem mIn_r {M : MD} {r x y : Nat} (hm : ((List.range (y + 1)).all fun k => Nat.blt k x || mHas M 0 r k) = true) : ∀ k, x ≤ k → k < y + 1 → mHas M 0 r k = true := fun k h1 h2 => by
  have z := List.all_eq_true.mp hm k (List.mem_range.mpr h2)
  rw [Bool.or_eq_true] at z
  rcases z with z | z
  · exact absurd (Nat.blt_eq.mp z) (by omega)
  · exact z
/-- a state of the class at c -/
def kO (h : aH) (c n : Nat) : List (Int × Int) := (List.range n).map fun j => (gi h (c + 1) j, gi h (c + 2) j)
def kS (h : aH) (c : Nat) : CWS := (gi h c 0, gi h c 1, gi h c 2, gi h c 3, kO h c (gi h c 4).toNat, (fun m => if m < 8 then gi h (c + 3) m else 0), fun m => if m < 8 then gi h (c + 4) m else 0)
theorem kO_l (h : aH) (c n : Nat) : (kO h c n).length = n := by unfold kO; rw [List.length_map, List.length_range]
theorem kO_eq {h h' : aH} {c c' n : Nat} (e : ∀ j, j < n → gi h' (c' + 1) j = gi h (c + 1) j ∧ gi h' (c' + 2) j = gi h (c + 2) j) : kO h' c' n = kO h c n := by
  unfold kO
  exact List.map_congr_left fun j hj => by rw [(e j (List.mem_range.mp hj)).1, (e j (List.mem_range.mp hj)).2]
theorem kO_at {h : aH} {c n j : Nat} (hj : j < n) : (kO h c n)[j]? = some (gi h (c + 1) j, gi h (c + 2) j) := by
  unfold kO
  rw [List.getElem?_map, List.getElem?_range hj]
  rfl
theorem kS_eq {h h' : aH} {c c' : Nat} (hn : 0 ≤ gi h c 4 ∧ gi h c 4 ≤ 12) (e0 : ∀ k, k < 5 → gi h' c' k = gi h c k) (e1 : ∀ j, j < 12 → gi h' (c' + 1) j = gi h (c + 1) j ∧ gi h' (c' + 2) j = gi h (c + 2) j) (e3 : ∀ m, m < 8 → gi h' (c' + 3) m = gi h (c + 3) m ∧ gi h' (c' + 4) m = gi h (c + 4) m) : kS h' c' = kS h c := by
  unfold kS
  rw [e0 0 (by omega), e0 1 (by omega), e0 2 (by omega), e0 3 (by omega), e0 4 (by omega), kO_eq fun j hj => e1 j (by omega)]
  congr 6
  · funext m
    by_cases hm : m < 8
    · rw [if_pos hm, if_pos hm, (e3 m hm).1]
    · rw [if_neg hm, if_neg hm]
  · funext m
    by_cases hm : m < 8
    · rw [if_pos hm, if_pos hm, (e3 m hm).2]
    · rw [if_neg hm, if_neg hm]
/-- elsewhere nothing changes -/
def oth (c : Nat) (h h' : aH) : Prop := ∀ a k : Nat, ¬ (c ≤ a ∧ a ≤ c + 4) → gi h' a k = gi h a k
theorem oth_S {c c' : Nat} {h h' : aH} (ho : oth c h h') (hd : c + 5 ≤ c' ∨ c' + 5 ≤ c) : kS h' c' = kS h c' := by
  unfold kS
  have e : ∀ i, i ≤ 4 → ∀ k, gi h' (c' + i) k = gi h (c' + i) k := fun i hi k => ho _ k (by omega)
  have e0 : ∀ k, gi h' c' k = gi h c' k := fun k => ho _ k (by omega)
  rw [e0, e0, e0, e0, e0, kO_eq fun j _ => ⟨e 1 (by omega) j, e 2 (by omega) j⟩]
  simp only [e 3 (by omega), e 4 (by omega)]
def rgA (c : Nat) : Prop := ∃ i, i < 15 ∧ c = 37 + 5 * i
theorem rg_b {c : Nat} (hc : rgA c) : 37 ≤ c ∧ c + 4 ≤ 111 := by
  obtain ⟨i, hi, rfl⟩ := hc
  omega
theorem rg_r {c : Nat} (hc : rgA c) : gRL[c]? = some 31 ∧ gRL[c + 1]? = some 32 ∧ gRL[c + 2]? = some 33 ∧ gRL[c + 3]? = some 34 ∧ gRL[c + 4]? = some 35 := by
  obtain ⟨i, hi, rfl⟩ := hc
  have : ∀ i, i < 15 → gRL[37 + 5 * i]? = some 31 ∧ gRL[37 + 5 * i + 1]? = some 32 ∧ gRL[37 + 5 * i + 2]? = some 33 ∧ gRL[37 + 5 * i + 3]? = some 34 ∧ gRL[37 + 5 * i + 4]? = some 35 := by decide +kernel
  exact this i hi
theorem rg_p {c : Nat} {h : aH} (hP : PT h) (hc : rgA c) : aR h c 5 = some (c + 1) ∧ aR h c 6 = some (c + 2) ∧ aR h c 7 = some (c + 3) ∧ aR h c 8 = some (c + 4) := by
  obtain ⟨i, hi, rfl⟩ := hc
  obtain ⟨-, p2, p3, -⟩ := hP
  have z := (p2 i hi).2
  exact ⟨(z 0 (by omega)).trans (congrArg some (by omega)), (z 1 (by omega)).trans (congrArg some (by omega)), (z 2 (by omega)).trans (congrArg some (by omega)), (z 3 (by omega)).trans (congrArg some (by omega))⟩
def kpA (c : Nat) : Prop := ∃ i, i < 3 ∧ c = 112 + 5 * i
theorem kp_b {c : Nat} (hc : kpA c) : 112 ≤ c ∧ c + 4 ≤ 126 := by
  obtain ⟨i, hi, rfl⟩ := hc
  omega
theorem kp_r {c : Nat} (hc : kpA c) : gRL[c]? = some 36 ∧ gRL[c + 1]? = some 37 ∧ gRL[c + 2]? = some 38 ∧ gRL[c + 3]? = some 39 ∧ gRL[c + 4]? = some 40 := by
  obtain ⟨i, hi, rfl⟩ := hc
  have : ∀ i, i < 3 → gRL[112 + 5 * i]? = some 36 ∧ gRL[112 + 5 * i + 1]? = some 37 ∧ gRL[112 + 5 * i + 2]? = some 38 ∧ gRL[112 + 5 * i + 3]? = some 39 ∧ gRL[112 + 5 * i + 4]? = some 40 := by decide +kernel
  exact this i hi
theorem kp_p {c : Nat} {h : aH} (hP : PT h) (hc : kpA c) : aR h c 5 = some (c + 1) ∧ aR h c 6 = some (c + 2) ∧ aR h c 7 = some (c + 3) ∧ aR h c 8 = some (c + 4) := by
  obtain ⟨i, hi, rfl⟩ := hc
  obtain ⟨-, p2, p3, -⟩ := hP
  have z := (p3 i hi).2
  exact ⟨(z 0 (by omega)).trans (congrArg some (by omega)), (z 1 (by omega)).trans (congrArg some (by omega)), (z 2 (by omega)).trans (congrArg some (by omega)), (z 3 (by omega)).trans (congrArg some (by omega))⟩
set_option maxRecDepth 4000 in
theorem ctX8_copyFrom_28_23 {SP : CT} (hSP : MONO SP) {sh : List (Nat × Nat)} {h : aH} (hG : GD gE gRL sh h) (hP : PT h) : CLd SP 1 mX8_copyFrom [.ref 28, .ref 23] h 0 0 (fun rv h' => rv = none ∧ GD gE gRL sh h' ∧ FRM gRL [(0, 22, 0, 4), (0, 23, 0, 11), (0, 24, 0, 11), (0, 25, 0, 7), (0, 26, 0, 7)] h h' ∧ kS h' 28 = kS h 23 ∧ oth 28 h h') := by
  refine x_met _ rfl (Nat.le_of_ble_eq_true rfl) (fun K hK => ?_)
  have hmono := MONO_CLd hSP 0
  have g1 := gri 0 8 hG (a := 23) (r := 17) (k := 1) rfl rfl
  have g4 := gri 0 12 hG (a := 23) (r := 17) (k := 4) rfl rfl
  refine x_aload_n 1 hK rfl rfl rfl ?_
  refine x_aload_n 2 hK rfl rfl rfl ?_
  have g234 := gi_r h 23 0
  refine x_getE 5 hK rfl (Or.inl rfl) rfl (sp_23 (h := h) hG) (e := (gi h 23 0)) (rfl) ?_
  refine x_putI 8 hK rfl rfl (sp_28 (h := h) hG) ?_
  refine x_aload_n 9 hK rfl rfl rfl ?_
  refine x_aload_n 10 hK rfl rfl rfl ?_
  have g235 := gri (0) (8) hG (a := 23) (r := 17) (k := 1) rfl rfl
  refine x_getE 13 hK rfl (Or.inl rfl) rfl (sp_23 (h := h) hG) (e := (gi h 23 1)) (gi_a (by decide) _) ?_
  refine x_putI 16 hK rfl rfl (sp_28 (h := h) hG) ?_
  refine x_aload_n 17 hK rfl rfl rfl ?_
  refine x_aload_n 18 hK rfl rfl rfl ?_
  have g236 := gi_r h 23 2
  refine x_getE 21 hK rfl (Or.inl rfl) rfl (sp_23 (h := h) hG) (e := (gi h 23 2)) ((gi_a (by decide) _).trans (gi_a (by decide) _)) ?_
  refine x_putI 24 hK rfl rfl (sp_28 (h := h) hG) ?_
  refine x_aload_n 25 hK rfl rfl rfl ?_
  refine x_aload_n 26 hK rfl rfl rfl ?_
  have g237 := gi_r h 23 3
  refine x_getE 29 hK rfl (Or.inl rfl) rfl (sp_23 (h := h) hG) (e := (gi h 23 3)) ((gi_a (by decide) _).trans ((gi_a (by decide) _).trans (gi_a (by decide) _))) ?_
  refine x_putI 32 hK rfl rfl (sp_28 (h := h) hG) ?_
  refine x_aload_n 33 hK rfl rfl rfl ?_
  refine x_aload_n 34 hK rfl rfl rfl ?_
  have g238 := gri (0) (12) hG (a := 23) (r := 17) (k := 4) rfl rfl
  refine x_getE 37 hK rfl (Or.inl rfl) rfl (sp_23 (h := h) hG) (e := (gi h 23 4)) ((gi_a (by decide) _).trans ((gi_a (by decide) _).trans ((gi_a (by decide) _).trans (gi_a (by decide) _)))) ?_
  refine x_putI 40 hK rfl rfl (sp_28 (h := h) hG) ?_
  refine x_aload_n 41 hK rfl rfl rfl ?_
  refine x_getR 44 hK rfl rfl (sp_23 (h := h) hG) (rf_23_5 (h := h) hG) ?_
  refine x_iconst 45 hK rfl rfl ?_
  refine x_aload_n 46 hK rfl rfl rfl ?_
  refine x_getR 49 hK rfl rfl (sp_28 (h := h) hG) (rf_28_5 (h := h) hG) ?_
  refine x_iconst 50 hK rfl rfl ?_
  refine x_bipush 52 hK rfl rfl rfl ?_
  refine x_acp 55 hK rfl rfl (by decide) (sp_24 (h := h) hG) (sp_29 (h := h) hG) (by omega) (by omega) (by omega) (by omega) (by omega) ?_
  obtain ⟨h239, e239⟩ : ∃ z, z = sC (wI (wI (wI (wI (wI h 28 0 (gi h 23 0)) 28 1 (gi h 23 1)) 28 2 (gi h 23 2)) 28 3 (gi h 23 3)) 28 4 (gi h 23 4)) 24 (Int.toNat 0) 29 (Int.toNat 0) (Int.toNat 12) := ⟨_, rfl⟩
  rw [← e239]
  have hG239 : GD gE gRL sh h239 := by rw [e239]; exact GD_C (GD_w1 (GD_w0 (GD_w0 (GD_w1 (GD_w0 (hG) (r := 22) rfl rfl) (r := 22) rfl (by omega) rfl (by omega) (by omega)) (r := 22) rfl rfl) (r := 22) rfl rfl) (r := 22) rfl (by omega) rfl (by omega) (by omega)) (r := 23) rfl rfl
  have hF239 : FRM gRL [(0, 23, 0, 11)] (wI (wI (wI (wI (wI h 28 0 (gi h 23 0)) 28 1 (gi h 23 1)) 28 2 (gi h 23 2)) 28 3 (gi h 23 3)) 28 4 (gi h 23 4)) h239 := by rw [e239]; exact FRM_C FRM.rf (r := 23) rfl fun k k1 k2 => mIn_r (x := 0) (y := 11) (by decide) k (by omega) (by omega)
  have oc239 : ∀ a9 k9, a9 ≠ 29 → gi h239 a9 k9 = gi (wI (wI (wI (wI (wI h 28 0 (gi h 23 0)) 28 1 (gi h 23 1)) 28 2 (gi h 23 2)) 28 3 (gi h 23 3)) 28 4 (gi h 23 4)) a9 k9 := fun a9 k9 ha => by rw [e239]; exact gi_sCn ha k9
  have cc239 : ∀ j9, gi h239 29 j9 = if (Int.toNat 0) ≤ j9 ∧ j9 < (Int.toNat 0) + (Int.toNat 12) then gi (wI (wI (wI (wI (wI h 28 0 (gi h 23 0)) 28 1 (gi h 23 1)) 28 2 (gi h 23 2)) 28 3 (gi h 23 3)) 28 4 (gi h 23 4)) 24 ((Int.toNat 0) + (j9 - (Int.toNat 0))) else gi (wI (wI (wI (wI (wI h 28 0 (gi h 23 0)) 28 1 (gi h 23 1)) 28 2 (gi h 23 2)) 28 3 (gi h 23 3)) 28 4 (gi h 23 4)) 29 j9 := fun j9 => by rw [e239]; exact gi_sC j9
  refine x_aload_n 56 hK rfl rfl rfl ?_
  refine x_getR 59 hK rfl rfl (sp_23 (h := h239) hG239) (rf_23_6 (h := h239) hG239) ?_
  refine x_iconst 60 hK rfl rfl ?_
  refine x_aload_n 61 hK rfl rfl rfl ?_
  refine x_getR 64 hK rfl rfl (sp_28 (h := h239) hG239) (rf_28_6 (h := h239) hG239) ?_
  refine x_iconst 65 hK rfl rfl ?_
  refine x_bipush 67 hK rfl rfl rfl ?_
  refine x_acp 70 hK rfl rfl (by decide) (sp_25 (h := h239) hG239) (sp_30 (h := h239) hG239) (by omega) (by omega) (by omega) (by omega) (by omega) ?_
  obtain ⟨h240, e240⟩ : ∃ z, z = sC h239 25 (Int.toNat 0) 30 (Int.toNat 0) (Int.toNat 12) := ⟨_, rfl⟩
  rw [← e240]
  have hG240 : GD gE gRL sh h240 := by rw [e240]; exact GD_C (hG239) (r := 24) rfl rfl
  have hF240 : FRM gRL [(0, 24, 0, 11)] h239 h240 := by rw [e240]; exact FRM_C FRM.rf (r := 24) rfl fun k k1 k2 => mIn_r (x := 0) (y := 11) (by decide) k (by omega) (by omega)
  have oc240 : ∀ a9 k9, a9 ≠ 30 → gi h240 a9 k9 = gi h239 a9 k9 := fun a9 k9 ha => by rw [e240]; exact gi_sCn ha k9
  have cc240 : ∀ j9, gi h240 30 j9 = if (Int.toNat 0) ≤ j9 ∧ j9 < (Int.toNat 0) + (Int.toNat 12) then gi h239 25 ((Int.toNat 0) + (j9 - (Int.toNat 0))) else gi h239 30 j9 := fun j9 => by rw [e240]; exact gi_sC j9
  refine x_aload_n 71 hK rfl rfl rfl ?_
  refine x_getR 74 hK rfl rfl (sp_23 (h := h240) hG240) (rf_23_7 (h := h240) hG240) ?_
  refine x_iconst 75 hK rfl rfl ?_
  refine x_aload_n 76 hK rfl rfl rfl ?_
  refine x_getR 79 hK rfl rfl (sp_28 (h := h240) hG240) (rf_28_7 (h := h240) hG240) ?_
  refine x_iconst 80 hK rfl rfl ?_
  refine x_bipush 82 hK rfl rfl rfl ?_
  refine x_acp 85 hK rfl rfl (by decide) (sp_26 (h := h240) hG240) (sp_31 (h := h240) hG240) (by omega) (by omega) (by omega) (by omega) (by omega) ?_
  obtain ⟨h241, e241⟩ : ∃ z, z = sC h240 26 (Int.toNat 0) 31 (Int.toNat 0) (Int.toNat 8) := ⟨_, rfl⟩
  rw [← e241]
  have hG241 : GD gE gRL sh h241 := by rw [e241]; exact GD_C (hG240) (r := 25) rfl rfl
  have hF241 : FRM gRL [(0, 25, 0, 7)] h240 h241 := by rw [e241]; exact FRM_C FRM.rf (r := 25) rfl fun k k1 k2 => mIn_r (x := 0) (y := 7) (by decide) k (by omega) (by omega)
  have oc241 : ∀ a9 k9, a9 ≠ 31 → gi h241 a9 k9 = gi h240 a9 k9 := fun a9 k9 ha => by rw [e241]; exact gi_sCn ha k9
  have cc241 : ∀ j9, gi h241 31 j9 = if (Int.toNat 0) ≤ j9 ∧ j9 < (Int.toNat 0) + (Int.toNat 8) then gi h240 26 ((Int.toNat 0) + (j9 - (Int.toNat 0))) else gi h240 31 j9 := fun j9 => by rw [e241]; exact gi_sC j9
  refine x_aload_n 86 hK rfl rfl rfl ?_
  refine x_getR 89 hK rfl rfl (sp_23 (h := h241) hG241) (rf_23_8 (h := h241) hG241) ?_
  refine x_iconst 90 hK rfl rfl ?_
  refine x_aload_n 91 hK rfl rfl rfl ?_
  refine x_getR 94 hK rfl rfl (sp_28 (h := h241) hG241) (rf_28_8 (h := h241) hG241) ?_
  refine x_iconst 95 hK rfl rfl ?_
  refine x_bipush 97 hK rfl rfl rfl ?_
  refine x_acp 100 hK rfl rfl (by decide) (sp_27 (h := h241) hG241) (sp_32 (h := h241) hG241) (by omega) (by omega) (by omega) (by omega) (by omega) ?_
  obtain ⟨h242, e242⟩ : ∃ z, z = sC h241 27 (Int.toNat 0) 32 (Int.toNat 0) (Int.toNat 8) := ⟨_, rfl⟩
  rw [← e242]
  have hG242 : GD gE gRL sh h242 := by rw [e242]; exact GD_C (hG241) (r := 26) rfl rfl
  have hF242 : FRM gRL [(0, 26, 0, 7)] h241 h242 := by rw [e242]; exact FRM_C FRM.rf (r := 26) rfl fun k k1 k2 => mIn_r (x := 0) (y := 7) (by decide) k (by omega) (by omega)
  have oc242 : ∀ a9 k9, a9 ≠ 32 → gi h242 a9 k9 = gi h241 a9 k9 := fun a9 k9 ha => by rw [e242]; exact gi_sCn ha k9
  have cc242 : ∀ j9, gi h242 32 j9 = if (Int.toNat 0) ≤ j9 ∧ j9 < (Int.toNat 0) + (Int.toNat 8) then gi h241 27 ((Int.toNat 0) + (j9 - (Int.toNat 0))) else gi h241 32 j9 := fun j9 => by rw [e242]; exact gi_sC j9
  have ee : ∀ k, k < 5 → gi h242 28 k = gi h 23 k := fun k hk => by
    rcases (show k = 0 ∨ k = 1 ∨ k = 2 ∨ k = 3 ∨ k = 4 by omega) with rfl | rfl | rfl | rfl | rfl
    · exact (FRM_gi hF242 (r := 22) rfl rfl).trans ((FRM_gi hF241 (r := 22) rfl rfl).trans ((FRM_gi hF240 (r := 22) rfl rfl).trans ((FRM_gi hF239 (r := 22) rfl rfl).trans ((gi_k (by decide) _).trans ((gi_k (by decide) _).trans ((gi_k (by decide) _).trans ((gi_k (by decide) _).trans (gi_same (by omega)))))))))
    · exact (FRM_gi hF242 (r := 22) rfl rfl).trans ((FRM_gi hF241 (r := 22) rfl rfl).trans ((FRM_gi hF240 (r := 22) rfl rfl).trans ((FRM_gi hF239 (r := 22) rfl rfl).trans ((gi_k (by decide) _).trans ((gi_k (by decide) _).trans ((gi_k (by decide) _).trans (gi_same (by omega))))))))
    · exact (FRM_gi hF242 (r := 22) rfl rfl).trans ((FRM_gi hF241 (r := 22) rfl rfl).trans ((FRM_gi hF240 (r := 22) rfl rfl).trans ((FRM_gi hF239 (r := 22) rfl rfl).trans ((gi_k (by decide) _).trans ((gi_k (by decide) _).trans (gi_same (by omega)))))))
    · exact (FRM_gi hF242 (r := 22) rfl rfl).trans ((FRM_gi hF241 (r := 22) rfl rfl).trans ((FRM_gi hF240 (r := 22) rfl rfl).trans ((FRM_gi hF239 (r := 22) rfl rfl).trans ((gi_k (by decide) _).trans (gi_same (by omega))))))
    · exact (FRM_gi hF242 (r := 22) rfl rfl).trans ((FRM_gi hF241 (r := 22) rfl rfl).trans ((FRM_gi hF240 (r := 22) rfl rfl).trans ((FRM_gi hF239 (r := 22) rfl rfl).trans (gi_same (by omega)))))
  have c0 : ∀ j, j < 12 → gi h242 29 j = gi h 24 j := fun j hj => (oc242 _ j (by omega)).trans ((oc241 _ j (by omega)).trans ((oc240 _ j (by omega)).trans ((cc239 j).trans ((if_pos (by omega)).trans ((gi_to (show Int.toNat 0 + (j - Int.toNat 0) = j by omega)).trans ((gi_a (by omega) _).trans ((gi_a (by omega) _).trans ((gi_a (by omega) _).trans ((gi_a (by omega) _).trans (gi_a (by omega) _))))))))))
  have c1 : ∀ j, j < 12 → gi h242 30 j = gi h 25 j := fun j hj => (oc242 _ j (by omega)).trans ((oc241 _ j (by omega)).trans ((cc240 j).trans ((if_pos (by omega)).trans ((gi_to (show Int.toNat 0 + (j - Int.toNat 0) = j by omega)).trans ((oc239 _ _ (by omega)).trans ((gi_a (by omega) _).trans ((gi_a (by omega) _).trans ((gi_a (by omega) _).trans ((gi_a (by omega) _).trans (gi_a (by omega) _))))))))))
  have c2 : ∀ j, j < 8 → gi h242 31 j = gi h 26 j := fun j hj => (oc242 _ j (by omega)).trans ((cc241 j).trans ((if_pos (by omega)).trans ((gi_to (show Int.toNat 0 + (j - Int.toNat 0) = j by omega)).trans ((oc240 _ _ (by omega)).trans ((oc239 _ _ (by omega)).trans ((gi_a (by omega) _).trans ((gi_a (by omega) _).trans ((gi_a (by omega) _).trans ((gi_a (by omega) _).trans (gi_a (by omega) _))))))))))
  have c3 : ∀ j, j < 8 → gi h242 32 j = gi h 27 j := fun j hj => (cc242 j).trans ((if_pos (by omega)).trans ((gi_to (show Int.toNat 0 + (j - Int.toNat 0) = j by omega)).trans ((oc241 _ _ (by omega)).trans ((oc240 _ _ (by omega)).trans ((oc239 _ _ (by omega)).trans ((gi_a (by omega) _).trans ((gi_a (by omega) _).trans ((gi_a (by omega) _).trans ((gi_a (by omega) _).trans (gi_a (by omega) _))))))))))
  exact x_vret hK rfl ⟨rfl, hG242, ((((FRM_w (FRM_w (FRM_w (FRM_w (FRM_w ((FRM.rf : FRM gRL [(0, 22, 0, 4), (0, 23, 0, 11), (0, 24, 0, 11), (0, 25, 0, 7), (0, 26, 0, 7)] h h)) (r := 22) rfl rfl) (r := 22) rfl rfl) (r := 22) rfl rfl) (r := 22) rfl rfl) (r := 22) rfl rfl).trans ((hF239).mono rfl)).trans ((hF240).mono rfl)).trans ((hF241).mono rfl)).trans ((hF242).mono rfl), kS_eq g4 ee (fun j hj => ⟨c0 j hj, c1 j hj⟩) (fun j hj => ⟨c2 j hj, c3 j hj⟩), fun a k hn => (oc242 a k (by omega)).trans ((oc241 a k (by omega)).trans ((oc240 a k (by omega)).trans ((oc239 a k (by omega)).trans ((gi_a (by omega) _).trans ((gi_a (by omega) _).trans ((gi_a (by omega) _).trans ((gi_a (by omega) _).trans (gi_a (by omega) _))))))))⟩
set_option maxRecDepth 4000 in
theorem ctX8_copyFrom_23_28 {SP : CT} (hSP : MONO SP) {sh : List (Nat × Nat)} {h : aH} (hG : GD gE gRL sh h) (hP : PT h) : CLd SP 1 mX8_copyFrom [.ref 23, .ref 28] h 0 0 (fun rv h' => rv = none ∧ GD gE gRL sh h' ∧ FRM gRL [(0, 17, 0, 4), (0, 18, 0, 11), (0, 19, 0, 11), (0, 20, 0, 7), (0, 21, 0, 7)] h h' ∧ kS h' 23 = kS h 28 ∧ oth 23 h h') := by
  refine x_met _ rfl (Nat.le_of_ble_eq_true rfl) (fun K hK => ?_)
  have hmono := MONO_CLd hSP 0
  have g1 := gri 0 8 hG (a := 28) (r := 22) (k := 1) rfl rfl
  have g4 := gri 0 12 hG (a := 28) (r := 22) (k := 4) rfl rfl
  refine x_aload_n 1 hK rfl rfl rfl ?_
  refine x_aload_n 2 hK rfl rfl rfl ?_
  have g243 := gi_r h 28 0
  refine x_getE 5 hK rfl (Or.inl rfl) rfl (sp_28 (h := h) hG) (e := (gi h 28 0)) (rfl) ?_
  refine x_putI 8 hK rfl rfl (sp_23 (h := h) hG) ?_
  refine x_aload_n 9 hK rfl rfl rfl ?_
  refine x_aload_n 10 hK rfl rfl rfl ?_
  have g244 := gri (0) (8) hG (a := 28) (r := 22) (k := 1) rfl rfl
  refine x_getE 13 hK rfl (Or.inl rfl) rfl (sp_28 (h := h) hG) (e := (gi h 28 1)) (gi_a (by decide) _) ?_
  refine x_putI 16 hK rfl rfl (sp_23 (h := h) hG) ?_
  refine x_aload_n 17 hK rfl rfl rfl ?_
  refine x_aload_n 18 hK rfl rfl rfl ?_
  have g245 := gi_r h 28 2
  refine x_getE 21 hK rfl (Or.inl rfl) rfl (sp_28 (h := h) hG) (e := (gi h 28 2)) ((gi_a (by decide) _).trans (gi_a (by decide) _)) ?_
  refine x_putI 24 hK rfl rfl (sp_23 (h := h) hG) ?_
  refine x_aload_n 25 hK rfl rfl rfl ?_
  refine x_aload_n 26 hK rfl rfl rfl ?_
  have g246 := gi_r h 28 3
  refine x_getE 29 hK rfl (Or.inl rfl) rfl (sp_28 (h := h) hG) (e := (gi h 28 3)) ((gi_a (by decide) _).trans ((gi_a (by decide) _).trans (gi_a (by decide) _))) ?_
  refine x_putI 32 hK rfl rfl (sp_23 (h := h) hG) ?_
  refine x_aload_n 33 hK rfl rfl rfl ?_
  refine x_aload_n 34 hK rfl rfl rfl ?_
  have g247 := gri (0) (12) hG (a := 28) (r := 22) (k := 4) rfl rfl
  refine x_getE 37 hK rfl (Or.inl rfl) rfl (sp_28 (h := h) hG) (e := (gi h 28 4)) ((gi_a (by decide) _).trans ((gi_a (by decide) _).trans ((gi_a (by decide) _).trans (gi_a (by decide) _)))) ?_
  refine x_putI 40 hK rfl rfl (sp_23 (h := h) hG) ?_
  refine x_aload_n 41 hK rfl rfl rfl ?_
  refine x_getR 44 hK rfl rfl (sp_28 (h := h) hG) (rf_28_5 (h := h) hG) ?_
  refine x_iconst 45 hK rfl rfl ?_
  refine x_aload_n 46 hK rfl rfl rfl ?_
  refine x_getR 49 hK rfl rfl (sp_23 (h := h) hG) (rf_23_5 (h := h) hG) ?_
  refine x_iconst 50 hK rfl rfl ?_
  refine x_bipush 52 hK rfl rfl rfl ?_
  refine x_acp 55 hK rfl rfl (by decide) (sp_29 (h := h) hG) (sp_24 (h := h) hG) (by omega) (by omega) (by omega) (by omega) (by omega) ?_
  obtain ⟨h248, e248⟩ : ∃ z, z = sC (wI (wI (wI (wI (wI h 23 0 (gi h 28 0)) 23 1 (gi h 28 1)) 23 2 (gi h 28 2)) 23 3 (gi h 28 3)) 23 4 (gi h 28 4)) 29 (Int.toNat 0) 24 (Int.toNat 0) (Int.toNat 12) := ⟨_, rfl⟩
  rw [← e248]
  have hG248 : GD gE gRL sh h248 := by rw [e248]; exact GD_C (GD_w1 (GD_w0 (GD_w0 (GD_w1 (GD_w0 (hG) (r := 17) rfl rfl) (r := 17) rfl (by omega) rfl (by omega) (by omega)) (r := 17) rfl rfl) (r := 17) rfl rfl) (r := 17) rfl (by omega) rfl (by omega) (by omega)) (r := 18) rfl rfl
  have hF248 : FRM gRL [(0, 18, 0, 11)] (wI (wI (wI (wI (wI h 23 0 (gi h 28 0)) 23 1 (gi h 28 1)) 23 2 (gi h 28 2)) 23 3 (gi h 28 3)) 23 4 (gi h 28 4)) h248 := by rw [e248]; exact FRM_C FRM.rf (r := 18) rfl fun k k1 k2 => mIn_r (x := 0) (y := 11) (by decide) k (by omega) (by omega)
  have oc248 : ∀ a9 k9, a9 ≠ 24 → gi h248 a9 k9 = gi (wI (wI (wI (wI (wI h 23 0 (gi h 28 0)) 23 1 (gi h 28 1)) 23 2 (gi h 28 2)) 23 3 (gi h 28 3)) 23 4 (gi h 28 4)) a9 k9 := fun a9 k9 ha => by rw [e248]; exact gi_sCn ha k9
  have cc248 : ∀ j9, gi h248 24 j9 = if (Int.toNat 0) ≤ j9 ∧ j9 < (Int.toNat 0) + (Int.toNat 12) then gi (wI (wI (wI (wI (wI h 23 0 (gi h 28 0)) 23 1 (gi h 28 1)) 23 2 (gi h 28 2)) 23 3 (gi h 28 3)) 23 4 (gi h 28 4)) 29 ((Int.toNat 0) + (j9 - (Int.toNat 0))) else gi (wI (wI (wI (wI (wI h 23 0 (gi h 28 0)) 23 1 (gi h 28 1)) 23 2 (gi h 28 2)) 23 3 (gi h 28 3)) 23 4 (gi h 28 4)) 24 j9 := fun j9 => by rw [e248]; exact gi_sC j9
  refine x_aload_n 56 hK rfl rfl rfl ?_
  refine x_getR 59 hK rfl rfl (sp_28 (h := h248) hG248) (rf_28_6 (h := h248) hG248) ?_
  refine x_iconst 60 hK rfl rfl ?_
  refine x_aload_n 61 hK rfl rfl rfl ?_
  refine x_getR 64 hK rfl rfl (sp_23 (h := h248) hG248) (rf_23_6 (h := h248) hG248) ?_
  refine x_iconst 65 hK rfl rfl ?_
  refine x_bipush 67 hK rfl rfl rfl ?_
  refine x_acp 70 hK rfl rfl (by decide) (sp_30 (h := h248) hG248) (sp_25 (h := h248) hG248) (by omega) (by omega) (by omega) (by omega) (by omega) ?_
  obtain ⟨h249, e249⟩ : ∃ z, z = sC h248 30 (Int.toNat 0) 25 (Int.toNat 0) (Int.toNat 12) := ⟨_, rfl⟩
  rw [← e249]
  have hG249 : GD gE gRL sh h249 := by rw [e249]; exact GD_C (hG248) (r := 19) rfl rfl
  have hF249 : FRM gRL [(0, 19, 0, 11)] h248 h249 := by rw [e249]; exact FRM_C FRM.rf (r := 19) rfl fun k k1 k2 => mIn_r (x := 0) (y := 11) (by decide) k (by omega) (by omega)
  have oc249 : ∀ a9 k9, a9 ≠ 25 → gi h249 a9 k9 = gi h248 a9 k9 := fun a9 k9 ha => by rw [e249]; exact gi_sCn ha k9
  have cc249 : ∀ j9, gi h249 25 j9 = if (Int.toNat 0) ≤ j9 ∧ j9 < (Int.toNat 0) + (Int.toNat 12) then gi h248 30 ((Int.toNat 0) + (j9 - (Int.toNat 0))) else gi h248 25 j9 := fun j9 => by rw [e249]; exact gi_sC j9
  refine x_aload_n 71 hK rfl rfl rfl ?_
  refine x_getR 74 hK rfl rfl (sp_28 (h := h249) hG249) (rf_28_7 (h := h249) hG249) ?_
  refine x_iconst 75 hK rfl rfl ?_
  refine x_aload_n 76 hK rfl rfl rfl ?_
  refine x_getR 79 hK rfl rfl (sp_23 (h := h249) hG249) (rf_23_7 (h := h249) hG249) ?_
  refine x_iconst 80 hK rfl rfl ?_
  refine x_bipush 82 hK rfl rfl rfl ?_
  refine x_acp 85 hK rfl rfl (by decide) (sp_31 (h := h249) hG249) (sp_26 (h := h249) hG249) (by omega) (by omega) (by omega) (by omega) (by omega) ?_
  obtain ⟨h250, e250⟩ : ∃ z, z = sC h249 31 (Int.toNat 0) 26 (Int.toNat 0) (Int.toNat 8) := ⟨_, rfl⟩
  rw [← e250]
  have hG250 : GD gE gRL sh h250 := by rw [e250]; exact GD_C (hG249) (r := 20) rfl rfl
  have hF250 : FRM gRL [(0, 20, 0, 7)] h249 h250 := by rw [e250]; exact FRM_C FRM.rf (r := 20) rfl fun k k1 k2 => mIn_r (x := 0) (y := 7) (by decide) k (by omega) (by omega)
  have oc250 : ∀ a9 k9, a9 ≠ 26 → gi h250 a9 k9 = gi h249 a9 k9 := fun a9 k9 ha => by rw [e250]; exact gi_sCn ha k9
  have cc250 : ∀ j9, gi h250 26 j9 = if (Int.toNat 0) ≤ j9 ∧ j9 < (Int.toNat 0) + (Int.toNat 8) then gi h249 31 ((Int.toNat 0) + (j9 - (Int.toNat 0))) else gi h249 26 j9 := fun j9 => by rw [e250]; exact gi_sC j9
  refine x_aload_n 86 hK rfl rfl rfl ?_
  refine x_getR 89 hK rfl rfl (sp_28 (h := h250) hG250) (rf_28_8 (h := h250) hG250) ?_
  refine x_iconst 90 hK rfl rfl ?_
  refine x_aload_n 91 hK rfl rfl rfl ?_
  refine x_getR 94 hK rfl rfl (sp_23 (h := h250) hG250) (rf_23_8 (h := h250) hG250) ?_
  refine x_iconst 95 hK rfl rfl ?_
  refine x_bipush 97 hK rfl rfl rfl ?_
  refine x_acp 100 hK rfl rfl (by decide) (sp_32 (h := h250) hG250) (sp_27 (h := h250) hG250) (by omega) (by omega) (by omega) (by omega) (by omega) ?_
  obtain ⟨h251, e251⟩ : ∃ z, z = sC h250 32 (Int.toNat 0) 27 (Int.toNat 0) (Int.toNat 8) := ⟨_, rfl⟩
  rw [← e251]
  have hG251 : GD gE gRL sh h251 := by rw [e251]; exact GD_C (hG250) (r := 21) rfl rfl
  have hF251 : FRM gRL [(0, 21, 0, 7)] h250 h251 := by rw [e251]; exact FRM_C FRM.rf (r := 21) rfl fun k k1 k2 => mIn_r (x := 0) (y := 7) (by decide) k (by omega) (by omega)
  have oc251 : ∀ a9 k9, a9 ≠ 27 → gi h251 a9 k9 = gi h250 a9 k9 := fun a9 k9 ha => by rw [e251]; exact gi_sCn ha k9
  have cc251 : ∀ j9, gi h251 27 j9 = if (Int.toNat 0) ≤ j9 ∧ j9 < (Int.toNat 0) + (Int.toNat 8) then gi h250 32 ((Int.toNat 0) + (j9 - (Int.toNat 0))) else gi h250 27 j9 := fun j9 => by rw [e251]; exact gi_sC j9
  have ee : ∀ k, k < 5 → gi h251 23 k = gi h 28 k := fun k hk => by
    rcases (show k = 0 ∨ k = 1 ∨ k = 2 ∨ k = 3 ∨ k = 4 by omega) with rfl | rfl | rfl | rfl | rfl
    · exact (FRM_gi hF251 (r := 17) rfl rfl).trans ((FRM_gi hF250 (r := 17) rfl rfl).trans ((FRM_gi hF249 (r := 17) rfl rfl).trans ((FRM_gi hF248 (r := 17) rfl rfl).trans ((gi_k (by decide) _).trans ((gi_k (by decide) _).trans ((gi_k (by decide) _).trans ((gi_k (by decide) _).trans (gi_same (by omega)))))))))
    · exact (FRM_gi hF251 (r := 17) rfl rfl).trans ((FRM_gi hF250 (r := 17) rfl rfl).trans ((FRM_gi hF249 (r := 17) rfl rfl).trans ((FRM_gi hF248 (r := 17) rfl rfl).trans ((gi_k (by decide) _).trans ((gi_k (by decide) _).trans ((gi_k (by decide) _).trans (gi_same (by omega))))))))
    · exact (FRM_gi hF251 (r := 17) rfl rfl).trans ((FRM_gi hF250 (r := 17) rfl rfl).trans ((FRM_gi hF249 (r := 17) rfl rfl).trans ((FRM_gi hF248 (r := 17) rfl rfl).trans ((gi_k (by decide) _).trans ((gi_k (by decide) _).trans (gi_same (by omega)))))))
    · exact (FRM_gi hF251 (r := 17) rfl rfl).trans ((FRM_gi hF250 (r := 17) rfl rfl).trans ((FRM_gi hF249 (r := 17) rfl rfl).trans ((FRM_gi hF248 (r := 17) rfl rfl).trans ((gi_k (by decide) _).trans (gi_same (by omega))))))
    · exact (FRM_gi hF251 (r := 17) rfl rfl).trans ((FRM_gi hF250 (r := 17) rfl rfl).trans ((FRM_gi hF249 (r := 17) rfl rfl).trans ((FRM_gi hF248 (r := 17) rfl rfl).trans (gi_same (by omega)))))
  have c0 : ∀ j, j < 12 → gi h251 24 j = gi h 29 j := fun j hj => (oc251 _ j (by omega)).trans ((oc250 _ j (by omega)).trans ((oc249 _ j (by omega)).trans ((cc248 j).trans ((if_pos (by omega)).trans ((gi_to (show Int.toNat 0 + (j - Int.toNat 0) = j by omega)).trans ((gi_a (by omega) _).trans ((gi_a (by omega) _).trans ((gi_a (by omega) _).trans ((gi_a (by omega) _).trans (gi_a (by omega) _))))))))))
  have c1 : ∀ j, j < 12 → gi h251 25 j = gi h 30 j := fun j hj => (oc251 _ j (by omega)).trans ((oc250 _ j (by omega)).trans ((cc249 j).trans ((if_pos (by omega)).trans ((gi_to (show Int.toNat 0 + (j - Int.toNat 0) = j by omega)).trans ((oc248 _ _ (by omega)).trans ((gi_a (by omega) _).trans ((gi_a (by omega) _).trans ((gi_a (by omega) _).trans ((gi_a (by omega) _).trans (gi_a (by omega) _))))))))))
  have c2 : ∀ j, j < 8 → gi h251 26 j = gi h 31 j := fun j hj => (oc251 _ j (by omega)).trans ((cc250 j).trans ((if_pos (by omega)).trans ((gi_to (show Int.toNat 0 + (j - Int.toNat 0) = j by omega)).trans ((oc249 _ _ (by omega)).trans ((oc248 _ _ (by omega)).trans ((gi_a (by omega) _).trans ((gi_a (by omega) _).trans ((gi_a (by omega) _).trans ((gi_a (by omega) _).trans (gi_a (by omega) _))))))))))
  have c3 : ∀ j, j < 8 → gi h251 27 j = gi h 32 j := fun j hj => (cc251 j).trans ((if_pos (by omega)).trans ((gi_to (show Int.toNat 0 + (j - Int.toNat 0) = j by omega)).trans ((oc250 _ _ (by omega)).trans ((oc249 _ _ (by omega)).trans ((oc248 _ _ (by omega)).trans ((gi_a (by omega) _).trans ((gi_a (by omega) _).trans ((gi_a (by omega) _).trans ((gi_a (by omega) _).trans (gi_a (by omega) _))))))))))
  exact x_vret hK rfl ⟨rfl, hG251, ((((FRM_w (FRM_w (FRM_w (FRM_w (FRM_w ((FRM.rf : FRM gRL [(0, 17, 0, 4), (0, 18, 0, 11), (0, 19, 0, 11), (0, 20, 0, 7), (0, 21, 0, 7)] h h)) (r := 17) rfl rfl) (r := 17) rfl rfl) (r := 17) rfl rfl) (r := 17) rfl rfl) (r := 17) rfl rfl).trans ((hF248).mono rfl)).trans ((hF249).mono rfl)).trans ((hF250).mono rfl)).trans ((hF251).mono rfl), kS_eq g4 ee (fun j hj => ⟨c0 j hj, c1 j hj⟩) (fun j hj => ⟨c2 j hj, c3 j hj⟩), fun a k hn => (oc251 a k (by omega)).trans ((oc250 a k (by omega)).trans ((oc249 a k (by omega)).trans ((oc248 a k (by omega)).trans ((gi_a (by omega) _).trans ((gi_a (by omega) _).trans ((gi_a (by omega) _).trans ((gi_a (by omega) _).trans (gi_a (by omega) _))))))))⟩
set_option maxRecDepth 4000 in
theorem ctX8_copyFrom_rg_23 {SP : CT} (hSP : MONO SP) {sh : List (Nat × Nat)} {h : aH} (hG : GD gE gRL sh h) (hP : PT h) {c : Nat} (hc : rgA c) : CLd SP 1 mX8_copyFrom [.ref c, .ref 23] h 0 0 (fun rv h' => rv = none ∧ GD gE gRL sh h' ∧ FRM gRL [(0, 31, 0, 4), (0, 32, 0, 11), (0, 33, 0, 11), (0, 34, 0, 7), (0, 35, 0, 7)] h h' ∧ kS h' c = kS h 23 ∧ oth c h h') := by
  refine x_met _ rfl (Nat.le_of_ble_eq_true rfl) (fun K hK => ?_)
  have hmono := MONO_CLd hSP 0
  have hcb := rg_b hc
  have g1 := gri 0 8 hG (a := 23) (r := 17) (k := 1) rfl rfl
  have g4 := gri 0 12 hG (a := 23) (r := 17) (k := 4) rfl rfl
  refine x_aload_n 1 hK rfl rfl rfl ?_
  refine x_aload_n 2 hK rfl rfl rfl ?_
  have g252 := gi_r h 23 0
  refine x_getE 5 hK rfl (Or.inl rfl) rfl (sp_23 (h := h) hG) (e := (gi h 23 0)) (rfl) ?_
  refine x_putI 8 hK rfl rfl (shx (h := h) hG (r := 31) (rg_r hc).1 rfl) ?_
  refine x_aload_n 9 hK rfl rfl rfl ?_
  refine x_aload_n 10 hK rfl rfl rfl ?_
  have g253 := gri (0) (8) hG (a := 23) (r := 17) (k := 1) rfl rfl
  refine x_getE 13 hK rfl (Or.inl rfl) rfl (sp_23 (h := h) hG) (e := (gi h 23 1)) (gi_a (by omega) _) ?_
  refine x_putI 16 hK rfl rfl (shx (h := h) hG (r := 31) (rg_r hc).1 rfl) ?_
  refine x_aload_n 17 hK rfl rfl rfl ?_
  refine x_aload_n 18 hK rfl rfl rfl ?_
  have g254 := gi_r h 23 2
  refine x_getE 21 hK rfl (Or.inl rfl) rfl (sp_23 (h := h) hG) (e := (gi h 23 2)) ((gi_a (by omega) _).trans (gi_a (by omega) _)) ?_
  refine x_putI 24 hK rfl rfl (shx (h := h) hG (r := 31) (rg_r hc).1 rfl) ?_
  refine x_aload_n 25 hK rfl rfl rfl ?_
  refine x_aload_n 26 hK rfl rfl rfl ?_
  have g255 := gi_r h 23 3
  refine x_getE 29 hK rfl (Or.inl rfl) rfl (sp_23 (h := h) hG) (e := (gi h 23 3)) ((gi_a (by omega) _).trans ((gi_a (by omega) _).trans (gi_a (by omega) _))) ?_
  refine x_putI 32 hK rfl rfl (shx (h := h) hG (r := 31) (rg_r hc).1 rfl) ?_
  refine x_aload_n 33 hK rfl rfl rfl ?_
  refine x_aload_n 34 hK rfl rfl rfl ?_
  have g256 := gri (0) (12) hG (a := 23) (r := 17) (k := 4) rfl rfl
  refine x_getE 37 hK rfl (Or.inl rfl) rfl (sp_23 (h := h) hG) (e := (gi h 23 4)) ((gi_a (by omega) _).trans ((gi_a (by omega) _).trans ((gi_a (by omega) _).trans (gi_a (by omega) _)))) ?_
  refine x_putI 40 hK rfl rfl (shx (h := h) hG (r := 31) (rg_r hc).1 rfl) ?_
  refine x_aload_n 41 hK rfl rfl rfl ?_
  refine x_getR 44 hK rfl rfl (sp_23 (h := h) hG) (rf_23_5 (h := h) hG) ?_
  refine x_iconst 45 hK rfl rfl ?_
  refine x_aload_n 46 hK rfl rfl rfl ?_
  refine x_getR 49 hK rfl rfl (shx (h := h) hG (r := 31) (rg_r hc).1 rfl) (rg_p hP hc).1 ?_
  refine x_iconst 50 hK rfl rfl ?_
  refine x_bipush 52 hK rfl rfl rfl ?_
  refine x_acp 55 hK rfl rfl (by decide) (sp_24 (h := h) hG) (shx (h := h) hG (r := 32) (rg_r hc).2.1 rfl) (by omega) (by omega) (by omega) (by omega) (by omega) ?_
  obtain ⟨h257, e257⟩ : ∃ z, z = sC (wI (wI (wI (wI (wI h c 0 (gi h 23 0)) c 1 (gi h 23 1)) c 2 (gi h 23 2)) c 3 (gi h 23 3)) c 4 (gi h 23 4)) 24 (Int.toNat 0) (c + 1) (Int.toNat 0) (Int.toNat 12) := ⟨_, rfl⟩
  rw [← e257]
  have hG257 : GD gE gRL sh h257 := by rw [e257]; exact GD_C (GD_w1 (GD_w0 (GD_w0 (GD_w1 (GD_w0 (hG) (r := 31) (rg_r hc).1 rfl) (r := 31) (rg_r hc).1 (by omega) rfl (by omega) (by omega)) (r := 31) (rg_r hc).1 rfl) (r := 31) (rg_r hc).1 rfl) (r := 31) (rg_r hc).1 (by omega) rfl (by omega) (by omega)) (r := 32) (rg_r hc).2.1 rfl
  have hF257 : FRM gRL [(0, 32, 0, 11)] (wI (wI (wI (wI (wI h c 0 (gi h 23 0)) c 1 (gi h 23 1)) c 2 (gi h 23 2)) c 3 (gi h 23 3)) c 4 (gi h 23 4)) h257 := by rw [e257]; exact FRM_C FRM.rf (r := 32) (rg_r hc).2.1 fun k k1 k2 => mIn_r (x := 0) (y := 11) (by decide) k (by omega) (by omega)
  have oc257 : ∀ a9 k9, a9 ≠ (c + 1) → gi h257 a9 k9 = gi (wI (wI (wI (wI (wI h c 0 (gi h 23 0)) c 1 (gi h 23 1)) c 2 (gi h 23 2)) c 3 (gi h 23 3)) c 4 (gi h 23 4)) a9 k9 := fun a9 k9 ha => by rw [e257]; exact gi_sCn ha k9
  have cc257 : ∀ j9, gi h257 (c + 1) j9 = if (Int.toNat 0) ≤ j9 ∧ j9 < (Int.toNat 0) + (Int.toNat 12) then gi (wI (wI (wI (wI (wI h c 0 (gi h 23 0)) c 1 (gi h 23 1)) c 2 (gi h 23 2)) c 3 (gi h 23 3)) c 4 (gi h 23 4)) 24 ((Int.toNat 0) + (j9 - (Int.toNat 0))) else gi (wI (wI (wI (wI (wI h c 0 (gi h 23 0)) c 1 (gi h 23 1)) c 2 (gi h 23 2)) c 3 (gi h 23 3)) c 4 (gi h 23 4)) (c + 1) j9 := fun j9 => by rw [e257]; exact gi_sC j9
  refine x_aload_n 56 hK rfl rfl rfl ?_
  refine x_getR 59 hK rfl rfl (sp_23 (h := h257) hG257) (rf_23_6 (h := h257) hG257) ?_
  refine x_iconst 60 hK rfl rfl ?_
  refine x_aload_n 61 hK rfl rfl rfl ?_
  refine x_getR 64 hK rfl rfl (shx (h := h257) hG257 (r := 31) (rg_r hc).1 rfl) (rg_p (PT_F hF257 (by decide) hP) hc).2.1 ?_
  refine x_iconst 65 hK rfl rfl ?_
  refine x_bipush 67 hK rfl rfl rfl ?_
  refine x_acp 70 hK rfl rfl (by decide) (sp_25 (h := h257) hG257) (shx (h := h257) hG257 (r := 33) (rg_r hc).2.2.1 rfl) (by omega) (by omega) (by omega) (by omega) (by omega) ?_
  obtain ⟨h258, e258⟩ : ∃ z, z = sC h257 25 (Int.toNat 0) (c + 2) (Int.toNat 0) (Int.toNat 12) := ⟨_, rfl⟩
  rw [← e258]
  have hG258 : GD gE gRL sh h258 := by rw [e258]; exact GD_C (hG257) (r := 33) (rg_r hc).2.2.1 rfl
  have hF258 : FRM gRL [(0, 33, 0, 11)] h257 h258 := by rw [e258]; exact FRM_C FRM.rf (r := 33) (rg_r hc).2.2.1 fun k k1 k2 => mIn_r (x := 0) (y := 11) (by decide) k (by omega) (by omega)
  have oc258 : ∀ a9 k9, a9 ≠ (c + 2) → gi h258 a9 k9 = gi h257 a9 k9 := fun a9 k9 ha => by rw [e258]; exact gi_sCn ha k9
  have cc258 : ∀ j9, gi h258 (c + 2) j9 = if (Int.toNat 0) ≤ j9 ∧ j9 < (Int.toNat 0) + (Int.toNat 12) then gi h257 25 ((Int.toNat 0) + (j9 - (Int.toNat 0))) else gi h257 (c + 2) j9 := fun j9 => by rw [e258]; exact gi_sC j9
  refine x_aload_n 71 hK rfl rfl rfl ?_
  refine x_getR 74 hK rfl rfl (sp_23 (h := h258) hG258) (rf_23_7 (h := h258) hG258) ?_
  refine x_iconst 75 hK rfl rfl ?_
  refine x_aload_n 76 hK rfl rfl rfl ?_
  refine x_getR 79 hK rfl rfl (shx (h := h258) hG258 (r := 31) (rg_r hc).1 rfl) (rg_p (PT_F hF258 (by decide) (PT_F hF257 (by decide) hP)) hc).2.2.1 ?_
  refine x_iconst 80 hK rfl rfl ?_
  refine x_bipush 82 hK rfl rfl rfl ?_
  refine x_acp 85 hK rfl rfl (by decide) (sp_26 (h := h258) hG258) (shx (h := h258) hG258 (r := 34) (rg_r hc).2.2.2.1 rfl) (by omega) (by omega) (by omega) (by omega) (by omega) ?_
  obtain ⟨h259, e259⟩ : ∃ z, z = sC h258 26 (Int.toNat 0) (c + 3) (Int.toNat 0) (Int.toNat 8) := ⟨_, rfl⟩
  rw [← e259]
  have hG259 : GD gE gRL sh h259 := by rw [e259]; exact GD_C (hG258) (r := 34) (rg_r hc).2.2.2.1 rfl
  have hF259 : FRM gRL [(0, 34, 0, 7)] h258 h259 := by rw [e259]; exact FRM_C FRM.rf (r := 34) (rg_r hc).2.2.2.1 fun k k1 k2 => mIn_r (x := 0) (y := 7) (by decide) k (by omega) (by omega)
  have oc259 : ∀ a9 k9, a9 ≠ (c + 3) → gi h259 a9 k9 = gi h258 a9 k9 := fun a9 k9 ha => by rw [e259]; exact gi_sCn ha k9
  have cc259 : ∀ j9, gi h259 (c + 3) j9 = if (Int.toNat 0) ≤ j9 ∧ j9 < (Int.toNat 0) + (Int.toNat 8) then gi h258 26 ((Int.toNat 0) + (j9 - (Int.toNat 0))) else gi h258 (c + 3) j9 := fun j9 => by rw [e259]; exact gi_sC j9
  refine x_aload_n 86 hK rfl rfl rfl ?_
  refine x_getR 89 hK rfl rfl (sp_23 (h := h259) hG259) (rf_23_8 (h := h259) hG259) ?_
  refine x_iconst 90 hK rfl rfl ?_
  refine x_aload_n 91 hK rfl rfl rfl ?_
  refine x_getR 94 hK rfl rfl (shx (h := h259) hG259 (r := 31) (rg_r hc).1 rfl) (rg_p (PT_F hF259 (by decide) (PT_F hF258 (by decide) (PT_F hF257 (by decide) hP))) hc).2.2.2 ?_
  refine x_iconst 95 hK rfl rfl ?_
  refine x_bipush 97 hK rfl rfl rfl ?_
  refine x_acp 100 hK rfl rfl (by decide) (sp_27 (h := h259) hG259) (shx (h := h259) hG259 (r := 35) (rg_r hc).2.2.2.2 rfl) (by omega) (by omega) (by omega) (by omega) (by omega) ?_
  obtain ⟨h260, e260⟩ : ∃ z, z = sC h259 27 (Int.toNat 0) (c + 4) (Int.toNat 0) (Int.toNat 8) := ⟨_, rfl⟩
  rw [← e260]
  have hG260 : GD gE gRL sh h260 := by rw [e260]; exact GD_C (hG259) (r := 35) (rg_r hc).2.2.2.2 rfl
  have hF260 : FRM gRL [(0, 35, 0, 7)] h259 h260 := by rw [e260]; exact FRM_C FRM.rf (r := 35) (rg_r hc).2.2.2.2 fun k k1 k2 => mIn_r (x := 0) (y := 7) (by decide) k (by omega) (by omega)
  have oc260 : ∀ a9 k9, a9 ≠ (c + 4) → gi h260 a9 k9 = gi h259 a9 k9 := fun a9 k9 ha => by rw [e260]; exact gi_sCn ha k9
  have cc260 : ∀ j9, gi h260 (c + 4) j9 = if (Int.toNat 0) ≤ j9 ∧ j9 < (Int.toNat 0) + (Int.toNat 8) then gi h259 27 ((Int.toNat 0) + (j9 - (Int.toNat 0))) else gi h259 (c + 4) j9 := fun j9 => by rw [e260]; exact gi_sC j9
  have ee : ∀ k, k < 5 → gi h260 c k = gi h 23 k := fun k hk => by
    rcases (show k = 0 ∨ k = 1 ∨ k = 2 ∨ k = 3 ∨ k = 4 by omega) with rfl | rfl | rfl | rfl | rfl
    · exact (FRM_gi hF260 (r := 31) (rg_r hc).1 rfl).trans ((FRM_gi hF259 (r := 31) (rg_r hc).1 rfl).trans ((FRM_gi hF258 (r := 31) (rg_r hc).1 rfl).trans ((FRM_gi hF257 (r := 31) (rg_r hc).1 rfl).trans ((gi_k (by decide) _).trans ((gi_k (by decide) _).trans ((gi_k (by decide) _).trans ((gi_k (by decide) _).trans (gi_same (by omega)))))))))
    · exact (FRM_gi hF260 (r := 31) (rg_r hc).1 rfl).trans ((FRM_gi hF259 (r := 31) (rg_r hc).1 rfl).trans ((FRM_gi hF258 (r := 31) (rg_r hc).1 rfl).trans ((FRM_gi hF257 (r := 31) (rg_r hc).1 rfl).trans ((gi_k (by decide) _).trans ((gi_k (by decide) _).trans ((gi_k (by decide) _).trans (gi_same (by omega))))))))
    · exact (FRM_gi hF260 (r := 31) (rg_r hc).1 rfl).trans ((FRM_gi hF259 (r := 31) (rg_r hc).1 rfl).trans ((FRM_gi hF258 (r := 31) (rg_r hc).1 rfl).trans ((FRM_gi hF257 (r := 31) (rg_r hc).1 rfl).trans ((gi_k (by decide) _).trans ((gi_k (by decide) _).trans (gi_same (by omega)))))))
    · exact (FRM_gi hF260 (r := 31) (rg_r hc).1 rfl).trans ((FRM_gi hF259 (r := 31) (rg_r hc).1 rfl).trans ((FRM_gi hF258 (r := 31) (rg_r hc).1 rfl).trans ((FRM_gi hF257 (r := 31) (rg_r hc).1 rfl).trans ((gi_k (by decide) _).trans (gi_same (by omega))))))
    · exact (FRM_gi hF260 (r := 31) (rg_r hc).1 rfl).trans ((FRM_gi hF259 (r := 31) (rg_r hc).1 rfl).trans ((FRM_gi hF258 (r := 31) (rg_r hc).1 rfl).trans ((FRM_gi hF257 (r := 31) (rg_r hc).1 rfl).trans (gi_same (by omega)))))
  have c0 : ∀ j, j < 12 → gi h260 (c + 1) j = gi h 24 j := fun j hj => (oc260 _ j (by omega)).trans ((oc259 _ j (by omega)).trans ((oc258 _ j (by omega)).trans ((cc257 j).trans ((if_pos (by omega)).trans ((gi_to (show Int.toNat 0 + (j - Int.toNat 0) = j by omega)).trans ((gi_a (by omega) _).trans ((gi_a (by omega) _).trans ((gi_a (by omega) _).trans ((gi_a (by omega) _).trans (gi_a (by omega) _))))))))))
  have c1 : ∀ j, j < 12 → gi h260 (c + 2) j = gi h 25 j := fun j hj => (oc260 _ j (by omega)).trans ((oc259 _ j (by omega)).trans ((cc258 j).trans ((if_pos (by omega)).trans ((gi_to (show Int.toNat 0 + (j - Int.toNat 0) = j by omega)).trans ((oc257 _ _ (by omega)).trans ((gi_a (by omega) _).trans ((gi_a (by omega) _).trans ((gi_a (by omega) _).trans ((gi_a (by omega) _).trans (gi_a (by omega) _))))))))))
  have c2 : ∀ j, j < 8 → gi h260 (c + 3) j = gi h 26 j := fun j hj => (oc260 _ j (by omega)).trans ((cc259 j).trans ((if_pos (by omega)).trans ((gi_to (show Int.toNat 0 + (j - Int.toNat 0) = j by omega)).trans ((oc258 _ _ (by omega)).trans ((oc257 _ _ (by omega)).trans ((gi_a (by omega) _).trans ((gi_a (by omega) _).trans ((gi_a (by omega) _).trans ((gi_a (by omega) _).trans (gi_a (by omega) _))))))))))
  have c3 : ∀ j, j < 8 → gi h260 (c + 4) j = gi h 27 j := fun j hj => (cc260 j).trans ((if_pos (by omega)).trans ((gi_to (show Int.toNat 0 + (j - Int.toNat 0) = j by omega)).trans ((oc259 _ _ (by omega)).trans ((oc258 _ _ (by omega)).trans ((oc257 _ _ (by omega)).trans ((gi_a (by omega) _).trans ((gi_a (by omega) _).trans ((gi_a (by omega) _).trans ((gi_a (by omega) _).trans (gi_a (by omega) _))))))))))
  exact x_vret hK rfl ⟨rfl, hG260, ((((FRM_w (FRM_w (FRM_w (FRM_w (FRM_w ((FRM.rf : FRM gRL [(0, 31, 0, 4), (0, 32, 0, 11), (0, 33, 0, 11), (0, 34, 0, 7), (0, 35, 0, 7)] h h)) (r := 31) (rg_r hc).1 rfl) (r := 31) (rg_r hc).1 rfl) (r := 31) (rg_r hc).1 rfl) (r := 31) (rg_r hc).1 rfl) (r := 31) (rg_r hc).1 rfl).trans ((hF257).mono rfl)).trans ((hF258).mono rfl)).trans ((hF259).mono rfl)).trans ((hF260).mono rfl), kS_eq g4 ee (fun j hj => ⟨c0 j hj, c1 j hj⟩) (fun j hj => ⟨c2 j hj, c3 j hj⟩), fun a k hn => (oc260 a k (by omega)).trans ((oc259 a k (by omega)).trans ((oc258 a k (by omega)).trans ((oc257 a k (by omega)).trans ((gi_a (by omega) _).trans ((gi_a (by omega) _).trans ((gi_a (by omega) _).trans ((gi_a (by omega) _).trans (gi_a (by omega) _))))))))⟩
set_option maxRecDepth 4000 in
theorem ctX8_copyFrom_rg_28 {SP : CT} (hSP : MONO SP) {sh : List (Nat × Nat)} {h : aH} (hG : GD gE gRL sh h) (hP : PT h) {c : Nat} (hc : rgA c) : CLd SP 1 mX8_copyFrom [.ref c, .ref 28] h 0 0 (fun rv h' => rv = none ∧ GD gE gRL sh h' ∧ FRM gRL [(0, 31, 0, 4), (0, 32, 0, 11), (0, 33, 0, 11), (0, 34, 0, 7), (0, 35, 0, 7)] h h' ∧ kS h' c = kS h 28 ∧ oth c h h') := by
  refine x_met _ rfl (Nat.le_of_ble_eq_true rfl) (fun K hK => ?_)
  have hmono := MONO_CLd hSP 0
  have hcb := rg_b hc
  have g1 := gri 0 8 hG (a := 28) (r := 22) (k := 1) rfl rfl
  have g4 := gri 0 12 hG (a := 28) (r := 22) (k := 4) rfl rfl
  refine x_aload_n 1 hK rfl rfl rfl ?_
  refine x_aload_n 2 hK rfl rfl rfl ?_
  have g261 := gi_r h 28 0
  refine x_getE 5 hK rfl (Or.inl rfl) rfl (sp_28 (h := h) hG) (e := (gi h 28 0)) (rfl) ?_
  refine x_putI 8 hK rfl rfl (shx (h := h) hG (r := 31) (rg_r hc).1 rfl) ?_
  refine x_aload_n 9 hK rfl rfl rfl ?_
  refine x_aload_n 10 hK rfl rfl rfl ?_
  have g262 := gri (0) (8) hG (a := 28) (r := 22) (k := 1) rfl rfl
  refine x_getE 13 hK rfl (Or.inl rfl) rfl (sp_28 (h := h) hG) (e := (gi h 28 1)) (gi_a (by omega) _) ?_
  refine x_putI 16 hK rfl rfl (shx (h := h) hG (r := 31) (rg_r hc).1 rfl) ?_
  refine x_aload_n 17 hK rfl rfl rfl ?_
  refine x_aload_n 18 hK rfl rfl rfl ?_
  have g263 := gi_r h 28 2
  refine x_getE 21 hK rfl (Or.inl rfl) rfl (sp_28 (h := h) hG) (e := (gi h 28 2)) ((gi_a (by omega) _).trans (gi_a (by omega) _)) ?_
  refine x_putI 24 hK rfl rfl (shx (h := h) hG (r := 31) (rg_r hc).1 rfl) ?_
  refine x_aload_n 25 hK rfl rfl rfl ?_
  refine x_aload_n 26 hK rfl rfl rfl ?_
  have g264 := gi_r h 28 3
  refine x_getE 29 hK rfl (Or.inl rfl) rfl (sp_28 (h := h) hG) (e := (gi h 28 3)) ((gi_a (by omega) _).trans ((gi_a (by omega) _).trans (gi_a (by omega) _))) ?_
  refine x_putI 32 hK rfl rfl (shx (h := h) hG (r := 31) (rg_r hc).1 rfl) ?_
  refine x_aload_n 33 hK rfl rfl rfl ?_
  refine x_aload_n 34 hK rfl rfl rfl ?_
  have g265 := gri (0) (12) hG (a := 28) (r := 22) (k := 4) rfl rfl
  refine x_getE 37 hK rfl (Or.inl rfl) rfl (sp_28 (h := h) hG) (e := (gi h 28 4)) ((gi_a (by omega) _).trans ((gi_a (by omega) _).trans ((gi_a (by omega) _).trans (gi_a (by omega) _)))) ?_
  refine x_putI 40 hK rfl rfl (shx (h := h) hG (r := 31) (rg_r hc).1 rfl) ?_
  refine x_aload_n 41 hK rfl rfl rfl ?_
  refine x_getR 44 hK rfl rfl (sp_28 (h := h) hG) (rf_28_5 (h := h) hG) ?_
  refine x_iconst 45 hK rfl rfl ?_
  refine x_aload_n 46 hK rfl rfl rfl ?_
  refine x_getR 49 hK rfl rfl (shx (h := h) hG (r := 31) (rg_r hc).1 rfl) (rg_p hP hc).1 ?_
  refine x_iconst 50 hK rfl rfl ?_
  refine x_bipush 52 hK rfl rfl rfl ?_
  refine x_acp 55 hK rfl rfl (by decide) (sp_29 (h := h) hG) (shx (h := h) hG (r := 32) (rg_r hc).2.1 rfl) (by omega) (by omega) (by omega) (by omega) (by omega) ?_
  obtain ⟨h266, e266⟩ : ∃ z, z = sC (wI (wI (wI (wI (wI h c 0 (gi h 28 0)) c 1 (gi h 28 1)) c 2 (gi h 28 2)) c 3 (gi h 28 3)) c 4 (gi h 28 4)) 29 (Int.toNat 0) (c + 1) (Int.toNat 0) (Int.toNat 12) := ⟨_, rfl⟩
  rw [← e266]
  have hG266 : GD gE gRL sh h266 := by rw [e266]; exact GD_C (GD_w1 (GD_w0 (GD_w0 (GD_w1 (GD_w0 (hG) (r := 31) (rg_r hc).1 rfl) (r := 31) (rg_r hc).1 (by omega) rfl (by omega) (by omega)) (r := 31) (rg_r hc).1 rfl) (r := 31) (rg_r hc).1 rfl) (r := 31) (rg_r hc).1 (by omega) rfl (by omega) (by omega)) (r := 32) (rg_r hc).2.1 rfl
  have hF266 : FRM gRL [(0, 32, 0, 11)] (wI (wI (wI (wI (wI h c 0 (gi h 28 0)) c 1 (gi h 28 1)) c 2 (gi h 28 2)) c 3 (gi h 28 3)) c 4 (gi h 28 4)) h266 := by rw [e266]; exact FRM_C FRM.rf (r := 32) (rg_r hc).2.1 fun k k1 k2 => mIn_r (x := 0) (y := 11) (by decide) k (by omega) (by omega)
  have oc266 : ∀ a9 k9, a9 ≠ (c + 1) → gi h266 a9 k9 = gi (wI (wI (wI (wI (wI h c 0 (gi h 28 0)) c 1 (gi h 28 1)) c 2 (gi h 28 2)) c 3 (gi h 28 3)) c 4 (gi h 28 4)) a9 k9 := fun a9 k9 ha => by rw [e266]; exact gi_sCn ha k9
  have cc266 : ∀ j9, gi h266 (c + 1) j9 = if (Int.toNat 0) ≤ j9 ∧ j9 < (Int.toNat 0) + (Int.toNat 12) then gi (wI (wI (wI (wI (wI h c 0 (gi h 28 0)) c 1 (gi h 28 1)) c 2 (gi h 28 2)) c 3 (gi h 28 3)) c 4 (gi h 28 4)) 29 ((Int.toNat 0) + (j9 - (Int.toNat 0))) else gi (wI (wI (wI (wI (wI h c 0 (gi h 28 0)) c 1 (gi h 28 1)) c 2 (gi h 28 2)) c 3 (gi h 28 3)) c 4 (gi h 28 4)) (c + 1) j9 := fun j9 => by rw [e266]; exact gi_sC j9
  refine x_aload_n 56 hK rfl rfl rfl ?_
  refine x_getR 59 hK rfl rfl (sp_28 (h := h266) hG266) (rf_28_6 (h := h266) hG266) ?_
  refine x_iconst 60 hK rfl rfl ?_
  refine x_aload_n 61 hK rfl rfl rfl ?_
  refine x_getR 64 hK rfl rfl (shx (h := h266) hG266 (r := 31) (rg_r hc).1 rfl) (rg_p (PT_F hF266 (by decide) hP) hc).2.1 ?_
  refine x_iconst 65 hK rfl rfl ?_
  refine x_bipush 67 hK rfl rfl rfl ?_
  refine x_acp 70 hK rfl rfl (by decide) (sp_30 (h := h266) hG266) (shx (h := h266) hG266 (r := 33) (rg_r hc).2.2.1 rfl) (by omega) (by omega) (by omega) (by omega) (by omega) ?_
  obtain ⟨h267, e267⟩ : ∃ z, z = sC h266 30 (Int.toNat 0) (c + 2) (Int.toNat 0) (Int.toNat 12) := ⟨_, rfl⟩
  rw [← e267]
  have hG267 : GD gE gRL sh h267 := by rw [e267]; exact GD_C (hG266) (r := 33) (rg_r hc).2.2.1 rfl
  have hF267 : FRM gRL [(0, 33, 0, 11)] h266 h267 := by rw [e267]; exact FRM_C FRM.rf (r := 33) (rg_r hc).2.2.1 fun k k1 k2 => mIn_r (x := 0) (y := 11) (by decide) k (by omega) (by omega)
  have oc267 : ∀ a9 k9, a9 ≠ (c + 2) → gi h267 a9 k9 = gi h266 a9 k9 := fun a9 k9 ha => by rw [e267]; exact gi_sCn ha k9
  have cc267 : ∀ j9, gi h267 (c + 2) j9 = if (Int.toNat 0) ≤ j9 ∧ j9 < (Int.toNat 0) + (Int.toNat 12) then gi h266 30 ((Int.toNat 0) + (j9 - (Int.toNat 0))) else gi h266 (c + 2) j9 := fun j9 => by rw [e267]; exact gi_sC j9
  refine x_aload_n 71 hK rfl rfl rfl ?_
  refine x_getR 74 hK rfl rfl (sp_28 (h := h267) hG267) (rf_28_7 (h := h267) hG267) ?_
  refine x_iconst 75 hK rfl rfl ?_
  refine x_aload_n 76 hK rfl rfl rfl ?_
  refine x_getR 79 hK rfl rfl (shx (h := h267) hG267 (r := 31) (rg_r hc).1 rfl) (rg_p (PT_F hF267 (by decide) (PT_F hF266 (by decide) hP)) hc).2.2.1 ?_
  refine x_iconst 80 hK rfl rfl ?_
  refine x_bipush 82 hK rfl rfl rfl ?_
  refine x_acp 85 hK rfl rfl (by decide) (sp_31 (h := h267) hG267) (shx (h := h267) hG267 (r := 34) (rg_r hc).2.2.2.1 rfl) (by omega) (by omega) (by omega) (by omega) (by omega) ?_
  obtain ⟨h268, e268⟩ : ∃ z, z = sC h267 31 (Int.toNat 0) (c + 3) (Int.toNat 0) (Int.toNat 8) := ⟨_, rfl⟩
  rw [← e268]
  have hG268 : GD gE gRL sh h268 := by rw [e268]; exact GD_C (hG267) (r := 34) (rg_r hc).2.2.2.1 rfl
  have hF268 : FRM gRL [(0, 34, 0, 7)] h267 h268 := by rw [e268]; exact FRM_C FRM.rf (r := 34) (rg_r hc).2.2.2.1 fun k k1 k2 => mIn_r (x := 0) (y := 7) (by decide) k (by omega) (by omega)
  have oc268 : ∀ a9 k9, a9 ≠ (c + 3) → gi h268 a9 k9 = gi h267 a9 k9 := fun a9 k9 ha => by rw [e268]; exact gi_sCn ha k9
  have cc268 : ∀ j9, gi h268 (c + 3) j9 = if (Int.toNat 0) ≤ j9 ∧ j9 < (Int.toNat 0) + (Int.toNat 8) then gi h267 31 ((Int.toNat 0) + (j9 - (Int.toNat 0))) else gi h267 (c + 3) j9 := fun j9 => by rw [e268]; exact gi_sC j9
  refine x_aload_n 86 hK rfl rfl rfl ?_
  refine x_getR 89 hK rfl rfl (sp_28 (h := h268) hG268) (rf_28_8 (h := h268) hG268) ?_
  refine x_iconst 90 hK rfl rfl ?_
  refine x_aload_n 91 hK rfl rfl rfl ?_
  refine x_getR 94 hK rfl rfl (shx (h := h268) hG268 (r := 31) (rg_r hc).1 rfl) (rg_p (PT_F hF268 (by decide) (PT_F hF267 (by decide) (PT_F hF266 (by decide) hP))) hc).2.2.2 ?_
  refine x_iconst 95 hK rfl rfl ?_
  refine x_bipush 97 hK rfl rfl rfl ?_
  refine x_acp 100 hK rfl rfl (by decide) (sp_32 (h := h268) hG268) (shx (h := h268) hG268 (r := 35) (rg_r hc).2.2.2.2 rfl) (by omega) (by omega) (by omega) (by omega) (by omega) ?_
  obtain ⟨h269, e269⟩ : ∃ z, z = sC h268 32 (Int.toNat 0) (c + 4) (Int.toNat 0) (Int.toNat 8) := ⟨_, rfl⟩
  rw [← e269]
  have hG269 : GD gE gRL sh h269 := by rw [e269]; exact GD_C (hG268) (r := 35) (rg_r hc).2.2.2.2 rfl
  have hF269 : FRM gRL [(0, 35, 0, 7)] h268 h269 := by rw [e269]; exact FRM_C FRM.rf (r := 35) (rg_r hc).2.2.2.2 fun k k1 k2 => mIn_r (x := 0) (y := 7) (by decide) k (by omega) (by omega)
  have oc269 : ∀ a9 k9, a9 ≠ (c + 4) → gi h269 a9 k9 = gi h268 a9 k9 := fun a9 k9 ha => by rw [e269]; exact gi_sCn ha k9
  have cc269 : ∀ j9, gi h269 (c + 4) j9 = if (Int.toNat 0) ≤ j9 ∧ j9 < (Int.toNat 0) + (Int.toNat 8) then gi h268 32 ((Int.toNat 0) + (j9 - (Int.toNat 0))) else gi h268 (c + 4) j9 := fun j9 => by rw [e269]; exact gi_sC j9
  have ee : ∀ k, k < 5 → gi h269 c k = gi h 28 k := fun k hk => by
    rcases (show k = 0 ∨ k = 1 ∨ k = 2 ∨ k = 3 ∨ k = 4 by omega) with rfl | rfl | rfl | rfl | rfl
    · exact (FRM_gi hF269 (r := 31) (rg_r hc).1 rfl).trans ((FRM_gi hF268 (r := 31) (rg_r hc).1 rfl).trans ((FRM_gi hF267 (r := 31) (rg_r hc).1 rfl).trans ((FRM_gi hF266 (r := 31) (rg_r hc).1 rfl).trans ((gi_k (by decide) _).trans ((gi_k (by decide) _).trans ((gi_k (by decide) _).trans ((gi_k (by decide) _).trans (gi_same (by omega)))))))))
    · exact (FRM_gi hF269 (r := 31) (rg_r hc).1 rfl).trans ((FRM_gi hF268 (r := 31) (rg_r hc).1 rfl).trans ((FRM_gi hF267 (r := 31) (rg_r hc).1 rfl).trans ((FRM_gi hF266 (r := 31) (rg_r hc).1 rfl).trans ((gi_k (by decide) _).trans ((gi_k (by decide) _).trans ((gi_k (by decide) _).trans (gi_same (by omega))))))))
    · exact (FRM_gi hF269 (r := 31) (rg_r hc).1 rfl).trans ((FRM_gi hF268 (r := 31) (rg_r hc).1 rfl).trans ((FRM_gi hF267 (r := 31) (rg_r hc).1 rfl).trans ((FRM_gi hF266 (r := 31) (rg_r hc).1 rfl).trans ((gi_k (by decide) _).trans ((gi_k (by decide) _).trans (gi_same (by omega)))))))
    · exact (FRM_gi hF269 (r := 31) (rg_r hc).1 rfl).trans ((FRM_gi hF268 (r := 31) (rg_r hc).1 rfl).trans ((FRM_gi hF267 (r := 31) (rg_r hc).1 rfl).trans ((FRM_gi hF266 (r := 31) (rg_r hc).1 rfl).trans ((gi_k (by decide) _).trans (gi_same (by omega))))))
    · exact (FRM_gi hF269 (r := 31) (rg_r hc).1 rfl).trans ((FRM_gi hF268 (r := 31) (rg_r hc).1 rfl).trans ((FRM_gi hF267 (r := 31) (rg_r hc).1 rfl).trans ((FRM_gi hF266 (r := 31) (rg_r hc).1 rfl).trans (gi_same (by omega)))))
  have c0 : ∀ j, j < 12 → gi h269 (c + 1) j = gi h 29 j := fun j hj => (oc269 _ j (by omega)).trans ((oc268 _ j (by omega)).trans ((oc267 _ j (by omega)).trans ((cc266 j).trans ((if_pos (by omega)).trans ((gi_to (show Int.toNat 0 + (j - Int.toNat 0) = j by omega)).trans ((gi_a (by omega) _).trans ((gi_a (by omega) _).trans ((gi_a (by omega) _).trans ((gi_a (by omega) _).trans (gi_a (by omega) _))))))))))
  have c1 : ∀ j, j < 12 → gi h269 (c + 2) j = gi h 30 j := fun j hj => (oc269 _ j (by omega)).trans ((oc268 _ j (by omega)).trans ((cc267 j).trans ((if_pos (by omega)).trans ((gi_to (show Int.toNat 0 + (j - Int.toNat 0) = j by omega)).trans ((oc266 _ _ (by omega)).trans ((gi_a (by omega) _).trans ((gi_a (by omega) _).trans ((gi_a (by omega) _).trans ((gi_a (by omega) _).trans (gi_a (by omega) _))))))))))
  have c2 : ∀ j, j < 8 → gi h269 (c + 3) j = gi h 31 j := fun j hj => (oc269 _ j (by omega)).trans ((cc268 j).trans ((if_pos (by omega)).trans ((gi_to (show Int.toNat 0 + (j - Int.toNat 0) = j by omega)).trans ((oc267 _ _ (by omega)).trans ((oc266 _ _ (by omega)).trans ((gi_a (by omega) _).trans ((gi_a (by omega) _).trans ((gi_a (by omega) _).trans ((gi_a (by omega) _).trans (gi_a (by omega) _))))))))))
  have c3 : ∀ j, j < 8 → gi h269 (c + 4) j = gi h 32 j := fun j hj => (cc269 j).trans ((if_pos (by omega)).trans ((gi_to (show Int.toNat 0 + (j - Int.toNat 0) = j by omega)).trans ((oc268 _ _ (by omega)).trans ((oc267 _ _ (by omega)).trans ((oc266 _ _ (by omega)).trans ((gi_a (by omega) _).trans ((gi_a (by omega) _).trans ((gi_a (by omega) _).trans ((gi_a (by omega) _).trans (gi_a (by omega) _))))))))))
  exact x_vret hK rfl ⟨rfl, hG269, ((((FRM_w (FRM_w (FRM_w (FRM_w (FRM_w ((FRM.rf : FRM gRL [(0, 31, 0, 4), (0, 32, 0, 11), (0, 33, 0, 11), (0, 34, 0, 7), (0, 35, 0, 7)] h h)) (r := 31) (rg_r hc).1 rfl) (r := 31) (rg_r hc).1 rfl) (r := 31) (rg_r hc).1 rfl) (r := 31) (rg_r hc).1 rfl) (r := 31) (rg_r hc).1 rfl).trans ((hF266).mono rfl)).trans ((hF267).mono rfl)).trans ((hF268).mono rfl)).trans ((hF269).mono rfl), kS_eq g4 ee (fun j hj => ⟨c0 j hj, c1 j hj⟩) (fun j hj => ⟨c2 j hj, c3 j hj⟩), fun a k hn => (oc269 a k (by omega)).trans ((oc268 a k (by omega)).trans ((oc267 a k (by omega)).trans ((oc266 a k (by omega)).trans ((gi_a (by omega) _).trans ((gi_a (by omega) _).trans ((gi_a (by omega) _).trans ((gi_a (by omega) _).trans (gi_a (by omega) _))))))))⟩
set_option maxRecDepth 4000 in
theorem ctX8_copyFrom_23_rg {SP : CT} (hSP : MONO SP) {sh : List (Nat × Nat)} {h : aH} (hG : GD gE gRL sh h) (hP : PT h) {c : Nat} (hc : rgA c) : CLd SP 1 mX8_copyFrom [.ref 23, .ref c] h 0 0 (fun rv h' => rv = none ∧ GD gE gRL sh h' ∧ FRM gRL [(0, 17, 0, 4), (0, 18, 0, 11), (0, 19, 0, 11), (0, 20, 0, 7), (0, 21, 0, 7)] h h' ∧ kS h' 23 = kS h c ∧ oth 23 h h') := by
  refine x_met _ rfl (Nat.le_of_ble_eq_true rfl) (fun K hK => ?_)
  have hmono := MONO_CLd hSP 0
  have hcb := rg_b hc
  have g1 := gri 0 8 hG (a := c) (r := 31) (k := 1) (rg_r hc).1 rfl
  have g4 := gri 0 12 hG (a := c) (r := 31) (k := 4) (rg_r hc).1 rfl
  refine x_aload_n 1 hK rfl rfl rfl ?_
  refine x_aload_n 2 hK rfl rfl rfl ?_
  have g270 := gi_r h c 0
  refine x_getE 5 hK rfl (Or.inl rfl) rfl (shx (h := h) hG (r := 31) (rg_r hc).1 rfl) (e := (gi h c 0)) (rfl) ?_
  refine x_putI 8 hK rfl rfl (sp_23 (h := h) hG) ?_
  refine x_aload_n 9 hK rfl rfl rfl ?_
  refine x_aload_n 10 hK rfl rfl rfl ?_
  have g271 := gri (0) (8) hG (a := c) (r := 31) (k := 1) (rg_r hc).1 rfl
  refine x_getE 13 hK rfl (Or.inl rfl) rfl (shx (h := h) hG (r := 31) (rg_r hc).1 rfl) (e := (gi h c 1)) (gi_a (by omega) _) ?_
  refine x_putI 16 hK rfl rfl (sp_23 (h := h) hG) ?_
  refine x_aload_n 17 hK rfl rfl rfl ?_
  refine x_aload_n 18 hK rfl rfl rfl ?_
  have g272 := gi_r h c 2
  refine x_getE 21 hK rfl (Or.inl rfl) rfl (shx (h := h) hG (r := 31) (rg_r hc).1 rfl) (e := (gi h c 2)) ((gi_a (by omega) _).trans (gi_a (by omega) _)) ?_
  refine x_putI 24 hK rfl rfl (sp_23 (h := h) hG) ?_
  refine x_aload_n 25 hK rfl rfl rfl ?_
  refine x_aload_n 26 hK rfl rfl rfl ?_
  have g273 := gi_r h c 3
  refine x_getE 29 hK rfl (Or.inl rfl) rfl (shx (h := h) hG (r := 31) (rg_r hc).1 rfl) (e := (gi h c 3)) ((gi_a (by omega) _).trans ((gi_a (by omega) _).trans (gi_a (by omega) _))) ?_
  refine x_putI 32 hK rfl rfl (sp_23 (h := h) hG) ?_
  refine x_aload_n 33 hK rfl rfl rfl ?_
  refine x_aload_n 34 hK rfl rfl rfl ?_
  have g274 := gri (0) (12) hG (a := c) (r := 31) (k := 4) (rg_r hc).1 rfl
  refine x_getE 37 hK rfl (Or.inl rfl) rfl (shx (h := h) hG (r := 31) (rg_r hc).1 rfl) (e := (gi h c 4)) ((gi_a (by omega) _).trans ((gi_a (by omega) _).trans ((gi_a (by omega) _).trans (gi_a (by omega) _)))) ?_
  refine x_putI 40 hK rfl rfl (sp_23 (h := h) hG) ?_
  refine x_aload_n 41 hK rfl rfl rfl ?_
  refine x_getR 44 hK rfl rfl (shx (h := h) hG (r := 31) (rg_r hc).1 rfl) (rg_p hP hc).1 ?_
  refine x_iconst 45 hK rfl rfl ?_
  refine x_aload_n 46 hK rfl rfl rfl ?_
  refine x_getR 49 hK rfl rfl (sp_23 (h := h) hG) (rf_23_5 (h := h) hG) ?_
  refine x_iconst 50 hK rfl rfl ?_
  refine x_bipush 52 hK rfl rfl rfl ?_
  refine x_acp 55 hK rfl rfl (by decide) (shx (h := h) hG (r := 32) (rg_r hc).2.1 rfl) (sp_24 (h := h) hG) (by omega) (by omega) (by omega) (by omega) (by omega) ?_
  obtain ⟨h275, e275⟩ : ∃ z, z = sC (wI (wI (wI (wI (wI h 23 0 (gi h c 0)) 23 1 (gi h c 1)) 23 2 (gi h c 2)) 23 3 (gi h c 3)) 23 4 (gi h c 4)) (c + 1) (Int.toNat 0) 24 (Int.toNat 0) (Int.toNat 12) := ⟨_, rfl⟩
  rw [← e275]
  have hG275 : GD gE gRL sh h275 := by rw [e275]; exact GD_C (GD_w1 (GD_w0 (GD_w0 (GD_w1 (GD_w0 (hG) (r := 17) rfl rfl) (r := 17) rfl (by omega) rfl (by omega) (by omega)) (r := 17) rfl rfl) (r := 17) rfl rfl) (r := 17) rfl (by omega) rfl (by omega) (by omega)) (r := 18) rfl rfl
  have hF275 : FRM gRL [(0, 18, 0, 11)] (wI (wI (wI (wI (wI h 23 0 (gi h c 0)) 23 1 (gi h c 1)) 23 2 (gi h c 2)) 23 3 (gi h c 3)) 23 4 (gi h c 4)) h275 := by rw [e275]; exact FRM_C FRM.rf (r := 18) rfl fun k k1 k2 => mIn_r (x := 0) (y := 11) (by decide) k (by omega) (by omega)
  have oc275 : ∀ a9 k9, a9 ≠ 24 → gi h275 a9 k9 = gi (wI (wI (wI (wI (wI h 23 0 (gi h c 0)) 23 1 (gi h c 1)) 23 2 (gi h c 2)) 23 3 (gi h c 3)) 23 4 (gi h c 4)) a9 k9 := fun a9 k9 ha => by rw [e275]; exact gi_sCn ha k9
  have cc275 : ∀ j9, gi h275 24 j9 = if (Int.toNat 0) ≤ j9 ∧ j9 < (Int.toNat 0) + (Int.toNat 12) then gi (wI (wI (wI (wI (wI h 23 0 (gi h c 0)) 23 1 (gi h c 1)) 23 2 (gi h c 2)) 23 3 (gi h c 3)) 23 4 (gi h c 4)) (c + 1) ((Int.toNat 0) + (j9 - (Int.toNat 0))) else gi (wI (wI (wI (wI (wI h 23 0 (gi h c 0)) 23 1 (gi h c 1)) 23 2 (gi h c 2)) 23 3 (gi h c 3)) 23 4 (gi h c 4)) 24 j9 := fun j9 => by rw [e275]; exact gi_sC j9
  refine x_aload_n 56 hK rfl rfl rfl ?_
  refine x_getR 59 hK rfl rfl (shx (h := h275) hG275 (r := 31) (rg_r hc).1 rfl) (rg_p (PT_F hF275 (by decide) hP) hc).2.1 ?_
  refine x_iconst 60 hK rfl rfl ?_
  refine x_aload_n 61 hK rfl rfl rfl ?_
  refine x_getR 64 hK rfl rfl (sp_23 (h := h275) hG275) (rf_23_6 (h := h275) hG275) ?_
  refine x_iconst 65 hK rfl rfl ?_
  refine x_bipush 67 hK rfl rfl rfl ?_
  refine x_acp 70 hK rfl rfl (by decide) (shx (h := h275) hG275 (r := 33) (rg_r hc).2.2.1 rfl) (sp_25 (h := h275) hG275) (by omega) (by omega) (by omega) (by omega) (by omega) ?_
  obtain ⟨h276, e276⟩ : ∃ z, z = sC h275 (c + 2) (Int.toNat 0) 25 (Int.toNat 0) (Int.toNat 12) := ⟨_, rfl⟩
  rw [← e276]
  have hG276 : GD gE gRL sh h276 := by rw [e276]; exact GD_C (hG275) (r := 19) rfl rfl
  have hF276 : FRM gRL [(0, 19, 0, 11)] h275 h276 := by rw [e276]; exact FRM_C FRM.rf (r := 19) rfl fun k k1 k2 => mIn_r (x := 0) (y := 11) (by decide) k (by omega) (by omega)
  have oc276 : ∀ a9 k9, a9 ≠ 25 → gi h276 a9 k9 = gi h275 a9 k9 := fun a9 k9 ha => by rw [e276]; exact gi_sCn ha k9
  have cc276 : ∀ j9, gi h276 25 j9 = if (Int.toNat 0) ≤ j9 ∧ j9 < (Int.toNat 0) + (Int.toNat 12) then gi h275 (c + 2) ((Int.toNat 0) + (j9 - (Int.toNat 0))) else gi h275 25 j9 := fun j9 => by rw [e276]; exact gi_sC j9
  refine x_aload_n 71 hK rfl rfl rfl ?_
  refine x_getR 74 hK rfl rfl (shx (h := h276) hG276 (r := 31) (rg_r hc).1 rfl) (rg_p (PT_F hF276 (by decide) (PT_F hF275 (by decide) hP)) hc).2.2.1 ?_
  refine x_iconst 75 hK rfl rfl ?_
  refine x_aload_n 76 hK rfl rfl rfl ?_
  refine x_getR 79 hK rfl rfl (sp_23 (h := h276) hG276) (rf_23_7 (h := h276) hG276) ?_
  refine x_iconst 80 hK rfl rfl ?_
  refine x_bipush 82 hK rfl rfl rfl ?_
  refine x_acp 85 hK rfl rfl (by decide) (shx (h := h276) hG276 (r := 34) (rg_r hc).2.2.2.1 rfl) (sp_26 (h := h276) hG276) (by omega) (by omega) (by omega) (by omega) (by omega) ?_
  obtain ⟨h277, e277⟩ : ∃ z, z = sC h276 (c + 3) (Int.toNat 0) 26 (Int.toNat 0) (Int.toNat 8) := ⟨_, rfl⟩
  rw [← e277]
  have hG277 : GD gE gRL sh h277 := by rw [e277]; exact GD_C (hG276) (r := 20) rfl rfl
  have hF277 : FRM gRL [(0, 20, 0, 7)] h276 h277 := by rw [e277]; exact FRM_C FRM.rf (r := 20) rfl fun k k1 k2 => mIn_r (x := 0) (y := 7) (by decide) k (by omega) (by omega)
  have oc277 : ∀ a9 k9, a9 ≠ 26 → gi h277 a9 k9 = gi h276 a9 k9 := fun a9 k9 ha => by rw [e277]; exact gi_sCn ha k9
  have cc277 : ∀ j9, gi h277 26 j9 = if (Int.toNat 0) ≤ j9 ∧ j9 < (Int.toNat 0) + (Int.toNat 8) then gi h276 (c + 3) ((Int.toNat 0) + (j9 - (Int.toNat 0))) else gi h276 26 j9 := fun j9 => by rw [e277]; exact gi_sC j9
  refine x_aload_n 86 hK rfl rfl rfl ?_
  refine x_getR 89 hK rfl rfl (shx (h := h277) hG277 (r := 31) (rg_r hc).1 rfl) (rg_p (PT_F hF277 (by decide) (PT_F hF276 (by decide) (PT_F hF275 (by decide) hP))) hc).2.2.2 ?_
  refine x_iconst 90 hK rfl rfl ?_
  refine x_aload_n 91 hK rfl rfl rfl ?_
  refine x_getR 94 hK rfl rfl (sp_23 (h := h277) hG277) (rf_23_8 (h := h277) hG277) ?_
  refine x_iconst 95 hK rfl rfl ?_
  refine x_bipush 97 hK rfl rfl rfl ?_
  refine x_acp 100 hK rfl rfl (by decide) (shx (h := h277) hG277 (r := 35) (rg_r hc).2.2.2.2 rfl) (sp_27 (h := h277) hG277) (by omega) (by omega) (by omega) (by omega) (by omega) ?_
  obtain ⟨h278, e278⟩ : ∃ z, z = sC h277 (c + 4) (Int.toNat 0) 27 (Int.toNat 0) (Int.toNat 8) := ⟨_, rfl⟩
  rw [← e278]
  have hG278 : GD gE gRL sh h278 := by rw [e278]; exact GD_C (hG277) (r := 21) rfl rfl
  have hF278 : FRM gRL [(0, 21, 0, 7)] h277 h278 := by rw [e278]; exact FRM_C FRM.rf (r := 21) rfl fun k k1 k2 => mIn_r (x := 0) (y := 7) (by decide) k (by omega) (by omega)
  have oc278 : ∀ a9 k9, a9 ≠ 27 → gi h278 a9 k9 = gi h277 a9 k9 := fun a9 k9 ha => by rw [e278]; exact gi_sCn ha k9
  have cc278 : ∀ j9, gi h278 27 j9 = if (Int.toNat 0) ≤ j9 ∧ j9 < (Int.toNat 0) + (Int.toNat 8) then gi h277 (c + 4) ((Int.toNat 0) + (j9 - (Int.toNat 0))) else gi h277 27 j9 := fun j9 => by rw [e278]; exact gi_sC j9
  have ee : ∀ k, k < 5 → gi h278 23 k = gi h c k := fun k hk => by
    rcases (show k = 0 ∨ k = 1 ∨ k = 2 ∨ k = 3 ∨ k = 4 by omega) with rfl | rfl | rfl | rfl | rfl
    · exact (FRM_gi hF278 (r := 17) rfl rfl).trans ((FRM_gi hF277 (r := 17) rfl rfl).trans ((FRM_gi hF276 (r := 17) rfl rfl).trans ((FRM_gi hF275 (r := 17) rfl rfl).trans ((gi_k (by decide) _).trans ((gi_k (by decide) _).trans ((gi_k (by decide) _).trans ((gi_k (by decide) _).trans (gi_same (by omega)))))))))
    · exact (FRM_gi hF278 (r := 17) rfl rfl).trans ((FRM_gi hF277 (r := 17) rfl rfl).trans ((FRM_gi hF276 (r := 17) rfl rfl).trans ((FRM_gi hF275 (r := 17) rfl rfl).trans ((gi_k (by decide) _).trans ((gi_k (by decide) _).trans ((gi_k (by decide) _).trans (gi_same (by omega))))))))
    · exact (FRM_gi hF278 (r := 17) rfl rfl).trans ((FRM_gi hF277 (r := 17) rfl rfl).trans ((FRM_gi hF276 (r := 17) rfl rfl).trans ((FRM_gi hF275 (r := 17) rfl rfl).trans ((gi_k (by decide) _).trans ((gi_k (by decide) _).trans (gi_same (by omega)))))))
    · exact (FRM_gi hF278 (r := 17) rfl rfl).trans ((FRM_gi hF277 (r := 17) rfl rfl).trans ((FRM_gi hF276 (r := 17) rfl rfl).trans ((FRM_gi hF275 (r := 17) rfl rfl).trans ((gi_k (by decide) _).trans (gi_same (by omega))))))
    · exact (FRM_gi hF278 (r := 17) rfl rfl).trans ((FRM_gi hF277 (r := 17) rfl rfl).trans ((FRM_gi hF276 (r := 17) rfl rfl).trans ((FRM_gi hF275 (r := 17) rfl rfl).trans (gi_same (by omega)))))
  have c0 : ∀ j, j < 12 → gi h278 24 j = gi h (c + 1) j := fun j hj => (oc278 _ j (by omega)).trans ((oc277 _ j (by omega)).trans ((oc276 _ j (by omega)).trans ((cc275 j).trans ((if_pos (by omega)).trans ((gi_to (show Int.toNat 0 + (j - Int.toNat 0) = j by omega)).trans ((gi_a (by omega) _).trans ((gi_a (by omega) _).trans ((gi_a (by omega) _).trans ((gi_a (by omega) _).trans (gi_a (by omega) _))))))))))
  have c1 : ∀ j, j < 12 → gi h278 25 j = gi h (c + 2) j := fun j hj => (oc278 _ j (by omega)).trans ((oc277 _ j (by omega)).trans ((cc276 j).trans ((if_pos (by omega)).trans ((gi_to (show Int.toNat 0 + (j - Int.toNat 0) = j by omega)).trans ((oc275 _ _ (by omega)).trans ((gi_a (by omega) _).trans ((gi_a (by omega) _).trans ((gi_a (by omega) _).trans ((gi_a (by omega) _).trans (gi_a (by omega) _))))))))))
  have c2 : ∀ j, j < 8 → gi h278 26 j = gi h (c + 3) j := fun j hj => (oc278 _ j (by omega)).trans ((cc277 j).trans ((if_pos (by omega)).trans ((gi_to (show Int.toNat 0 + (j - Int.toNat 0) = j by omega)).trans ((oc276 _ _ (by omega)).trans ((oc275 _ _ (by omega)).trans ((gi_a (by omega) _).trans ((gi_a (by omega) _).trans ((gi_a (by omega) _).trans ((gi_a (by omega) _).trans (gi_a (by omega) _))))))))))
  have c3 : ∀ j, j < 8 → gi h278 27 j = gi h (c + 4) j := fun j hj => (cc278 j).trans ((if_pos (by omega)).trans ((gi_to (show Int.toNat 0 + (j - Int.toNat 0) = j by omega)).trans ((oc277 _ _ (by omega)).trans ((oc276 _ _ (by omega)).trans ((oc275 _ _ (by omega)).trans ((gi_a (by omega) _).trans ((gi_a (by omega) _).trans ((gi_a (by omega) _).trans ((gi_a (by omega) _).trans (gi_a (by omega) _))))))))))
  exact x_vret hK rfl ⟨rfl, hG278, ((((FRM_w (FRM_w (FRM_w (FRM_w (FRM_w ((FRM.rf : FRM gRL [(0, 17, 0, 4), (0, 18, 0, 11), (0, 19, 0, 11), (0, 20, 0, 7), (0, 21, 0, 7)] h h)) (r := 17) rfl rfl) (r := 17) rfl rfl) (r := 17) rfl rfl) (r := 17) rfl rfl) (r := 17) rfl rfl).trans ((hF275).mono rfl)).trans ((hF276).mono rfl)).trans ((hF277).mono rfl)).trans ((hF278).mono rfl), kS_eq g4 ee (fun j hj => ⟨c0 j hj, c1 j hj⟩) (fun j hj => ⟨c2 j hj, c3 j hj⟩), fun a k hn => (oc278 a k (by omega)).trans ((oc277 a k (by omega)).trans ((oc276 a k (by omega)).trans ((oc275 a k (by omega)).trans ((gi_a (by omega) _).trans ((gi_a (by omega) _).trans ((gi_a (by omega) _).trans ((gi_a (by omega) _).trans (gi_a (by omega) _))))))))⟩
set_option maxRecDepth 4000 in
theorem ctX8_copyFrom_kp_23 {SP : CT} (hSP : MONO SP) {sh : List (Nat × Nat)} {h : aH} (hG : GD gE gRL sh h) (hP : PT h) {c : Nat} (hc : kpA c) : CLd SP 1 mX8_copyFrom [.ref c, .ref 23] h 0 0 (fun rv h' => rv = none ∧ GD gE gRL sh h' ∧ FRM gRL [(0, 36, 0, 4), (0, 37, 0, 11), (0, 38, 0, 11), (0, 39, 0, 7), (0, 40, 0, 7)] h h' ∧ kS h' c = kS h 23 ∧ oth c h h') := by
  refine x_met _ rfl (Nat.le_of_ble_eq_true rfl) (fun K hK => ?_)
  have hmono := MONO_CLd hSP 0
  have hcb := kp_b hc
  have g1 := gri 0 8 hG (a := 23) (r := 17) (k := 1) rfl rfl
  have g4 := gri 0 12 hG (a := 23) (r := 17) (k := 4) rfl rfl
  refine x_aload_n 1 hK rfl rfl rfl ?_
  refine x_aload_n 2 hK rfl rfl rfl ?_
  have g279 := gi_r h 23 0
  refine x_getE 5 hK rfl (Or.inl rfl) rfl (sp_23 (h := h) hG) (e := (gi h 23 0)) (rfl) ?_
  refine x_putI 8 hK rfl rfl (shx (h := h) hG (r := 36) (kp_r hc).1 rfl) ?_
  refine x_aload_n 9 hK rfl rfl rfl ?_
  refine x_aload_n 10 hK rfl rfl rfl ?_
  have g280 := gri (0) (8) hG (a := 23) (r := 17) (k := 1) rfl rfl
  refine x_getE 13 hK rfl (Or.inl rfl) rfl (sp_23 (h := h) hG) (e := (gi h 23 1)) (gi_a (by omega) _) ?_
  refine x_putI 16 hK rfl rfl (shx (h := h) hG (r := 36) (kp_r hc).1 rfl) ?_
  refine x_aload_n 17 hK rfl rfl rfl ?_
  refine x_aload_n 18 hK rfl rfl rfl ?_
  have g281 := gi_r h 23 2
  refine x_getE 21 hK rfl (Or.inl rfl) rfl (sp_23 (h := h) hG) (e := (gi h 23 2)) ((gi_a (by omega) _).trans (gi_a (by omega) _)) ?_
  refine x_putI 24 hK rfl rfl (shx (h := h) hG (r := 36) (kp_r hc).1 rfl) ?_
  refine x_aload_n 25 hK rfl rfl rfl ?_
  refine x_aload_n 26 hK rfl rfl rfl ?_
  have g282 := gi_r h 23 3
  refine x_getE 29 hK rfl (Or.inl rfl) rfl (sp_23 (h := h) hG) (e := (gi h 23 3)) ((gi_a (by omega) _).trans ((gi_a (by omega) _).trans (gi_a (by omega) _))) ?_
  refine x_putI 32 hK rfl rfl (shx (h := h) hG (r := 36) (kp_r hc).1 rfl) ?_
  refine x_aload_n 33 hK rfl rfl rfl ?_
  refine x_aload_n 34 hK rfl rfl rfl ?_
  have g283 := gri (0) (12) hG (a := 23) (r := 17) (k := 4) rfl rfl
  refine x_getE 37 hK rfl (Or.inl rfl) rfl (sp_23 (h := h) hG) (e := (gi h 23 4)) ((gi_a (by omega) _).trans ((gi_a (by omega) _).trans ((gi_a (by omega) _).trans (gi_a (by omega) _)))) ?_
  refine x_putI 40 hK rfl rfl (shx (h := h) hG (r := 36) (kp_r hc).1 rfl) ?_
  refine x_aload_n 41 hK rfl rfl rfl ?_
  refine x_getR 44 hK rfl rfl (sp_23 (h := h) hG) (rf_23_5 (h := h) hG) ?_
  refine x_iconst 45 hK rfl rfl ?_
  refine x_aload_n 46 hK rfl rfl rfl ?_
  refine x_getR 49 hK rfl rfl (shx (h := h) hG (r := 36) (kp_r hc).1 rfl) (kp_p hP hc).1 ?_
  refine x_iconst 50 hK rfl rfl ?_
  refine x_bipush 52 hK rfl rfl rfl ?_
  refine x_acp 55 hK rfl rfl (by decide) (sp_24 (h := h) hG) (shx (h := h) hG (r := 37) (kp_r hc).2.1 rfl) (by omega) (by omega) (by omega) (by omega) (by omega) ?_
  obtain ⟨h284, e284⟩ : ∃ z, z = sC (wI (wI (wI (wI (wI h c 0 (gi h 23 0)) c 1 (gi h 23 1)) c 2 (gi h 23 2)) c 3 (gi h 23 3)) c 4 (gi h 23 4)) 24 (Int.toNat 0) (c + 1) (Int.toNat 0) (Int.toNat 12) := ⟨_, rfl⟩
  rw [← e284]
  have hG284 : GD gE gRL sh h284 := by rw [e284]; exact GD_C (GD_w1 (GD_w0 (GD_w0 (GD_w1 (GD_w0 (hG) (r := 36) (kp_r hc).1 rfl) (r := 36) (kp_r hc).1 (by omega) rfl (by omega) (by omega)) (r := 36) (kp_r hc).1 rfl) (r := 36) (kp_r hc).1 rfl) (r := 36) (kp_r hc).1 (by omega) rfl (by omega) (by omega)) (r := 37) (kp_r hc).2.1 rfl
  have hF284 : FRM gRL [(0, 37, 0, 11)] (wI (wI (wI (wI (wI h c 0 (gi h 23 0)) c 1 (gi h 23 1)) c 2 (gi h 23 2)) c 3 (gi h 23 3)) c 4 (gi h 23 4)) h284 := by rw [e284]; exact FRM_C FRM.rf (r := 37) (kp_r hc).2.1 fun k k1 k2 => mIn_r (x := 0) (y := 11) (by decide) k (by omega) (by omega)
  have oc284 : ∀ a9 k9, a9 ≠ (c + 1) → gi h284 a9 k9 = gi (wI (wI (wI (wI (wI h c 0 (gi h 23 0)) c 1 (gi h 23 1)) c 2 (gi h 23 2)) c 3 (gi h 23 3)) c 4 (gi h 23 4)) a9 k9 := fun a9 k9 ha => by rw [e284]; exact gi_sCn ha k9
  have cc284 : ∀ j9, gi h284 (c + 1) j9 = if (Int.toNat 0) ≤ j9 ∧ j9 < (Int.toNat 0) + (Int.toNat 12) then gi (wI (wI (wI (wI (wI h c 0 (gi h 23 0)) c 1 (gi h 23 1)) c 2 (gi h 23 2)) c 3 (gi h 23 3)) c 4 (gi h 23 4)) 24 ((Int.toNat 0) + (j9 - (Int.toNat 0))) else gi (wI (wI (wI (wI (wI h c 0 (gi h 23 0)) c 1 (gi h 23 1)) c 2 (gi h 23 2)) c 3 (gi h 23 3)) c 4 (gi h 23 4)) (c + 1) j9 := fun j9 => by rw [e284]; exact gi_sC j9
  refine x_aload_n 56 hK rfl rfl rfl ?_
  refine x_getR 59 hK rfl rfl (sp_23 (h := h284) hG284) (rf_23_6 (h := h284) hG284) ?_
  refine x_iconst 60 hK rfl rfl ?_
  refine x_aload_n 61 hK rfl rfl rfl ?_
  refine x_getR 64 hK rfl rfl (shx (h := h284) hG284 (r := 36) (kp_r hc).1 rfl) (kp_p (PT_F hF284 (by decide) hP) hc).2.1 ?_
  refine x_iconst 65 hK rfl rfl ?_
  refine x_bipush 67 hK rfl rfl rfl ?_
  refine x_acp 70 hK rfl rfl (by decide) (sp_25 (h := h284) hG284) (shx (h := h284) hG284 (r := 38) (kp_r hc).2.2.1 rfl) (by omega) (by omega) (by omega) (by omega) (by omega) ?_
  obtain ⟨h285, e285⟩ : ∃ z, z = sC h284 25 (Int.toNat 0) (c + 2) (Int.toNat 0) (Int.toNat 12) := ⟨_, rfl⟩
  rw [← e285]
  have hG285 : GD gE gRL sh h285 := by rw [e285]; exact GD_C (hG284) (r := 38) (kp_r hc).2.2.1 rfl
  have hF285 : FRM gRL [(0, 38, 0, 11)] h284 h285 := by rw [e285]; exact FRM_C FRM.rf (r := 38) (kp_r hc).2.2.1 fun k k1 k2 => mIn_r (x := 0) (y := 11) (by decide) k (by omega) (by omega)
  have oc285 : ∀ a9 k9, a9 ≠ (c + 2) → gi h285 a9 k9 = gi h284 a9 k9 := fun a9 k9 ha => by rw [e285]; exact gi_sCn ha k9
  have cc285 : ∀ j9, gi h285 (c + 2) j9 = if (Int.toNat 0) ≤ j9 ∧ j9 < (Int.toNat 0) + (Int.toNat 12) then gi h284 25 ((Int.toNat 0) + (j9 - (Int.toNat 0))) else gi h284 (c + 2) j9 := fun j9 => by rw [e285]; exact gi_sC j9
  refine x_aload_n 71 hK rfl rfl rfl ?_
  refine x_getR 74 hK rfl rfl (sp_23 (h := h285) hG285) (rf_23_7 (h := h285) hG285) ?_
  refine x_iconst 75 hK rfl rfl ?_
  refine x_aload_n 76 hK rfl rfl rfl ?_
  refine x_getR 79 hK rfl rfl (shx (h := h285) hG285 (r := 36) (kp_r hc).1 rfl) (kp_p (PT_F hF285 (by decide) (PT_F hF284 (by decide) hP)) hc).2.2.1 ?_
  refine x_iconst 80 hK rfl rfl ?_
  refine x_bipush 82 hK rfl rfl rfl ?_
  refine x_acp 85 hK rfl rfl (by decide) (sp_26 (h := h285) hG285) (shx (h := h285) hG285 (r := 39) (kp_r hc).2.2.2.1 rfl) (by omega) (by omega) (by omega) (by omega) (by omega) ?_
  obtain ⟨h286, e286⟩ : ∃ z, z = sC h285 26 (Int.toNat 0) (c + 3) (Int.toNat 0) (Int.toNat 8) := ⟨_, rfl⟩
  rw [← e286]
  have hG286 : GD gE gRL sh h286 := by rw [e286]; exact GD_C (hG285) (r := 39) (kp_r hc).2.2.2.1 rfl
  have hF286 : FRM gRL [(0, 39, 0, 7)] h285 h286 := by rw [e286]; exact FRM_C FRM.rf (r := 39) (kp_r hc).2.2.2.1 fun k k1 k2 => mIn_r (x := 0) (y := 7) (by decide) k (by omega) (by omega)
  have oc286 : ∀ a9 k9, a9 ≠ (c + 3) → gi h286 a9 k9 = gi h285 a9 k9 := fun a9 k9 ha => by rw [e286]; exact gi_sCn ha k9
  have cc286 : ∀ j9, gi h286 (c + 3) j9 = if (Int.toNat 0) ≤ j9 ∧ j9 < (Int.toNat 0) + (Int.toNat 8) then gi h285 26 ((Int.toNat 0) + (j9 - (Int.toNat 0))) else gi h285 (c + 3) j9 := fun j9 => by rw [e286]; exact gi_sC j9
  refine x_aload_n 86 hK rfl rfl rfl ?_
  refine x_getR 89 hK rfl rfl (sp_23 (h := h286) hG286) (rf_23_8 (h := h286) hG286) ?_
  refine x_iconst 90 hK rfl rfl ?_
  refine x_aload_n 91 hK rfl rfl rfl ?_
  refine x_getR 94 hK rfl rfl (shx (h := h286) hG286 (r := 36) (kp_r hc).1 rfl) (kp_p (PT_F hF286 (by decide) (PT_F hF285 (by decide) (PT_F hF284 (by decide) hP))) hc).2.2.2 ?_
  refine x_iconst 95 hK rfl rfl ?_
  refine x_bipush 97 hK rfl rfl rfl ?_
  refine x_acp 100 hK rfl rfl (by decide) (sp_27 (h := h286) hG286) (shx (h := h286) hG286 (r := 40) (kp_r hc).2.2.2.2 rfl) (by omega) (by omega) (by omega) (by omega) (by omega) ?_
  obtain ⟨h287, e287⟩ : ∃ z, z = sC h286 27 (Int.toNat 0) (c + 4) (Int.toNat 0) (Int.toNat 8) := ⟨_, rfl⟩
  rw [← e287]
  have hG287 : GD gE gRL sh h287 := by rw [e287]; exact GD_C (hG286) (r := 40) (kp_r hc).2.2.2.2 rfl
  have hF287 : FRM gRL [(0, 40, 0, 7)] h286 h287 := by rw [e287]; exact FRM_C FRM.rf (r := 40) (kp_r hc).2.2.2.2 fun k k1 k2 => mIn_r (x := 0) (y := 7) (by decide) k (by omega) (by omega)
  have oc287 : ∀ a9 k9, a9 ≠ (c + 4) → gi h287 a9 k9 = gi h286 a9 k9 := fun a9 k9 ha => by rw [e287]; exact gi_sCn ha k9
  have cc287 : ∀ j9, gi h287 (c + 4) j9 = if (Int.toNat 0) ≤ j9 ∧ j9 < (Int.toNat 0) + (Int.toNat 8) then gi h286 27 ((Int.toNat 0) + (j9 - (Int.toNat 0))) else gi h286 (c + 4) j9 := fun j9 => by rw [e287]; exact gi_sC j9
  have ee : ∀ k, k < 5 → gi h287 c k = gi h 23 k := fun k hk => by
    rcases (show k = 0 ∨ k = 1 ∨ k = 2 ∨ k = 3 ∨ k = 4 by omega) with rfl | rfl | rfl | rfl | rfl
    · exact (FRM_gi hF287 (r := 36) (kp_r hc).1 rfl).trans ((FRM_gi hF286 (r := 36) (kp_r hc).1 rfl).trans ((FRM_gi hF285 (r := 36) (kp_r hc).1 rfl).trans ((FRM_gi hF284 (r := 36) (kp_r hc).1 rfl).trans ((gi_k (by decide) _).trans ((gi_k (by decide) _).trans ((gi_k (by decide) _).trans ((gi_k (by decide) _).trans (gi_same (by omega)))))))))
    · exact (FRM_gi hF287 (r := 36) (kp_r hc).1 rfl).trans ((FRM_gi hF286 (r := 36) (kp_r hc).1 rfl).trans ((FRM_gi hF285 (r := 36) (kp_r hc).1 rfl).trans ((FRM_gi hF284 (r := 36) (kp_r hc).1 rfl).trans ((gi_k (by decide) _).trans ((gi_k (by decide) _).trans ((gi_k (by decide) _).trans (gi_same (by omega))))))))
    · exact (FRM_gi hF287 (r := 36) (kp_r hc).1 rfl).trans ((FRM_gi hF286 (r := 36) (kp_r hc).1 rfl).trans ((FRM_gi hF285 (r := 36) (kp_r hc).1 rfl).trans ((FRM_gi hF284 (r := 36) (kp_r hc).1 rfl).trans ((gi_k (by decide) _).trans ((gi_k (by decide) _).trans (gi_same (by omega)))))))
    · exact (FRM_gi hF287 (r := 36) (kp_r hc).1 rfl).trans ((FRM_gi hF286 (r := 36) (kp_r hc).1 rfl).trans ((FRM_gi hF285 (r := 36) (kp_r hc).1 rfl).trans ((FRM_gi hF284 (r := 36) (kp_r hc).1 rfl).trans ((gi_k (by decide) _).trans (gi_same (by omega))))))
    · exact (FRM_gi hF287 (r := 36) (kp_r hc).1 rfl).trans ((FRM_gi hF286 (r := 36) (kp_r hc).1 rfl).trans ((FRM_gi hF285 (r := 36) (kp_r hc).1 rfl).trans ((FRM_gi hF284 (r := 36) (kp_r hc).1 rfl).trans (gi_same (by omega)))))
  have c0 : ∀ j, j < 12 → gi h287 (c + 1) j = gi h 24 j := fun j hj => (oc287 _ j (by omega)).trans ((oc286 _ j (by omega)).trans ((oc285 _ j (by omega)).trans ((cc284 j).trans ((if_pos (by omega)).trans ((gi_to (show Int.toNat 0 + (j - Int.toNat 0) = j by omega)).trans ((gi_a (by omega) _).trans ((gi_a (by omega) _).trans ((gi_a (by omega) _).trans ((gi_a (by omega) _).trans (gi_a (by omega) _))))))))))
  have c1 : ∀ j, j < 12 → gi h287 (c + 2) j = gi h 25 j := fun j hj => (oc287 _ j (by omega)).trans ((oc286 _ j (by omega)).trans ((cc285 j).trans ((if_pos (by omega)).trans ((gi_to (show Int.toNat 0 + (j - Int.toNat 0) = j by omega)).trans ((oc284 _ _ (by omega)).trans ((gi_a (by omega) _).trans ((gi_a (by omega) _).trans ((gi_a (by omega) _).trans ((gi_a (by omega) _).trans (gi_a (by omega) _))))))))))
  have c2 : ∀ j, j < 8 → gi h287 (c + 3) j = gi h 26 j := fun j hj => (oc287 _ j (by omega)).trans ((cc286 j).trans ((if_pos (by omega)).trans ((gi_to (show Int.toNat 0 + (j - Int.toNat 0) = j by omega)).trans ((oc285 _ _ (by omega)).trans ((oc284 _ _ (by omega)).trans ((gi_a (by omega) _).trans ((gi_a (by omega) _).trans ((gi_a (by omega) _).trans ((gi_a (by omega) _).trans (gi_a (by omega) _))))))))))
  have c3 : ∀ j, j < 8 → gi h287 (c + 4) j = gi h 27 j := fun j hj => (cc287 j).trans ((if_pos (by omega)).trans ((gi_to (show Int.toNat 0 + (j - Int.toNat 0) = j by omega)).trans ((oc286 _ _ (by omega)).trans ((oc285 _ _ (by omega)).trans ((oc284 _ _ (by omega)).trans ((gi_a (by omega) _).trans ((gi_a (by omega) _).trans ((gi_a (by omega) _).trans ((gi_a (by omega) _).trans (gi_a (by omega) _))))))))))
  exact x_vret hK rfl ⟨rfl, hG287, ((((FRM_w (FRM_w (FRM_w (FRM_w (FRM_w ((FRM.rf : FRM gRL [(0, 36, 0, 4), (0, 37, 0, 11), (0, 38, 0, 11), (0, 39, 0, 7), (0, 40, 0, 7)] h h)) (r := 36) (kp_r hc).1 rfl) (r := 36) (kp_r hc).1 rfl) (r := 36) (kp_r hc).1 rfl) (r := 36) (kp_r hc).1 rfl) (r := 36) (kp_r hc).1 rfl).trans ((hF284).mono rfl)).trans ((hF285).mono rfl)).trans ((hF286).mono rfl)).trans ((hF287).mono rfl), kS_eq g4 ee (fun j hj => ⟨c0 j hj, c1 j hj⟩) (fun j hj => ⟨c2 j hj, c3 j hj⟩), fun a k hn => (oc287 a k (by omega)).trans ((oc286 a k (by omega)).trans ((oc285 a k (by omega)).trans ((oc284 a k (by omega)).trans ((gi_a (by omega) _).trans ((gi_a (by omega) _).trans ((gi_a (by omega) _).trans ((gi_a (by omega) _).trans (gi_a (by omega) _))))))))⟩
set_option maxRecDepth 4000 in
theorem ctX8_copyFrom_23_kp {SP : CT} (hSP : MONO SP) {sh : List (Nat × Nat)} {h : aH} (hG : GD gE gRL sh h) (hP : PT h) {c : Nat} (hc : kpA c) : CLd SP 1 mX8_copyFrom [.ref 23, .ref c] h 0 0 (fun rv h' => rv = none ∧ GD gE gRL sh h' ∧ FRM gRL [(0, 17, 0, 4), (0, 18, 0, 11), (0, 19, 0, 11), (0, 20, 0, 7), (0, 21, 0, 7)] h h' ∧ kS h' 23 = kS h c ∧ oth 23 h h') := by
  refine x_met _ rfl (Nat.le_of_ble_eq_true rfl) (fun K hK => ?_)
  have hmono := MONO_CLd hSP 0
  have hcb := kp_b hc
  have g1 := gri 0 8 hG (a := c) (r := 36) (k := 1) (kp_r hc).1 rfl
  have g4 := gri 0 12 hG (a := c) (r := 36) (k := 4) (kp_r hc).1 rfl
  refine x_aload_n 1 hK rfl rfl rfl ?_
  refine x_aload_n 2 hK rfl rfl rfl ?_
  have g288 := gi_r h c 0
  refine x_getE 5 hK rfl (Or.inl rfl) rfl (shx (h := h) hG (r := 36) (kp_r hc).1 rfl) (e := (gi h c 0)) (rfl) ?_
  refine x_putI 8 hK rfl rfl (sp_23 (h := h) hG) ?_
  refine x_aload_n 9 hK rfl rfl rfl ?_
  refine x_aload_n 10 hK rfl rfl rfl ?_
  have g289 := gri (0) (8) hG (a := c) (r := 36) (k := 1) (kp_r hc).1 rfl
  refine x_getE 13 hK rfl (Or.inl rfl) rfl (shx (h := h) hG (r := 36) (kp_r hc).1 rfl) (e := (gi h c 1)) (gi_a (by omega) _) ?_
  refine x_putI 16 hK rfl rfl (sp_23 (h := h) hG) ?_
  refine x_aload_n 17 hK rfl rfl rfl ?_
  refine x_aload_n 18 hK rfl rfl rfl ?_
  have g290 := gi_r h c 2
  refine x_getE 21 hK rfl (Or.inl rfl) rfl (shx (h := h) hG (r := 36) (kp_r hc).1 rfl) (e := (gi h c 2)) ((gi_a (by omega) _).trans (gi_a (by omega) _)) ?_
  refine x_putI 24 hK rfl rfl (sp_23 (h := h) hG) ?_
  refine x_aload_n 25 hK rfl rfl rfl ?_
  refine x_aload_n 26 hK rfl rfl rfl ?_
  have g291 := gi_r h c 3
  refine x_getE 29 hK rfl (Or.inl rfl) rfl (shx (h := h) hG (r := 36) (kp_r hc).1 rfl) (e := (gi h c 3)) ((gi_a (by omega) _).trans ((gi_a (by omega) _).trans (gi_a (by omega) _))) ?_
  refine x_putI 32 hK rfl rfl (sp_23 (h := h) hG) ?_
  refine x_aload_n 33 hK rfl rfl rfl ?_
  refine x_aload_n 34 hK rfl rfl rfl ?_
  have g292 := gri (0) (12) hG (a := c) (r := 36) (k := 4) (kp_r hc).1 rfl
  refine x_getE 37 hK rfl (Or.inl rfl) rfl (shx (h := h) hG (r := 36) (kp_r hc).1 rfl) (e := (gi h c 4)) ((gi_a (by omega) _).trans ((gi_a (by omega) _).trans ((gi_a (by omega) _).trans (gi_a (by omega) _)))) ?_
  refine x_putI 40 hK rfl rfl (sp_23 (h := h) hG) ?_
  refine x_aload_n 41 hK rfl rfl rfl ?_
  refine x_getR 44 hK rfl rfl (shx (h := h) hG (r := 36) (kp_r hc).1 rfl) (kp_p hP hc).1 ?_
  refine x_iconst 45 hK rfl rfl ?_
  refine x_aload_n 46 hK rfl rfl rfl ?_
  refine x_getR 49 hK rfl rfl (sp_23 (h := h) hG) (rf_23_5 (h := h) hG) ?_
  refine x_iconst 50 hK rfl rfl ?_
  refine x_bipush 52 hK rfl rfl rfl ?_
  refine x_acp 55 hK rfl rfl (by decide) (shx (h := h) hG (r := 37) (kp_r hc).2.1 rfl) (sp_24 (h := h) hG) (by omega) (by omega) (by omega) (by omega) (by omega) ?_
  obtain ⟨h293, e293⟩ : ∃ z, z = sC (wI (wI (wI (wI (wI h 23 0 (gi h c 0)) 23 1 (gi h c 1)) 23 2 (gi h c 2)) 23 3 (gi h c 3)) 23 4 (gi h c 4)) (c + 1) (Int.toNat 0) 24 (Int.toNat 0) (Int.toNat 12) := ⟨_, rfl⟩
  rw [← e293]
  have hG293 : GD gE gRL sh h293 := by rw [e293]; exact GD_C (GD_w1 (GD_w0 (GD_w0 (GD_w1 (GD_w0 (hG) (r := 17) rfl rfl) (r := 17) rfl (by omega) rfl (by omega) (by omega)) (r := 17) rfl rfl) (r := 17) rfl rfl) (r := 17) rfl (by omega) rfl (by omega) (by omega)) (r := 18) rfl rfl
  have hF293 : FRM gRL [(0, 18, 0, 11)] (wI (wI (wI (wI (wI h 23 0 (gi h c 0)) 23 1 (gi h c 1)) 23 2 (gi h c 2)) 23 3 (gi h c 3)) 23 4 (gi h c 4)) h293 := by rw [e293]; exact FRM_C FRM.rf (r := 18) rfl fun k k1 k2 => mIn_r (x := 0) (y := 11) (by decide) k (by omega) (by omega)
  have oc293 : ∀ a9 k9, a9 ≠ 24 → gi h293 a9 k9 = gi (wI (wI (wI (wI (wI h 23 0 (gi h c 0)) 23 1 (gi h c 1)) 23 2 (gi h c 2)) 23 3 (gi h c 3)) 23 4 (gi h c 4)) a9 k9 := fun a9 k9 ha => by rw [e293]; exact gi_sCn ha k9
  have cc293 : ∀ j9, gi h293 24 j9 = if (Int.toNat 0) ≤ j9 ∧ j9 < (Int.toNat 0) + (Int.toNat 12) then gi (wI (wI (wI (wI (wI h 23 0 (gi h c 0)) 23 1 (gi h c 1)) 23 2 (gi h c 2)) 23 3 (gi h c 3)) 23 4 (gi h c 4)) (c + 1) ((Int.toNat 0) + (j9 - (Int.toNat 0))) else gi (wI (wI (wI (wI (wI h 23 0 (gi h c 0)) 23 1 (gi h c 1)) 23 2 (gi h c 2)) 23 3 (gi h c 3)) 23 4 (gi h c 4)) 24 j9 := fun j9 => by rw [e293]; exact gi_sC j9
  refine x_aload_n 56 hK rfl rfl rfl ?_
  refine x_getR 59 hK rfl rfl (shx (h := h293) hG293 (r := 36) (kp_r hc).1 rfl) (kp_p (PT_F hF293 (by decide) hP) hc).2.1 ?_
  refine x_iconst 60 hK rfl rfl ?_
  refine x_aload_n 61 hK rfl rfl rfl ?_
  refine x_getR 64 hK rfl rfl (sp_23 (h := h293) hG293) (rf_23_6 (h := h293) hG293) ?_
  refine x_iconst 65 hK rfl rfl ?_
  refine x_bipush 67 hK rfl rfl rfl ?_
  refine x_acp 70 hK rfl rfl (by decide) (shx (h := h293) hG293 (r := 38) (kp_r hc).2.2.1 rfl) (sp_25 (h := h293) hG293) (by omega) (by omega) (by omega) (by omega) (by omega) ?_
  obtain ⟨h294, e294⟩ : ∃ z, z = sC h293 (c + 2) (Int.toNat 0) 25 (Int.toNat 0) (Int.toNat 12) := ⟨_, rfl⟩
  rw [← e294]
  have hG294 : GD gE gRL sh h294 := by rw [e294]; exact GD_C (hG293) (r := 19) rfl rfl
  have hF294 : FRM gRL [(0, 19, 0, 11)] h293 h294 := by rw [e294]; exact FRM_C FRM.rf (r := 19) rfl fun k k1 k2 => mIn_r (x := 0) (y := 11) (by decide) k (by omega) (by omega)
  have oc294 : ∀ a9 k9, a9 ≠ 25 → gi h294 a9 k9 = gi h293 a9 k9 := fun a9 k9 ha => by rw [e294]; exact gi_sCn ha k9
  have cc294 : ∀ j9, gi h294 25 j9 = if (Int.toNat 0) ≤ j9 ∧ j9 < (Int.toNat 0) + (Int.toNat 12) then gi h293 (c + 2) ((Int.toNat 0) + (j9 - (Int.toNat 0))) else gi h293 25 j9 := fun j9 => by rw [e294]; exact gi_sC j9
  refine x_aload_n 71 hK rfl rfl rfl ?_
  refine x_getR 74 hK rfl rfl (shx (h := h294) hG294 (r := 36) (kp_r hc).1 rfl) (kp_p (PT_F hF294 (by decide) (PT_F hF293 (by decide) hP)) hc).2.2.1 ?_
  refine x_iconst 75 hK rfl rfl ?_
  refine x_aload_n 76 hK rfl rfl rfl ?_
  refine x_getR 79 hK rfl rfl (sp_23 (h := h294) hG294) (rf_23_7 (h := h294) hG294) ?_
  refine x_iconst 80 hK rfl rfl ?_
  refine x_bipush 82 hK rfl rfl rfl ?_
  refine x_acp 85 hK rfl rfl (by decide) (shx (h := h294) hG294 (r := 39) (kp_r hc).2.2.2.1 rfl) (sp_26 (h := h294) hG294) (by omega) (by omega) (by omega) (by omega) (by omega) ?_
  obtain ⟨h295, e295⟩ : ∃ z, z = sC h294 (c + 3) (Int.toNat 0) 26 (Int.toNat 0) (Int.toNat 8) := ⟨_, rfl⟩
  rw [← e295]
  have hG295 : GD gE gRL sh h295 := by rw [e295]; exact GD_C (hG294) (r := 20) rfl rfl
  have hF295 : FRM gRL [(0, 20, 0, 7)] h294 h295 := by rw [e295]; exact FRM_C FRM.rf (r := 20) rfl fun k k1 k2 => mIn_r (x := 0) (y := 7) (by decide) k (by omega) (by omega)
  have oc295 : ∀ a9 k9, a9 ≠ 26 → gi h295 a9 k9 = gi h294 a9 k9 := fun a9 k9 ha => by rw [e295]; exact gi_sCn ha k9
  have cc295 : ∀ j9, gi h295 26 j9 = if (Int.toNat 0) ≤ j9 ∧ j9 < (Int.toNat 0) + (Int.toNat 8) then gi h294 (c + 3) ((Int.toNat 0) + (j9 - (Int.toNat 0))) else gi h294 26 j9 := fun j9 => by rw [e295]; exact gi_sC j9
  refine x_aload_n 86 hK rfl rfl rfl ?_
  refine x_getR 89 hK rfl rfl (shx (h := h295) hG295 (r := 36) (kp_r hc).1 rfl) (kp_p (PT_F hF295 (by decide) (PT_F hF294 (by decide) (PT_F hF293 (by decide) hP))) hc).2.2.2 ?_
  refine x_iconst 90 hK rfl rfl ?_
  refine x_aload_n 91 hK rfl rfl rfl ?_
  refine x_getR 94 hK rfl rfl (sp_23 (h := h295) hG295) (rf_23_8 (h := h295) hG295) ?_
  refine x_iconst 95 hK rfl rfl ?_
  refine x_bipush 97 hK rfl rfl rfl ?_
  refine x_acp 100 hK rfl rfl (by decide) (shx (h := h295) hG295 (r := 40) (kp_r hc).2.2.2.2 rfl) (sp_27 (h := h295) hG295) (by omega) (by omega) (by omega) (by omega) (by omega) ?_
  obtain ⟨h296, e296⟩ : ∃ z, z = sC h295 (c + 4) (Int.toNat 0) 27 (Int.toNat 0) (Int.toNat 8) := ⟨_, rfl⟩
  rw [← e296]
  have hG296 : GD gE gRL sh h296 := by rw [e296]; exact GD_C (hG295) (r := 21) rfl rfl
  have hF296 : FRM gRL [(0, 21, 0, 7)] h295 h296 := by rw [e296]; exact FRM_C FRM.rf (r := 21) rfl fun k k1 k2 => mIn_r (x := 0) (y := 7) (by decide) k (by omega) (by omega)
  have oc296 : ∀ a9 k9, a9 ≠ 27 → gi h296 a9 k9 = gi h295 a9 k9 := fun a9 k9 ha => by rw [e296]; exact gi_sCn ha k9
  have cc296 : ∀ j9, gi h296 27 j9 = if (Int.toNat 0) ≤ j9 ∧ j9 < (Int.toNat 0) + (Int.toNat 8) then gi h295 (c + 4) ((Int.toNat 0) + (j9 - (Int.toNat 0))) else gi h295 27 j9 := fun j9 => by rw [e296]; exact gi_sC j9
  have ee : ∀ k, k < 5 → gi h296 23 k = gi h c k := fun k hk => by
    rcases (show k = 0 ∨ k = 1 ∨ k = 2 ∨ k = 3 ∨ k = 4 by omega) with rfl | rfl | rfl | rfl | rfl
    · exact (FRM_gi hF296 (r := 17) rfl rfl).trans ((FRM_gi hF295 (r := 17) rfl rfl).trans ((FRM_gi hF294 (r := 17) rfl rfl).trans ((FRM_gi hF293 (r := 17) rfl rfl).trans ((gi_k (by decide) _).trans ((gi_k (by decide) _).trans ((gi_k (by decide) _).trans ((gi_k (by decide) _).trans (gi_same (by omega)))))))))
    · exact (FRM_gi hF296 (r := 17) rfl rfl).trans ((FRM_gi hF295 (r := 17) rfl rfl).trans ((FRM_gi hF294 (r := 17) rfl rfl).trans ((FRM_gi hF293 (r := 17) rfl rfl).trans ((gi_k (by decide) _).trans ((gi_k (by decide) _).trans ((gi_k (by decide) _).trans (gi_same (by omega))))))))
    · exact (FRM_gi hF296 (r := 17) rfl rfl).trans ((FRM_gi hF295 (r := 17) rfl rfl).trans ((FRM_gi hF294 (r := 17) rfl rfl).trans ((FRM_gi hF293 (r := 17) rfl rfl).trans ((gi_k (by decide) _).trans ((gi_k (by decide) _).trans (gi_same (by omega)))))))
    · exact (FRM_gi hF296 (r := 17) rfl rfl).trans ((FRM_gi hF295 (r := 17) rfl rfl).trans ((FRM_gi hF294 (r := 17) rfl rfl).trans ((FRM_gi hF293 (r := 17) rfl rfl).trans ((gi_k (by decide) _).trans (gi_same (by omega))))))
    · exact (FRM_gi hF296 (r := 17) rfl rfl).trans ((FRM_gi hF295 (r := 17) rfl rfl).trans ((FRM_gi hF294 (r := 17) rfl rfl).trans ((FRM_gi hF293 (r := 17) rfl rfl).trans (gi_same (by omega)))))
  have c0 : ∀ j, j < 12 → gi h296 24 j = gi h (c + 1) j := fun j hj => (oc296 _ j (by omega)).trans ((oc295 _ j (by omega)).trans ((oc294 _ j (by omega)).trans ((cc293 j).trans ((if_pos (by omega)).trans ((gi_to (show Int.toNat 0 + (j - Int.toNat 0) = j by omega)).trans ((gi_a (by omega) _).trans ((gi_a (by omega) _).trans ((gi_a (by omega) _).trans ((gi_a (by omega) _).trans (gi_a (by omega) _))))))))))
  have c1 : ∀ j, j < 12 → gi h296 25 j = gi h (c + 2) j := fun j hj => (oc296 _ j (by omega)).trans ((oc295 _ j (by omega)).trans ((cc294 j).trans ((if_pos (by omega)).trans ((gi_to (show Int.toNat 0 + (j - Int.toNat 0) = j by omega)).trans ((oc293 _ _ (by omega)).trans ((gi_a (by omega) _).trans ((gi_a (by omega) _).trans ((gi_a (by omega) _).trans ((gi_a (by omega) _).trans (gi_a (by omega) _))))))))))
  have c2 : ∀ j, j < 8 → gi h296 26 j = gi h (c + 3) j := fun j hj => (oc296 _ j (by omega)).trans ((cc295 j).trans ((if_pos (by omega)).trans ((gi_to (show Int.toNat 0 + (j - Int.toNat 0) = j by omega)).trans ((oc294 _ _ (by omega)).trans ((oc293 _ _ (by omega)).trans ((gi_a (by omega) _).trans ((gi_a (by omega) _).trans ((gi_a (by omega) _).trans ((gi_a (by omega) _).trans (gi_a (by omega) _))))))))))
  have c3 : ∀ j, j < 8 → gi h296 27 j = gi h (c + 4) j := fun j hj => (cc296 j).trans ((if_pos (by omega)).trans ((gi_to (show Int.toNat 0 + (j - Int.toNat 0) = j by omega)).trans ((oc295 _ _ (by omega)).trans ((oc294 _ _ (by omega)).trans ((oc293 _ _ (by omega)).trans ((gi_a (by omega) _).trans ((gi_a (by omega) _).trans ((gi_a (by omega) _).trans ((gi_a (by omega) _).trans (gi_a (by omega) _))))))))))
  exact x_vret hK rfl ⟨rfl, hG296, ((((FRM_w (FRM_w (FRM_w (FRM_w (FRM_w ((FRM.rf : FRM gRL [(0, 17, 0, 4), (0, 18, 0, 11), (0, 19, 0, 11), (0, 20, 0, 7), (0, 21, 0, 7)] h h)) (r := 17) rfl rfl) (r := 17) rfl rfl) (r := 17) rfl rfl) (r := 17) rfl rfl) (r := 17) rfl rfl).trans ((hF293).mono rfl)).trans ((hF294).mono rfl)).trans ((hF295).mono rfl)).trans ((hF296).mono rfl), kS_eq g4 ee (fun j hj => ⟨c0 j hj, c1 j hj⟩) (fun j hj => ⟨c2 j hj, c3 j hj⟩), fun a k hn => (oc296 a k (by omega)).trans ((oc295 a k (by omega)).trans ((oc294 a k (by omega)).trans ((oc293 a k (by omega)).trans ((gi_a (by omega) _).trans ((gi_a (by omega) _).trans ((gi_a (by omega) _).trans ((gi_a (by omega) _).trans (gi_a (by omega) _))))))))⟩
