/-! THE STATE (the reference): put by, brought back, kept: as rows of 57 -/
/-- 57 ints behind one another -/
def RC (h : aH) (a o : Nat) : Nat → Int := fun k => if k < 57 then gi h a (o + k) else 0
theorem RC_at {h : aH} {a o k : Nat} (hk : k < 57) : RC h a o k = gi h a (o + k) := if_pos hk
theorem RC_0 {h : aH} {a k : Nat} (hk : k < 57) : RC h a 0 k = gi h a k := by rw [RC_at hk, Nat.zero_add]
theorem RC_ext {h h' : aH} {a a' o o' : Nat} (e : ∀ k, k < 57 → gi h' a' (o' + k) = gi h a (o + k)) : RC h' a' o' = RC h a o := by
  funext k
  unfold RC
  by_cases hk : k < 57
  · rw [if_pos hk, if_pos hk, e k hk]
  · rw [if_neg hk, if_neg hk]
theorem RC_F {M : MD} {h h' : aH} {a r : Nat} (hF : FRM gRL M h h') (hr : gRL[a]? = some r) (hm : (M.all fun q => !(Nat.beq q.1 0 && Nat.beq q.2.1 r)) = true) (o : Nat) : RC h' a o = RC h a o :=
  RC_ext fun k _ => FRM_gi hF hr (mHas_non hm _)
theorem RC_w {h : aH} {a b k o : Nat} {e : Int} (hb : b ≠ a) : RC (wI h a k e) b o = RC h b o := RC_ext fun _ _ => gi_a hb _
/-- bounds of a state, b STEPS from the beginning -/
def WB (b : Int) (s : Nat → Int) : Prop := (0 ≤ s 0 ∧ s 0 ≤ b) ∧ (0 ≤ s 1 ∧ s 1 ≤ 8) ∧ (0 ≤ s 2 ∧ s 2 ≤ 16 * b) ∧ (0 ≤ s 3 ∧ s 3 ≤ 12) ∧ (-1 ≤ s 4 ∧ s 4 ≤ b) ∧ ∀ m, m < 8 → (0 ≤ s (41 + m) ∧ s (41 + m) ≤ 99) ∧ 0 ≤ s (49 + m) ∧ s (49 + m) ≤ b
theorem WB.mono {b c : Int} {s : Nat → Int} (w : WB b s) (hb : b ≤ c) : WB c s := by
  obtain ⟨w0, w1, w2, w3, w4, w5⟩ := w
  exact ⟨by omega, w1, by omega, w3, by omega, fun m hm => ⟨(w5 m hm).1, (w5 m hm).2.1, by have := (w5 m hm).2.2; omega⟩⟩
/-- of all states that are held -/
def AW (b : Int) (h : aH) : Prop := WB b (RC h 178 0) ∧ (∀ u, u < 16 → WB b (RC h 186 (57 * u))) ∧ ∀ u, u < 3 → WB b (RC h 200 (57 * u))
theorem AW.mono {b c : Int} {h : aH} (w : AW b h) (hb : b ≤ c) : AW c h := ⟨w.1.mono hb, fun u hu => (w.2.1 u hu).mono hb, fun u hu => (w.2.2 u hu).mono hb⟩
theorem AW_eq {b : Int} {h h' : aH} (w : AW b h) (e1 : RC h' 178 0 = RC h 178 0) (e2 : ∀ u, u < 16 → RC h' 186 (57 * u) = RC h 186 (57 * u)) (e3 : ∀ u, u < 3 → RC h' 200 (57 * u) = RC h 200 (57 * u)) : AW b h' :=
  ⟨by rw [e1]; exact w.1, fun u hu => by rw [e2 u hu]; exact w.2.1 u hu, fun u hu => by rw [e3 u hu]; exact w.2.2 u hu⟩
def awOk (M : MD) : Bool := (M.all fun q => !(Nat.beq q.1 0 && Nat.beq q.2.1 61)) && (M.all fun q => !(Nat.beq q.1 0 && Nat.beq q.2.1 69)) && (M.all fun q => !(Nat.beq q.1 0 && Nat.beq q.2.1 83))
theorem AW_F {M : MD} {b : Int} {h h' : aH} (hF : FRM gRL M h h') (hm : awOk M = true) (w : AW b h) : AW b h' := by
  simp only [awOk, Bool.and_eq_true] at hm
  exact AW_eq w (RC_F hF (r := 61) rfl hm.1.1 0) (fun u _ => RC_F hF (r := 69) rfl hm.1.2 _) (fun u _ => RC_F hF (r := 83) rfl hm.2 _)
theorem AW.w {b : Int} {h : aH} {a k : Nat} {e : Int} (w : AW b h) (ha : a ≠ 178 ∧ a ≠ 186 ∧ a ≠ 200) : AW b (wI h a k e) :=
  AW_eq w (RC_w fun z => ha.1 z.symm) (fun _ _ => RC_w fun z => ha.2.1 z.symm) (fun _ _ => RC_w fun z => ha.2.2 z.symm)
theorem AW.NB {b : Int} {h : aH} (w : AW b h) : NB b h := by
  refine ⟨?_, fun u hu => ?_, fun u hu => ?_⟩
  · have := w.1.1; rw [RC_0 (by omega)] at this; exact this
  · have := (w.2.1 u hu).1; rw [RC_at (by omega)] at this; exact this
  · have := (w.2.2 u hu).1; rw [RC_at (by omega)] at this; exact this
theorem what_r {sh : List (Nat × Nat)} {h : aH} {a r : Nat} (hG : GD gE gRL sh h) (hr : gRL[a]? = some r) (h61 : eG gE r = eG gE 61) {j : Nat} (hj : j < 12) : -1 ≤ gi h a (6 + 3 * j) ∧ gi h a (6 + 3 * j) ≤ 1 :=
  hG.2.2.1 a r hr _ (by rw [h61]; exact in61 hj) (6 + 3 * j) (Nat.le_refl _) (Nat.le_refl _)
set_option maxRecDepth 4000 in
theorem ctX11_putsByF {SP : CT} (hSP : MONO SP) {sh : List (Nat × Nat)} {h : aH} (hG : GD gE gRL sh h) (hu : 0 ≤ gi h 171 29 ∧ gi h 171 29 ≤ 15) : CLd SP 2 mX11_putsBy [.ref 171] h 0 0 (fun rv h' => rv = none ∧ GD gE gRL sh h' ∧ FRM gRL [(0, 69, 0, 911)] h h' ∧ RC h' 186 (57 * (gi h 171 29).toNat) = RC h 178 0 ∧ ∀ v, v ≠ (gi h 171 29).toNat → RC h' 186 (57 * v) = RC h 186 (57 * v)) := by
  refine x_met _ rfl (Nat.le_of_ble_eq_true rfl) (fun K hK => ?_)
  have hmono := MONO_CLd hSP 1
  obtain ⟨u, hu1, hu2⟩ : ∃ u : Nat, gi h 171 29 = u ∧ u < 16 := ⟨(gi h 171 29).toNat, by omega, by omega⟩
  have loop : ∀ (mz : Nat) (k : Int) (h4 : aH) (ls : List (Nat × Value)), ((57 - k).toNat = mz) → (0 ≤ k ∧ k ≤ 57) → (∀ j : Nat, j < k → gi h4 186 (57 * u + j) = gi h 178 j) → (∀ j : Nat, j < 57 * u ∨ 57 * u + k ≤ j → gi h4 186 j = gi h 186 j) → lk ls 0 = some (.ref 171) → lk ls 1 = some (.int (I k)) → GD gE gRL sh h4 → FRM gRL [(0, 69, 0, 911)] h h4 → K 2 ls [] h4 0 0 := by
    intro mz
    induction mz using Nat.strongRecOn with
    | ind mz ih =>
    intro k h4 ls hm k0 cp ot l0 l1 hG4 hF4
    have ks : gi h4 178 k.toNat = gi h 178 k.toNat := FRM_gi hF4 (r := 61) rfl rfl
    refine x_iload_n 3 hK rfl rfl l1 ?_
    refine x_bipush 5 hK rfl rfl rfl ?_
    refine x_if_icmp_ge 34 8 hK rfl rfl rfl (by omega) (by omega) (fun c3 => ?_) (fun c3 => ?_)
    · exact x_vret hK rfl ⟨rfl, hG4, hF4, by rw [hu1, show ((u : Int)).toNat = u from rfl]; exact RC_ext fun j hj => by rw [Nat.zero_add]; exact cp j (by omega), fun v hv => RC_ext fun j hj => ot _ (by omega)⟩
    · refine x_aload_n 9 hK rfl rfl l0 ?_
      refine x_getR 12 hK rfl rfl (sp_171 (h := h4) hG4) (rf_171_30 (h := h4) hG4) ?_
      refine x_bipush 14 hK rfl rfl rfl ?_
      refine x_aload_n 15 hK rfl rfl l0 ?_
      refine x_getE 18 hK rfl (Or.inl rfl) rfl (sp_171 (h := h4) hG4) (e := (u : Int)) ((FRM_gi hF4 (r := 54) rfl rfl).trans hu1) ?_
      refine x_imul 19 hK rfl rfl ?_
      refine x_iload_n 20 hK rfl rfl l1 ?_
      refine x_iadd 21 hK rfl rfl ?_
      refine x_aload_n 22 hK rfl rfl l0 ?_
      refine x_getR 25 hK rfl rfl (sp_171 (h := h4) hG4) (rf_171_14 (h := h4) hG4) ?_
      refine x_iload_n 26 hK rfl rfl l1 ?_
      have g95 := gi_r h4 178 k.toNat
      refine x_ialoadE 27 hK rfl rfl (sp_178 (h := h4) hG4) (by omega) (by omega) (by omega) (e' := (gi h4 178 k.toNat)) (rfl) ?_
      refine x_iastore 28 hK rfl rfl (sp_186 (h := h4) hG4) (by omega) (by omega) (by omega) ?_
      refine x_iinc 31 hK rfl rfl l1 _ rfl ?_
      refine x_goto 2 hK rfl rfl ?_
      have e1 : ((57 * (u : Int)) + k).toNat = 57 * u + k.toNat := by omega
      rw [e1]
      exact ih _ (by omega) (k + 1) _ _ rfl (by omega) ((fun j hj => if c : j = k.toNat then (by subst c; exact (gi_same (gi_r _ _ _)).trans ks) else (gi_k (by omega) _).trans (cp j (by omega)))) ((fun j hj => (gi_k (by omega) _).trans (ot j (by omega)))) (lk1_n l0 (by decide) (Or.inl rfl)) lk1_s ((cp_in ro69 (r := 69) rfl hG4 u k.toNat hu2 (by omega))) (FRM_wn 0 911 (hF4) (r := 69) rfl rfl rfl (by omega) (by omega))
  refine x_iconst 1 hK rfl rfl ?_
  refine x_istore_n 2 hK rfl rfl [(1, .int (I 0)), (0, .ref 171)] rfl ?_
  exact loop _ 0 _ _ rfl (by omega) ((fun j hj => absurd hj (by omega))) ((fun _ _ => rfl)) rfl rfl (hG) ((FRM.rf : FRM gRL [(0, 69, 0, 911)] h h))
set_option maxRecDepth 4000 in
theorem ctX11_addsF {SP : CT} (hSP : MONO SP) {sh : List (Nat × Nat)} {h : aH} (hG : GD gE gRL sh h) {n : Int} (hu : 0 ≤ gi h 171 29 ∧ gi h 171 29 ≤ 15) : CLd SP 2 mX11_adds [.ref 171, .int (I n)] h 0 0 (fun rv h' => rv = some (.int (I n)) ∧ GD gE gRL sh h' ∧ FRM gRL [(0, 54, 29, 29), (0, 69, 0, 911)] h h' ∧ gi h' 171 29 = min 15 (gi h 171 29 + 1) ∧ (gi h 171 29 < 15 → ∀ v, RC h' 186 (57 * v) = RC h 186 (57 * v)) ∧ (gi h 171 29 = 15 → (∀ v, v < 15 → RC h' 186 (57 * v) = RC h 186 (57 * (v + 1))) ∧ RC h' 186 (57 * 15) = RC h 186 (57 * 15))) := by
  refine x_met _ rfl (Nat.le_of_ble_eq_true rfl) (fun K hK => ?_)
  have hmono := MONO_CLd hSP 1
  have loop : ∀ (mz : Nat) (k : Int) (h4 : aH) (ls : List (Nat × Value)), ((855 - k).toNat = mz) → (0 ≤ k ∧ k ≤ 855) → (gi h 171 29 = 15) → (gi h4 171 29 = 16) → (∀ j : Nat, j < k → gi h4 186 j = gi h 186 (j + 57)) → (∀ j : Nat, k ≤ j → gi h4 186 j = gi h 186 j) → lk ls 0 = some (.ref 171) → lk ls 1 = some (.int (I n)) → lk ls 2 = some (.int (I k)) → GD gE gRL sh h4 → FRM gRL [(0, 54, 29, 29), (0, 69, 0, 911)] h h4 → K 21 ls [] h4 0 0 := by
    intro mz
    induction mz using Nat.strongRecOn with
    | ind mz ih =>
    intro k h4 ls hm k0 u15 u4 cp ot l0 l1 l2 hG4 hF4
    refine x_iload_n 22 hK rfl rfl l2 ?_
    refine x_sipush 25 hK rfl rfl rfl ?_
    refine x_if_icmp_ge 49 28 hK rfl rfl rfl (by omega) (by omega) (fun c3 => ?_) (fun c3 => ?_)
    · refine x_aload_n 50 hK rfl rfl l0 ?_
      refine x_dup 51 hK rfl rfl rfl ?_
      refine x_getE 54 hK rfl (Or.inl rfl) rfl (sp_171 (h := h4) hG4) (e := 16) (u4) ?_
      refine x_iconst 55 hK rfl rfl ?_
      refine x_isub 56 hK rfl rfl ?_
      refine x_putI 59 hK rfl rfl (sp_171 (h := h4) hG4) ?_
      refine x_iload_n 60 hK rfl rfl l1 ?_
      exact x_iret hK rfl ⟨rfl, GD_w1 (hG4) (r := 54) rfl (by omega) rfl (by omega) (by omega), FRM_w (hF4) (r := 54) rfl rfl, by rw [gi_same (by omega)]; omega, fun z => by omega, fun _ => ⟨fun v hv => (RC_w (by decide)).trans (RC_ext fun j hj => by rw [cp _ (by omega), show 57 * v + j + 57 = 57 * (v + 1) + j by omega]), (RC_w (by decide)).trans (RC_ext fun j hj => ot _ (by omega))⟩⟩
    · refine x_aload_n 29 hK rfl rfl l0 ?_
      refine x_getR 32 hK rfl rfl (sp_171 (h := h4) hG4) (rf_171_30 (h := h4) hG4) ?_
      refine x_iload_n 33 hK rfl rfl l2 ?_
      refine x_aload_n 34 hK rfl rfl l0 ?_
      refine x_getR 37 hK rfl rfl (sp_171 (h := h4) hG4) (rf_171_30 (h := h4) hG4) ?_
      refine x_iload_n 38 hK rfl rfl l2 ?_
      refine x_bipush 40 hK rfl rfl rfl ?_
      refine x_iadd 41 hK rfl rfl ?_
      refine x_ialoadE 42 hK rfl rfl (sp_186 (h := h4) hG4) (by omega) (by omega) (by omega) (e' := (gi h4 186 (k.toNat + 57))) ((gi_to (by omega))) ?_
      refine x_iastore 43 hK rfl rfl (sp_186 (h := h4) hG4) (by omega) (by omega) (by omega) ?_
      refine x_iinc 46 hK rfl rfl l2 _ rfl ?_
      refine x_goto 21 hK rfl rfl ?_
      exact ih _ (by omega) (k + 1) _ _ rfl (by omega) (u15) ((gi_a (by decide) _).trans u4) ((fun j hj => if c : j = k.toNat then (by subst c; exact (gi_same (gi_r _ _ _)).trans (ot _ (by omega))) else (gi_k (by omega) _).trans (cp j (by omega)))) ((fun j hj => (gi_k (by omega) _).trans (ot j (by omega)))) (lk1_n l0 (by decide) (Or.inl rfl)) (lk1_n l1 (by decide) (Or.inl rfl)) lk1_s ((cp_sh hG4 k.toNat (by omega))) (FRM_wn 0 911 (hF4) (r := 69) rfl rfl rfl (by omega) (by omega))
  refine x_aload_n 1 hK rfl rfl rfl ?_
  refine x_dup 2 hK rfl rfl rfl ?_
  have g97 := gri (0) (16) hG (a := 171) (r := 54) (k := 29) rfl rfl
  refine x_getE 5 hK rfl (Or.inl rfl) rfl (sp_171 (h := h) hG) (e := (gi h 171 29)) (rfl) ?_
  refine x_iconst 6 hK rfl rfl ?_
  refine x_iadd 7 hK rfl rfl ?_
  refine x_putI 10 hK rfl rfl (sp_171 (h := h) hG) ?_
  refine x_aload_n 11 hK rfl rfl rfl ?_
  refine x_getE 14 hK rfl (Or.inl rfl) rfl (sp_171 (h := h) hG) (e := ((gi h 171 29) + 1)) (gi_same (by omega)) ?_
  refine x_bipush 16 hK rfl rfl rfl ?_
  refine x_if_icmp_le 59 19 hK rfl rfl rfl (by omega) (by omega) (fun c10 => ?_) (fun c10 => ?_)
  · refine x_iload_n 60 hK rfl rfl rfl ?_
    exact x_iret hK rfl ⟨rfl, GD_w1 (hG) (r := 54) rfl (by omega) rfl (by omega) (by omega), FRM_w ((FRM.rf : FRM gRL [(0, 54, 29, 29), (0, 69, 0, 911)] h h)) (r := 54) rfl rfl, by rw [gi_same (by omega)]; omega, fun z v => RC_w (by decide), fun z => by omega⟩
  · refine x_iconst 20 hK rfl rfl ?_
    refine x_istore_n 21 hK rfl rfl [(2, .int (I 0)), (0, .ref 171), (1, .int (I n))] rfl ?_
    exact loop _ 0 _ _ rfl (by omega) (by omega) ((gi_same (by omega)).trans (by omega)) ((fun j hj => absurd hj (by omega))) ((fun _ _ => gi_a (by decide) _)) rfl rfl rfl (GD_w1 (hG) (r := 54) rfl (by omega) rfl (by omega) (by omega)) (FRM_w ((FRM.rf : FRM gRL [(0, 54, 29, 29), (0, 69, 0, 911)] h h)) (r := 54) rfl rfl)
set_option maxRecDepth 4000 in
theorem ctX11_undoF {SP : CT} (hSP : MONO SP) {sh : List (Nat × Nat)} {h : aH} (hG : GD gE gRL sh h) (hu : 0 ≤ gi h 171 29 ∧ gi h 171 29 ≤ 15) : CLd SP 2 mX11_undo [.ref 171] h 0 0 (fun rv h' => ((gi h 171 29 = 0 ∧ rv = some (.int (I (-1))) ∧ RC h' 178 0 = RC h 178 0 ∧ gi h' 171 29 = 0) ∨ (0 < gi h 171 29 ∧ rv = some (.int (I (gi h 171 29 - 1))) ∧ RC h' 178 0 = RC h 186 (57 * (gi h 171 29 - 1).toNat) ∧ gi h' 171 29 = gi h 171 29 - 1)) ∧ GD gE gRL sh h' ∧ FRM gRL [(0, 54, 0, 0), (0, 54, 29, 29), (0, 61, 0, 56)] h h' ∧ gi h' 171 0 = 0) := by
  refine x_met _ rfl (Nat.le_of_ble_eq_true rfl) (fun K hK => ?_)
  have hmono := MONO_CLd hSP 1
  have g29 := gi_r h 171 29
  have loop : ∀ (mz : Nat) (k : Int) (h4 : aH) (ls : List (Nat × Value)), ((57 - k).toNat = mz) → (0 ≤ k ∧ k ≤ 57) → (0 < gi h 171 29) → (gi h4 171 29 = gi h 171 29 - 1) → (gi h4 171 0 = 0) → (∀ j : Nat, j < k → gi h4 178 j = gi h 186 (57 * (gi h 171 29 - 1).toNat + j)) → lk ls 0 = some (.ref 171) → lk ls 1 = some (.int (I k)) → GD gE gRL sh h4 → FRM gRL [(0, 54, 0, 0), (0, 54, 29, 29), (0, 61, 0, 56)] h h4 → K 26 ls [] h4 0 0 := by
    intro mz
    induction mz using Nat.strongRecOn with
    | ind mz ih =>
    intro k h4 ls hm k0 u0 u4 t4 cp l0 l1 hG4 hF4
    obtain ⟨u, hu1, hu2⟩ : ∃ u : Nat, gi h 171 29 - 1 = u ∧ u < 16 := ⟨(gi h 171 29 - 1).toNat, by omega, by omega⟩
    rw [hu1, show ((u : Int)).toNat = u from rfl] at cp
    have ks : gi h4 186 (57 * u + k.toNat) = gi h 186 (57 * u + k.toNat) := FRM_gi hF4 (r := 69) rfl rfl
    refine x_iload_n 27 hK rfl rfl l1 ?_
    refine x_bipush 29 hK rfl rfl rfl ?_
    refine x_if_icmp_ge 58 32 hK rfl rfl rfl (by omega) (by omega) (fun c3 => ?_) (fun c3 => ?_)
    · refine x_aload_n 59 hK rfl rfl l0 ?_
      refine x_getE 62 hK rfl (Or.inl rfl) rfl (sp_171 (h := h4) hG4) (e := (u : Int)) (u4.trans hu1) ?_
      exact x_iret hK rfl ⟨Or.inr ⟨u0, by rw [hu1], by rw [hu1, show ((u : Int)).toNat = u from rfl]; exact RC_ext fun j hj => by rw [Nat.zero_add]; exact cp j (by omega), u4⟩, hG4, hF4, t4⟩
    · refine x_aload_n 33 hK rfl rfl l0 ?_
      refine x_getR 36 hK rfl rfl (sp_171 (h := h4) hG4) (rf_171_14 (h := h4) hG4) ?_
      refine x_iload_n 37 hK rfl rfl l1 ?_
      refine x_aload_n 38 hK rfl rfl l0 ?_
      refine x_getR 41 hK rfl rfl (sp_171 (h := h4) hG4) (rf_171_30 (h := h4) hG4) ?_
      refine x_bipush 43 hK rfl rfl rfl ?_
      refine x_aload_n 44 hK rfl rfl l0 ?_
      refine x_getE 47 hK rfl (Or.inl rfl) rfl (sp_171 (h := h4) hG4) (e := (u : Int)) (u4.trans hu1) ?_
      refine x_imul 48 hK rfl rfl ?_
      refine x_iload_n 49 hK rfl rfl l1 ?_
      refine x_iadd 50 hK rfl rfl ?_
      refine x_ialoadE 51 hK rfl rfl (sp_186 (h := h4) hG4) (by omega) (by omega) (by omega) (e' := (gi h4 186 (57 * u + k.toNat))) ((gi_to (by omega))) ?_
      refine x_iastore 52 hK rfl rfl (sp_178 (h := h4) hG4) (by omega) (by omega) (by omega) ?_
      refine x_iinc 55 hK rfl rfl l1 _ rfl ?_
      refine x_goto 26 hK rfl rfl ?_
      exact ih _ (by omega) (k + 1) _ _ rfl (by omega) (by omega) ((gi_a (by decide) _).trans u4) ((gi_a (by decide) _).trans t4) ((fun j hj => by rw [hu1, show ((u : Int)).toNat = u from rfl]; exact if c : j = k.toNat then (by subst c; exact (gi_same (gi_r _ _ _)).trans ks) else (gi_k (by omega) _).trans (cp j (by omega)))) (lk1_n l0 (by decide) (Or.inl rfl)) lk1_s ((cp_out ri69 (r := 69) rfl hG4 u k.toNat hu2 (by omega))) (FRM_wn 0 56 (hF4) (r := 61) rfl rfl rfl (by omega) (by omega))
  refine x_aload_n 1 hK rfl rfl rfl ?_
  refine x_iconst 2 hK rfl rfl ?_
  refine x_putI 5 hK rfl rfl (sp_171 (h := h) hG) ?_
  refine x_aload_n 6 hK rfl rfl rfl ?_
  have g98 := gri (0) (16) hG (a := 171) (r := 54) (k := 29) rfl rfl
  refine x_getE 9 hK rfl (Or.inl rfl) rfl (sp_171 (h := h) hG) (e := (gi h 171 29)) (gi_k (by decide) _) ?_
  refine x_if_ne 14 12 hK rfl rfl rfl (by omega) (fun c6 => ?_) (fun c6 => ?_)
  · refine x_aload_n 15 hK rfl rfl rfl ?_
    refine x_dup 16 hK rfl rfl rfl ?_
    refine x_getE 19 hK rfl (Or.inl rfl) rfl (sp_171 (h := h) hG) (e := (gi h 171 29)) (gi_k (by decide) _) ?_
    refine x_iconst 20 hK rfl rfl ?_
    refine x_isub 21 hK rfl rfl ?_
    refine x_putI 24 hK rfl rfl (sp_171 (h := h) hG) ?_
    refine x_iconst 25 hK rfl rfl ?_
    refine x_istore_n 26 hK rfl rfl [(1, .int (I 0)), (0, .ref 171)] rfl ?_
    exact loop _ 0 _ _ rfl (by omega) (by omega) (gi_same (by omega)) ((gi_k (by decide) _).trans (gi_same (by omega))) ((fun j hj => absurd hj (by omega))) rfl rfl (GD_w1 (GD_w1 (hG) (r := 54) rfl (by omega) rfl (by omega) (by omega)) (r := 54) rfl (by omega) rfl (by omega) (by omega)) (FRM_w (FRM_w ((FRM.rf : FRM gRL [(0, 54, 0, 0), (0, 54, 29, 29), (0, 61, 0, 56)] h h)) (r := 54) rfl rfl) (r := 54) rfl rfl)
  · refine x_iconst 13 hK rfl rfl ?_
    exact x_iret hK rfl ⟨Or.inl ⟨by omega, rfl, RC_w (by decide), (gi_k (by decide) _).trans (by omega)⟩, GD_w1 (hG) (r := 54) rfl (by omega) rfl (by omega) (by omega), FRM_w ((FRM.rf : FRM gRL [(0, 54, 0, 0), (0, 54, 29, 29), (0, 61, 0, 56)] h h)) (r := 54) rfl rfl, gi_same (by omega)⟩
set_option maxRecDepth 4000 in
theorem ctX11_keepF {SP : CT} (hSP : MONO SP) {sh : List (Nat × Nat)} {h : aH} (hG : GD gE gRL sh h) {n : Int} (hn : r32 n) : CLd SP 4 mX11_keep [.ref 171, .int (I n)] h 0 0 (fun rv h' => (((0 ≤ n ∧ n ≤ 2) ∧ rv = some (.int (I 1)) ∧ RC h' 200 (57 * n.toNat) = RC h 178 0 ∧ gi h' 198 n.toNat = 1 ∧ gi h' 199 n.toNat = gi h 171 8 ∧ ∀ v, v ≠ n.toNat → RC h' 200 (57 * v) = RC h 200 (57 * v) ∧ gi h' 198 v = gi h 198 v ∧ gi h' 199 v = gi h 199 v) ∨ (¬ (0 ≤ n ∧ n ≤ 2) ∧ rv = some (.int (I 0)) ∧ ∀ v, RC h' 200 (57 * v) = RC h 200 (57 * v) ∧ gi h' 198 v = gi h 198 v ∧ gi h' 199 v = gi h 199 v)) ∧ GD gE gRL sh h' ∧ FRM gRL [(0, 54, 0, 0), (0, 81, 0, 2), (0, 82, 0, 2), (0, 83, 0, 170)] h h' ∧ gi h' 171 0 = 0) := by
  refine x_met _ rfl (Nat.le_of_ble_eq_true rfl) (fun K hK => ?_)
  have hmono := MONO_CLd hSP 3
  have loop : ∀ (mz : Nat) (k : Int) (h4 : aH) (ls : List (Nat × Value)), ((57 - k).toNat = mz) → (0 ≤ k ∧ k ≤ 57) → (0 ≤ n ∧ n ≤ 2) → (gi h4 171 0 = 0) → (gi h4 198 n.toNat = 1) → (gi h4 199 n.toNat = gi h 171 8) → (∀ v, v ≠ n.toNat → gi h4 198 v = gi h 198 v ∧ gi h4 199 v = gi h 199 v) → (∀ j : Nat, j < k → gi h4 200 (57 * n.toNat + j) = gi h 178 j) → (∀ j : Nat, j < 57 * n.toNat ∨ 57 * n.toNat + k ≤ j → gi h4 200 j = gi h 200 j) → lk ls 0 = some (.ref 171) → lk ls 1 = some (.int (I n)) → lk ls 2 = some (.int (I k)) → GD gE gRL sh h4 → FRM gRL [(0, 54, 0, 0), (0, 81, 0, 2), (0, 82, 0, 2), (0, 83, 0, 170)] h h4 → K 38 ls [] h4 0 0 := by
    intro mz
    induction mz using Nat.strongRecOn with
    | ind mz ih =>
    intro k h4 ls hm k0 n0 t4 a4 b4 f4 cp ot l0 l1 l2 hG4 hF4
    have ks : gi h4 178 k.toNat = gi h 178 k.toNat := FRM_gi hF4 (r := 61) rfl rfl
    refine x_iload_n 39 hK rfl rfl l2 ?_
    refine x_bipush 41 hK rfl rfl rfl ?_
    refine x_if_icmp_ge 67 44 hK rfl rfl rfl (by omega) (by omega) (fun c3 => ?_) (fun c3 => ?_)
    · refine x_iconst 68 hK rfl rfl ?_
      exact x_zret hK rfl (by omega) ⟨Or.inl ⟨n0, rfl, RC_ext fun j hj => by rw [Nat.zero_add]; exact cp j (by omega), a4, b4, fun v hv => ⟨RC_ext fun j hj => ot _ (by omega), f4 v hv⟩⟩, hG4, hF4, t4⟩
    · refine x_aload_n 45 hK rfl rfl l0 ?_
      refine x_getR 48 hK rfl rfl (sp_171 (h := h4) hG4) (rf_171_52 (h := h4) hG4) ?_
      refine x_bipush 50 hK rfl rfl rfl ?_
      refine x_iload_n 51 hK rfl rfl l1 ?_
      refine x_imul 52 hK rfl rfl ?_
      refine x_iload_n 53 hK rfl rfl l2 ?_
      refine x_iadd 54 hK rfl rfl ?_
      refine x_aload_n 55 hK rfl rfl l0 ?_
      refine x_getR 58 hK rfl rfl (sp_171 (h := h4) hG4) (rf_171_14 (h := h4) hG4) ?_
      refine x_iload_n 59 hK rfl rfl l2 ?_
      have g99 := gi_r h4 178 k.toNat
      refine x_ialoadE 60 hK rfl rfl (sp_178 (h := h4) hG4) (by omega) (by omega) (by omega) (e' := (gi h4 178 k.toNat)) (rfl) ?_
      refine x_iastore 61 hK rfl rfl (sp_200 (h := h4) hG4) (by omega) (by omega) (by omega) ?_
      refine x_iinc 64 hK rfl rfl l2 _ rfl ?_
      refine x_goto 38 hK rfl rfl ?_
      have e1 : ((57 * n) + k).toNat = 57 * n.toNat + k.toNat := by omega
      rw [e1]
      exact ih _ (by omega) (k + 1) _ _ rfl (by omega) (by omega) ((gi_a (by decide) _).trans t4) ((gi_a (by decide) _).trans a4) ((gi_a (by decide) _).trans b4) ((fun v hv => ⟨(gi_a (by decide) _).trans (f4 v hv).1, (gi_a (by decide) _).trans (f4 v hv).2⟩)) ((fun j hj => if c : j = k.toNat then (by subst c; exact (gi_same (gi_r _ _ _)).trans ks) else (gi_k (by omega) _).trans (cp j (by omega)))) ((fun j hj => (gi_k (by omega) _).trans (ot j (by omega)))) (lk1_n l0 (by decide) (Or.inl rfl)) (lk1_n l1 (by decide) (Or.inl rfl)) lk1_s ((cp_in ro83 (r := 83) rfl hG4 n.toNat k.toNat (by omega) (by omega))) (FRM_wn 0 170 (hF4) (r := 83) rfl rfl rfl (by omega) (by omega))
  refine x_aload_n 1 hK rfl rfl rfl ?_
  refine x_iconst 2 hK rfl rfl ?_
  refine x_putI 5 hK rfl rfl (sp_171 (h := h) hG) ?_
  refine x_iload_n 6 hK rfl rfl rfl ?_
  refine x_i2l 7 hK rfl rfl (by omega) ?_
  refine x_lconstE 8 0 hK rfl rfl rfl ?_
  refine x_ldc2_w 11 hK rfl rfl ?_
  have hGp100 : GD gE gRL sh (wI h 171 0 0) := GD_w1 (hG) (r := 54) rfl (by omega) rfl (by omega) (by omega)
  refine x_callS 14 hK hmono rfl (Or.inl rfl) rfl [.long (J n), .long (J 0), .long (J 2)] [] rfl rfl (Nat.le_of_ble_eq_true rfl) (Nat.le_of_ble_eq_true rfl) (CLd_le (Nat.le_of_ble_eq_true rfl) (ctX11_in (by omega) (by omega) (by omega))) ?_
  rintro v9 h9 ⟨e9, ⟨rfl, i1101, i2101⟩ | ⟨rfl, i1101⟩⟩ <;> rw [e9] <;> clear e9
  · refine x_if_ne 19 17 hK rfl rfl rfl (by omega) (fun _ => ?_) (fun c => by omega)
    refine x_aload_n 20 hK rfl rfl rfl ?_
    refine x_getR 23 hK rfl rfl (sp_171 (h := h) hG) (rf_171_50 (h := h) hG) ?_
    refine x_iload_n 24 hK rfl rfl rfl ?_
    refine x_iconst 25 hK rfl rfl ?_
    refine x_bastore 26 hK rfl rfl (sp_198 (h := h) hG) (by omega) (by omega) (by omega) (by omega) ?_
    refine x_aload_n 27 hK rfl rfl rfl ?_
    refine x_getR 30 hK rfl rfl (sp_171 (h := h) hG) (rf_171_51 (h := h) hG) ?_
    refine x_iload_n 31 hK rfl rfl rfl ?_
    refine x_aload_n 32 hK rfl rfl rfl ?_
    have g102 := gi_r h 171 8
    refine x_getE 35 hK rfl (Or.inl rfl) rfl (sp_171 (h := h) hG) (e := (gi h 171 8)) ((gi_a (by decide) _).trans (gi_k (by decide) _)) ?_
    refine x_iastore 36 hK rfl rfl (sp_199 (h := h) hG) (by omega) (by omega) (by omega) ?_
    refine x_iconst 37 hK rfl rfl ?_
    refine x_istore_n 38 hK rfl rfl [(2, .int (I 0)), (0, .ref 171), (1, .int (I n))] rfl ?_
    exact loop _ 0 _ _ rfl (by omega) (by omega) ((gi_a (by decide) _).trans ((gi_a (by decide) _).trans (gi_same (by omega)))) ((gi_a (by decide) _).trans (gi_same (by omega))) (gi_same (by omega)) ((fun v hv => ⟨(gi_a (by decide) _).trans ((gi_k hv _).trans (gi_a (by decide) _)), (gi_k hv _).trans ((gi_a (by decide) _).trans (gi_a (by decide) _))⟩)) ((fun j hj => absurd hj (by omega))) ((fun j _ => (gi_a (by decide) _).trans ((gi_a (by decide) _).trans (gi_a (by decide) _)))) rfl rfl rfl (GD_wn (GD_wu (GD_w1 (hG) (r := 54) rfl (by omega) rfl (by omega) (by omega)) (r := 81) rfl (by omega) rfl (by omega) (by omega)) (r := 82) rfl rfl) (FRM_wn 0 2 (FRM_wn 0 2 (FRM_w ((FRM.rf : FRM gRL [(0, 54, 0, 0), (0, 81, 0, 2), (0, 82, 0, 2), (0, 83, 0, 170)] h h)) (r := 54) rfl rfl) (r := 81) rfl rfl rfl (by omega) (by omega)) (r := 82) rfl rfl rfl (by omega) (by omega))
  · refine x_if_ne 19 17 hK rfl rfl rfl (by omega) (fun c => by omega) (fun _ => ?_)
    refine x_iconst 18 hK rfl rfl ?_
    exact x_zret hK rfl (by omega) ⟨Or.inr ⟨by omega, rfl, fun v => ⟨RC_w (by decide), gi_a (by decide) _, gi_a (by decide) _⟩⟩, GD_w1 (hG) (r := 54) rfl (by omega) rfl (by omega) (by omega), FRM_w ((FRM.rf : FRM gRL [(0, 54, 0, 0), (0, 81, 0, 2), (0, 82, 0, 2), (0, 83, 0, 170)] h h)) (r := 54) rfl rfl, gi_same (by omega)⟩
set_option maxRecDepth 4000 in
theorem ctX11_againF {SP : CT} (hSP : MONO SP) {sh : List (Nat × Nat)} {h : aH} (hG : GD gE gRL sh h) {n : Int} (hn : r32 n) : CLd SP 4 mX11_again [.ref 171, .int (I n)] h 0 0 (fun rv h' => ((((0 ≤ n ∧ n ≤ 2) ∧ gi h 198 n.toNat = 1 ∧ gi h 199 n.toNat = gi h 171 8) ∧ rv = some (.int (I 1)) ∧ RC h' 178 0 = RC h 200 (57 * n.toNat) ∧ gi h' 171 29 = 0) ∨ (¬ ((0 ≤ n ∧ n ≤ 2) ∧ gi h 198 n.toNat = 1 ∧ gi h 199 n.toNat = gi h 171 8) ∧ rv = some (.int (I 0)) ∧ RC h' 178 0 = RC h 178 0 ∧ gi h' 171 29 = gi h 171 29)) ∧ GD gE gRL sh h' ∧ FRM gRL [(0, 54, 0, 0), (0, 54, 29, 29), (0, 61, 0, 56)] h h' ∧ gi h' 171 0 = 0) := by
  refine x_met _ rfl (Nat.le_of_ble_eq_true rfl) (fun K hK => ?_)
  have hmono := MONO_CLd hSP 3
  have loop : ∀ (mz : Nat) (k : Int) (h4 : aH) (ls : List (Nat × Value)), ((57 - k).toNat = mz) → (0 ≤ k ∧ k ≤ 57) → ((0 ≤ n ∧ n ≤ 2) ∧ gi h 198 n.toNat = 1 ∧ gi h 199 n.toNat = gi h 171 8) → (gi h4 171 0 = 0) → (∀ j : Nat, j < k → gi h4 178 j = gi h 200 (57 * n.toNat + j)) → lk ls 0 = some (.ref 171) → lk ls 1 = some (.int (I n)) → lk ls 2 = some (.int (I k)) → GD gE gRL sh h4 → FRM gRL [(0, 54, 0, 0), (0, 54, 29, 29), (0, 61, 0, 56)] h h4 → K 43 ls [] h4 0 0 := by
    intro mz
    induction mz using Nat.strongRecOn with
    | ind mz ih =>
    intro k h4 ls hm k0 ok t4 cp l0 l1 l2 hG4 hF4
    have n0 := ok.1
    have ks : gi h4 200 (57 * n.toNat + k.toNat) = gi h 200 (57 * n.toNat + k.toNat) := FRM_gi hF4 (r := 83) rfl rfl
    refine x_iload_n 44 hK rfl rfl l2 ?_
    refine x_bipush 46 hK rfl rfl rfl ?_
    refine x_if_icmp_ge 72 49 hK rfl rfl rfl (by omega) (by omega) (fun c3 => ?_) (fun c3 => ?_)
    · refine x_aload_n 73 hK rfl rfl l0 ?_
      refine x_iconst 74 hK rfl rfl ?_
      refine x_putI 77 hK rfl rfl (sp_171 (h := h4) hG4) ?_
      refine x_iconst 78 hK rfl rfl ?_
      exact x_zret hK rfl (by omega) ⟨Or.inl ⟨ok, rfl, (RC_w (by decide)).trans (RC_ext fun j hj => by rw [Nat.zero_add]; exact cp j (by omega)), gi_same (by omega)⟩, GD_w1 (hG4) (r := 54) rfl (by omega) rfl (by omega) (by omega), FRM_w (hF4) (r := 54) rfl rfl, (gi_k (by decide) _).trans t4⟩
    · refine x_aload_n 50 hK rfl rfl l0 ?_
      refine x_getR 53 hK rfl rfl (sp_171 (h := h4) hG4) (rf_171_14 (h := h4) hG4) ?_
      refine x_iload_n 54 hK rfl rfl l2 ?_
      refine x_aload_n 55 hK rfl rfl l0 ?_
      refine x_getR 58 hK rfl rfl (sp_171 (h := h4) hG4) (rf_171_52 (h := h4) hG4) ?_
      refine x_bipush 60 hK rfl rfl rfl ?_
      refine x_iload_n 61 hK rfl rfl l1 ?_
      refine x_imul 62 hK rfl rfl ?_
      refine x_iload_n 63 hK rfl rfl l2 ?_
      refine x_iadd 64 hK rfl rfl ?_
      refine x_ialoadE 65 hK rfl rfl (sp_200 (h := h4) hG4) (by omega) (by omega) (by omega) (e' := (gi h4 200 (57 * n.toNat + k.toNat))) ((gi_to (by omega))) ?_
      refine x_iastore 66 hK rfl rfl (sp_178 (h := h4) hG4) (by omega) (by omega) (by omega) ?_
      refine x_iinc 69 hK rfl rfl l2 _ rfl ?_
      refine x_goto 43 hK rfl rfl ?_
      exact ih _ (by omega) (k + 1) _ _ rfl (by omega) (ok) ((gi_a (by decide) _).trans t4) ((fun j hj => if c : j = k.toNat then (by subst c; exact (gi_same (gi_r _ _ _)).trans ks) else (gi_k (by omega) _).trans (cp j (by omega)))) (lk1_n l0 (by decide) (Or.inl rfl)) (lk1_n l1 (by decide) (Or.inl rfl)) lk1_s ((cp_out ri83 (r := 83) rfl hG4 n.toNat k.toNat (by omega) (by omega))) (FRM_wn 0 56 (hF4) (r := 61) rfl rfl rfl (by omega) (by omega))
  refine x_aload_n 1 hK rfl rfl rfl ?_
  refine x_iconst 2 hK rfl rfl ?_
  refine x_putI 5 hK rfl rfl (sp_171 (h := h) hG) ?_
  refine x_iload_n 6 hK rfl rfl rfl ?_
  refine x_i2l 7 hK rfl rfl (by omega) ?_
  refine x_lconstE 8 0 hK rfl rfl rfl ?_
  refine x_ldc2_w 11 hK rfl rfl ?_
  have hGp103 : GD gE gRL sh (wI h 171 0 0) := GD_w1 (hG) (r := 54) rfl (by omega) rfl (by omega) (by omega)
  refine x_callS 14 hK hmono rfl (Or.inl rfl) rfl [.long (J n), .long (J 0), .long (J 2)] [] rfl rfl (Nat.le_of_ble_eq_true rfl) (Nat.le_of_ble_eq_true rfl) (CLd_le (Nat.le_of_ble_eq_true rfl) (ctX11_in (by omega) (by omega) (by omega))) ?_
  rintro v9 h9 ⟨e9, ⟨rfl, i1104, i2104⟩ | ⟨rfl, i1104⟩⟩ <;> rw [e9] <;> clear e9
  · refine x_if_eq 39 17 hK rfl rfl rfl (by omega) (fun c => by omega) (fun _ => ?_)
    refine x_aload_n 18 hK rfl rfl rfl ?_
    refine x_getR 21 hK rfl rfl (sp_171 (h := h) hG) (rf_171_50 (h := h) hG) ?_
    refine x_iload_n 22 hK rfl rfl rfl ?_
    have g105 := grn (0) (1) hG (a := 198) (r := 81) (k := n.toNat) rfl rfl (by omega)
    refine x_baloadE 23 hK rfl rfl (sp_198 (h := h) hG) (by omega) (by omega) (by omega) (e' := (gi h 198 n.toNat)) (gi_a (by decide) _) ?_
    refine x_if_eq 39 26 hK rfl rfl rfl (by omega) (fun c14 => ?_) (fun c14 => ?_)
    · refine x_iconst 40 hK rfl rfl ?_
      exact x_zret hK rfl (by omega) ⟨Or.inr ⟨by omega, rfl, RC_w (by decide), gi_k (by decide) _⟩, GD_w1 (hG) (r := 54) rfl (by omega) rfl (by omega) (by omega), FRM_w ((FRM.rf : FRM gRL [(0, 54, 0, 0), (0, 54, 29, 29), (0, 61, 0, 56)] h h)) (r := 54) rfl rfl, gi_same (by omega)⟩
    · refine x_aload_n 27 hK rfl rfl rfl ?_
      refine x_getR 30 hK rfl rfl (sp_171 (h := h) hG) (rf_171_51 (h := h) hG) ?_
      refine x_iload_n 31 hK rfl rfl rfl ?_
      have g106 := gi_r h 199 n.toNat
      refine x_ialoadE 32 hK rfl rfl (sp_199 (h := h) hG) (by omega) (by omega) (by omega) (e' := (gi h 199 n.toNat)) (gi_a (by decide) _) ?_
      refine x_aload_n 33 hK rfl rfl rfl ?_
      have g107 := gi_r h 171 8
      refine x_getE 36 hK rfl (Or.inl rfl) rfl (sp_171 (h := h) hG) (e := (gi h 171 8)) (gi_k (by decide) _) ?_
      refine x_if_icmp_eq 41 39 hK rfl rfl rfl (by omega) (by omega) (fun c23 => ?_) (fun c23 => ?_)
      · refine x_iconst 42 hK rfl rfl ?_
        refine x_istore_n 43 hK rfl rfl [(2, .int (I 0)), (0, .ref 171), (1, .int (I n))] rfl ?_
        exact loop _ 0 _ _ rfl (by omega) (⟨by omega, by omega, by omega⟩) (gi_same (by omega)) ((fun j hj => absurd hj (by omega))) rfl rfl rfl (GD_w1 (hG) (r := 54) rfl (by omega) rfl (by omega) (by omega)) (FRM_w ((FRM.rf : FRM gRL [(0, 54, 0, 0), (0, 54, 29, 29), (0, 61, 0, 56)] h h)) (r := 54) rfl rfl)
      · refine x_iconst 40 hK rfl rfl ?_
        exact x_zret hK rfl (by omega) ⟨Or.inr ⟨by omega, rfl, RC_w (by decide), gi_k (by decide) _⟩, GD_w1 (hG) (r := 54) rfl (by omega) rfl (by omega) (by omega), FRM_w ((FRM.rf : FRM gRL [(0, 54, 0, 0), (0, 54, 29, 29), (0, 61, 0, 56)] h h)) (r := 54) rfl rfl, gi_same (by omega)⟩
  · refine x_if_eq 39 17 hK rfl rfl rfl (by omega) (fun _ => ?_) (fun c => by omega)
    refine x_iconst 40 hK rfl rfl ?_
    exact x_zret hK rfl (by omega) ⟨Or.inr ⟨by omega, rfl, RC_w (by decide), gi_k (by decide) _⟩, GD_w1 (hG) (r := 54) rfl (by omega) rfl (by omega) (by omega), FRM_w ((FRM.rf : FRM gRL [(0, 54, 0, 0), (0, 54, 29, 29), (0, 61, 0, 56)] h h)) (r := 54) rfl rfl, gi_same (by omega)⟩
