/-! COPIES: the object's state put by, brought back, kept; how late she can be (NB) -/
/-- the number of the step, in the state and in what is put by, is at most b -/
def NB (b : Int) (h : aH) : Prop := (0 ≤ gi h 178 0 ∧ gi h 178 0 ≤ b) ∧ (∀ u : Nat, u < 16 → 0 ≤ gi h 186 (57 * u) ∧ gi h 186 (57 * u) ≤ b) ∧ ∀ u : Nat, u < 3 → 0 ≤ gi h 200 (57 * u) ∧ gi h 200 (57 * u) ≤ b
theorem NB.mono {b c : Int} {h : aH} (hb : b ≤ c) (n : NB b h) : NB c h := ⟨⟨n.1.1, by have := n.1.2; omega⟩, fun u hu => ⟨(n.2.1 u hu).1, by have := (n.2.1 u hu).2; omega⟩, fun u hu => ⟨(n.2.2 u hu).1, by have := (n.2.2 u hu).2; omega⟩⟩
/-- what is elsewhere doesn't matter -/
theorem NB.w {b : Int} {h : aH} {a k : Nat} {e : Int} (n : NB b h) (ha : a ≠ 178 ∧ a ≠ 186 ∧ a ≠ 200) : NB b (wI h a k e) := by
  refine ⟨?_, fun u hu => ?_, fun u hu => ?_⟩
  · rw [gi_a (fun q => ha.1 q.symm)]; exact n.1
  · rw [gi_a (fun q => ha.2.1 q.symm)]; exact n.2.1 u hu
  · rw [gi_a (fun q => ha.2.2 q.symm)]; exact n.2.2 u hu
/-- what is said of the rows that are put by (69, 83) is what is said of the state (61), row by row -/
def rowsOf (n r : Nat) : Bool := (eG gE r).all fun q => Nat.beq q.1 q.2.1 && (List.range n).any fun u => (eG gE 61).any fun s => Nat.beq s.1 s.2.1 && Nat.beq q.1 (57 * u + s.1) && decide (q.2.2 = s.2.2)
def rowsIn (n r : Nat) : Bool := (eG gE 61).all fun s => Nat.beq s.1 s.2.1 && Nat.blt s.1 57 && (List.range n).all fun u => decide ((57 * u + s.1, 57 * u + s.1, s.2.2) ∈ eG gE r)
theorem rowsOf_ok {n r : Nat} (h : rowsOf n r = true) {q : Nat × Nat × Int × Int} (hq : q ∈ eG gE r) : q.1 = q.2.1 ∧ ∃ u, u < n ∧ ∃ s ∈ eG gE 61, q.1 = 57 * u + s.1 ∧ q.2.2 = s.2.2 ∧ s.1 = s.2.1 := by
  have z := List.all_eq_true.mp h q hq
  rw [Bool.and_eq_true] at z
  obtain ⟨u, hu, z2⟩ := List.any_eq_true.mp z.2
  obtain ⟨s, hs, z3⟩ := List.any_eq_true.mp z2
  simp only [Bool.and_eq_true, Nat.beq_eq, decide_eq_true_eq] at z3
  exact ⟨Nat.beq_eq.mp z.1, u, List.mem_range.mp hu, s, hs, z3.1.2, z3.2, z3.1.1⟩
theorem rowsIn_ok {n r : Nat} (h : rowsIn n r = true) {s : Nat × Nat × Int × Int} (hs : s ∈ eG gE 61) : s.1 = s.2.1 ∧ s.1 < 57 ∧ ∀ u, u < n → (57 * u + s.1, 57 * u + s.1, s.2.2) ∈ eG gE r := by
  have z := List.all_eq_true.mp h s hs
  simp only [Bool.and_eq_true, Nat.beq_eq] at z
  refine ⟨z.1.1, bt z.1.2, fun u hu => ?_⟩
  have := List.all_eq_true.mp z.2 u (List.mem_range.mpr hu)
  exact of_decide_eq_true this
theorem ro69 : rowsOf 16 69 = true := by decide +kernel
theorem ri69 : rowsIn 16 69 = true := by decide +kernel
theorem ro83 : rowsOf 3 83 = true := by decide +kernel
theorem ri83 : rowsIn 3 83 = true := by decide +kernel
theorem e6162 : eG gE 62 = eG gE 61 := rfl
section CPY
variable {sh : List (Nat × Nat)} {h : aH}
/-- a place of the state is copied into a row -/
theorem cp_in {r a n : Nat} (hro : rowsOf n r = true) (hr : gRL[a]? = some r) (hG : GD gE gRL sh h) (u k : Nat) (hu : u < n) (hk : k < 57) : GD gE gRL sh (wI h a (57 * u + k) (gi h 178 k)) := by
  refine GD_w hG hr (gi_r _ _ _) fun q hq h1 h2 => ?_
  obtain ⟨e1, v, hv, s, hs, e2, e3, e4⟩ := rowsOf_ok hro hq
  obtain ⟨-, s57, -⟩ := rowsIn_ok ri69 hs
  have : k = s.1 := by omega
  rw [e3, this]
  exact hG.2.2.1 178 61 rfl s hs s.1 (Nat.le_refl _) (by omega)
/-- and back -/
theorem cp_out {r a n : Nat} (hri : rowsIn n r = true) (hr : gRL[a]? = some r) (hG : GD gE gRL sh h) (u k : Nat) (hu : u < n) (hk : k < 57) : GD gE gRL sh (wI h 178 k (gi h a (57 * u + k))) := by
  refine GD_w hG (r := 61) rfl (gi_r _ _ _) fun s hs h1 h2 => ?_
  obtain ⟨e1, s57, hin⟩ := rowsIn_ok hri hs
  have : k = s.1 := by omega
  rw [this]
  exact hG.2.2.1 a r hr _ (hin u hu) (57 * u + s.1) (Nat.le_refl _) (Nat.le_refl _)
theorem cp_then (hG : GD gE gRL sh h) (k : Nat) (hk : k < 57) : GD gE gRL sh (wI h 179 k (gi h 178 k)) := by
  refine GD_w hG (r := 62) rfl (gi_r _ _ _) fun s hs h1 h2 => ?_
  rw [e6162] at hs
  exact hG.2.2.1 178 61 rfl s hs k h1 h2
theorem cp_sh (hG : GD gE gRL sh h) (k : Nat) (hk : k < 855) : GD gE gRL sh (wI h 186 k (gi h 186 (k + 57))) := by
  refine GD_w hG (r := 69) rfl (gi_r _ _ _) fun q hq h1 h2 => ?_
  obtain ⟨e1, v, hv, s, hs, e2, e3, e4⟩ := rowsOf_ok ro69 hq
  obtain ⟨-, s57, hin⟩ := rowsIn_ok ri69 hs
  have z := hG.2.2.1 186 69 rfl _ (hin (v + 1) (by omega)) (k + 57) (by show 57 * (v + 1) + s.1 ≤ _; omega) (by show _ ≤ 57 * (v + 1) + s.1; omega)
  rw [e3]
  exact z
theorem nb_in {b : Int} (n : NB b h) (u k : Nat) (hk : k < 57) : NB b (wI h 186 (57 * u + k) (gi h 178 k)) := by
  refine ⟨?_, fun v hv => ?_, fun v hv => ?_⟩
  · rw [gi_a (by decide)]; exact n.1
  · by_cases e : 57 * v = 57 * u + k
    · rw [e, gi_same (gi_r _ _ _), show k = 0 by omega]; exact n.1
    · rw [gi_k e]; exact n.2.1 v hv
  · rw [gi_a (by decide)]; exact n.2.2 v hv
theorem nb_inK {b : Int} (n : NB b h) (u k : Nat) (hk : k < 57) : NB b (wI h 200 (57 * u + k) (gi h 178 k)) := by
  refine ⟨?_, fun v hv => ?_, fun v hv => ?_⟩
  · rw [gi_a (by decide)]; exact n.1
  · rw [gi_a (by decide)]; exact n.2.1 v hv
  · by_cases e : 57 * v = 57 * u + k
    · rw [e, gi_same (gi_r _ _ _), show k = 0 by omega]; exact n.1
    · rw [gi_k e]; exact n.2.2 v hv
theorem nb_out {b : Int} (n : NB b h) (u k : Nat) (hu : u < 16) (hk : k < 57) : NB b (wI h 178 k (gi h 186 (57 * u + k))) := by
  refine ⟨?_, fun v hv => ?_, fun v hv => ?_⟩
  · by_cases e : 0 = k
    · rw [← e, gi_same (gi_r _ _ _)]; exact n.2.1 u hu
    · rw [gi_k e]; exact n.1
  · rw [gi_a (by decide)]; exact n.2.1 v hv
  · rw [gi_a (by decide)]; exact n.2.2 v hv
theorem nb_outK {b : Int} (n : NB b h) (u k : Nat) (hu : u < 3) (hk : k < 57) : NB b (wI h 178 k (gi h 200 (57 * u + k))) := by
  refine ⟨?_, fun v hv => ?_, fun v hv => ?_⟩
  · by_cases e : 0 = k
    · rw [← e, gi_same (gi_r _ _ _)]; exact n.2.2 u hu
    · rw [gi_k e]; exact n.1
  · rw [gi_a (by decide)]; exact n.2.1 v hv
  · rw [gi_a (by decide)]; exact n.2.2 v hv
theorem nb_sh {b : Int} (n : NB b h) (k : Nat) (hk : k < 855) : NB b (wI h 186 k (gi h 186 (k + 57))) := by
  refine ⟨?_, fun v hv => ?_, fun v hv => ?_⟩
  · rw [gi_a (by decide)]; exact n.1
  · by_cases e : 57 * v = k
    · rw [e, gi_same (gi_r _ _ _), show k + 57 = 57 * (v + 1) by omega]; exact n.2.1 (v + 1) (by omega)
    · rw [gi_k e]; exact n.2.1 v hv
  · rw [gi_a (by decide)]; exact n.2.2 v hv
end CPY
theorem ctX11_putsBy {SP : CT} (hSP : MONO SP) {sh : List (Nat × Nat)} {h : aH} (hG : GD gE gRL sh h) (hu : 0 ≤ gi h 171 29 ∧ gi h 171 29 ≤ 15) : CLd SP 2 mX11_putsBy [.ref 171] h 0 0 (fun rv h' => rv = none ∧ GD gE gRL sh h' ∧ FRM gRL [(0, 69, 0, 911)] h h' ∧ ∀ b, NB b h → NB b h') := by
  refine x_met _ rfl (Nat.le_of_ble_eq_true rfl) (fun K hK => ?_)
  have hmono := MONO_CLd hSP 1
  obtain ⟨u, hu1, hu2⟩ : ∃ u : Nat, gi h 171 29 = u ∧ u < 16 := ⟨(gi h 171 29).toNat, by omega, by omega⟩
  have loop : ∀ (m : Nat) (k : Int) (h1 : aH), ((57 - k).toNat = m) → 0 ≤ k → k ≤ 57 → GD gE gRL sh h1 → FRM gRL [(0, 69, 0, 911)] h h1 ∧ (∀ b, NB b h → NB b h1) → K 2 [(1, .int (I k)), (0, .ref 171)] [] h1 0 0 := by
    intro m
    induction m using Nat.strongRecOn with
    | ind m ih =>
    intro k h1 hm h0 hk hG1 hI
    obtain ⟨hF, hN⟩ := hI
    have hu3 : gi h1 171 29 = u := (FRM_gi hF (r := 54) rfl rfl).trans hu1
    refine x_iload_n 3 hK rfl rfl rfl ?_
    refine x_bipush 5 hK rfl rfl rfl ?_
    refine x_if_icmp_ge 34 8 hK rfl rfl rfl (by omega) (by omega) (fun c3 => ?_) (fun c3 => ?_)
    · exact x_vret hK rfl ⟨rfl, hG1, hF, hN⟩
    · refine x_aload_n 9 hK rfl rfl rfl ?_
      refine x_getR 12 hK rfl rfl (sp_171 (h := h1) hG1) (rf_171_30 (h := h1) hG1) ?_
      refine x_bipush 14 hK rfl rfl rfl ?_
      refine x_aload_n 15 hK rfl rfl rfl ?_
      refine x_getE 18 hK rfl (Or.inl rfl) rfl (sp_171 (h := h1) hG1) (e := (u : Int)) (hu3) ?_
      refine x_imul 19 hK rfl rfl ?_
      refine x_iload_n 20 hK rfl rfl rfl ?_
      refine x_iadd 21 hK rfl rfl ?_
      refine x_aload_n 22 hK rfl rfl rfl ?_
      refine x_getR 25 hK rfl rfl (sp_171 (h := h1) hG1) (rf_171_14 (h := h1) hG1) ?_
      refine x_iload_n 26 hK rfl rfl rfl ?_
      refine x_ialoadE 27 hK rfl rfl (sp_178 (h := h1) hG1) (by omega) (by omega) (by omega) (e' := (gi h1 178 k.toNat)) (rfl) ?_
      refine x_iastore 28 hK rfl rfl (sp_186 (h := h1) hG1) (by omega) (by omega) (by omega) ?_
      refine x_iinc 31 hK rfl rfl rfl [(1, .int (I (k + 1))), (0, .ref 171)] rfl ?_
      refine x_goto 2 hK rfl rfl ?_
      have e1 : (((57 * (u : Int)) + k)).toNat = 57 * u + k.toNat := by omega
      rw [e1]
      exact ih _ (by omega) (k + 1) _ rfl (by omega) (by omega) (cp_in ro69 (r := 69) rfl hG1 u k.toNat hu2 (by omega)) ⟨FRM_wn 0 911 hF (r := 69) rfl rfl rfl (by omega) (by omega), fun b hb => nb_in (hN b hb) u k.toNat (by omega)⟩
  refine x_iconst 1 hK rfl rfl ?_
  refine x_istore_n 2 hK rfl rfl [(1, .int (I 0)), (0, .ref 171)] rfl ?_
  exact loop _ 0 h rfl (by omega) (by omega) hG ⟨FRM.rf, fun _ n => n⟩
theorem ctX11_puts {SP : CT} (hSP : MONO SP) {sh : List (Nat × Nat)} {h : aH} (hG : GD gE gRL sh h) : CLd SP 2 mX11_puts [.ref 171] h 0 0 (fun rv h' => rv = none ∧ GD gE gRL sh h' ∧ FRM gRL [(0, 62, 0, 56)] h h') := by
  refine x_met _ rfl (Nat.le_of_ble_eq_true rfl) (fun K hK => ?_)
  have hmono := MONO_CLd hSP 1
  have loop : ∀ (m : Nat) (k : Int) (h1 : aH), ((57 - k).toNat = m) → 0 ≤ k → k ≤ 57 → GD gE gRL sh h1 → FRM gRL [(0, 62, 0, 56)] h h1 → K 2 [(1, .int (I k)), (0, .ref 171)] [] h1 0 0 := by
    intro m
    induction m using Nat.strongRecOn with
    | ind m ih =>
    intro k h1 hm h0 hk hG1 hF
    refine x_iload_n 3 hK rfl rfl rfl ?_
    refine x_bipush 5 hK rfl rfl rfl ?_
    refine x_if_icmp_ge 26 8 hK rfl rfl rfl (by omega) (by omega) (fun c3 => ?_) (fun c3 => ?_)
    · exact x_vret hK rfl ⟨rfl, hG1, hF⟩
    · refine x_aload_n 9 hK rfl rfl rfl ?_
      refine x_getR 12 hK rfl rfl (sp_171 (h := h1) hG1) (rf_171_15 (h := h1) hG1) ?_
      refine x_iload_n 13 hK rfl rfl rfl ?_
      refine x_aload_n 14 hK rfl rfl rfl ?_
      refine x_getR 17 hK rfl rfl (sp_171 (h := h1) hG1) (rf_171_14 (h := h1) hG1) ?_
      refine x_iload_n 18 hK rfl rfl rfl ?_
      refine x_ialoadE 19 hK rfl rfl (sp_178 (h := h1) hG1) (by omega) (by omega) (by omega) (e' := (gi h1 178 k.toNat)) (rfl) ?_
      refine x_iastore 20 hK rfl rfl (sp_179 (h := h1) hG1) (by omega) (by omega) (by omega) ?_
      refine x_iinc 23 hK rfl rfl rfl [(1, .int (I (k + 1))), (0, .ref 171)] rfl ?_
      refine x_goto 2 hK rfl rfl ?_
      exact ih _ (by omega) (k + 1) _ rfl (by omega) (by omega) (cp_then hG1 k.toNat (by omega)) (FRM_wn 0 56 hF (r := 62) rfl rfl rfl (by omega) (by omega))
  refine x_iconst 1 hK rfl rfl ?_
  refine x_istore_n 2 hK rfl rfl [(1, .int (I 0)), (0, .ref 171)] rfl ?_
  exact loop _ 0 h rfl (by omega) (by omega) hG FRM.rf
theorem ctX11_adds {SP : CT} (hSP : MONO SP) {sh : List (Nat × Nat)} {h : aH} (hG : GD gE gRL sh h) {n : Int} (hu : 0 ≤ gi h 171 29 ∧ gi h 171 29 ≤ 15) : CLd SP 2 mX11_adds [.ref 171, .int (I n)] h 0 0 (fun rv h' => rv = some (.int (I n)) ∧ GD gE gRL sh h' ∧ FRM gRL [(0, 54, 29, 29), (0, 69, 0, 911)] h h' ∧ (0 ≤ gi h' 171 29 ∧ gi h' 171 29 ≤ 15) ∧ ∀ b, NB b h → NB b h') := by
  refine x_met _ rfl (Nat.le_of_ble_eq_true rfl) (fun K hK => ?_)
  have hmono := MONO_CLd hSP 1
  have loop : ∀ (m : Nat) (k : Int) (h1 : aH), ((855 - k).toNat = m) → 0 ≤ k → k ≤ 855 → GD gE gRL sh h1 → FRM gRL [(0, 54, 29, 29), (0, 69, 0, 911)] h h1 ∧ gi h1 171 29 = gi h 171 29 + 1 ∧ (∀ b, NB b h → NB b h1) → K 21 [(2, .int (I k)), (0, .ref 171), (1, .int (I n))] [] h1 0 0 := by
    intro m
    induction m using Nat.strongRecOn with
    | ind m ih =>
    intro k h1 hm h0 hk hG1 hI
    obtain ⟨hF, hu3, hN⟩ := hI
    refine x_iload_n 22 hK rfl rfl rfl ?_
    refine x_sipush 25 hK rfl rfl rfl ?_
    refine x_if_icmp_ge 49 28 hK rfl rfl rfl (by omega) (by omega) (fun c3 => ?_) (fun c3 => ?_)
    · refine x_aload_n 50 hK rfl rfl rfl ?_
      refine x_dup 51 hK rfl rfl rfl ?_
      refine x_getE 54 hK rfl (Or.inl rfl) rfl (sp_171 (h := h1) hG1) (e := (gi h 171 29 + 1)) (hu3) ?_
      refine x_iconst 55 hK rfl rfl ?_
      refine x_isub 56 hK rfl rfl ?_
      refine x_putI 59 hK rfl rfl (sp_171 (h := h1) hG1) ?_
      refine x_iload_n 60 hK rfl rfl rfl ?_
      exact x_iret hK rfl ⟨rfl, GD_w1 (hG1) (r := 54) rfl (by omega) rfl (by omega) (by omega), FRM_w (hF) (r := 54) rfl rfl, by rw [gi_same (by omega)]; omega, fun b hb => (hN b hb).w (by decide)⟩
    · refine x_aload_n 29 hK rfl rfl rfl ?_
      refine x_getR 32 hK rfl rfl (sp_171 (h := h1) hG1) (rf_171_30 (h := h1) hG1) ?_
      refine x_iload_n 33 hK rfl rfl rfl ?_
      refine x_aload_n 34 hK rfl rfl rfl ?_
      refine x_getR 37 hK rfl rfl (sp_171 (h := h1) hG1) (rf_171_30 (h := h1) hG1) ?_
      refine x_iload_n 38 hK rfl rfl rfl ?_
      refine x_bipush 40 hK rfl rfl rfl ?_
      refine x_iadd 41 hK rfl rfl ?_
      refine x_ialoadE 42 hK rfl rfl (sp_186 (h := h1) hG1) (by omega) (by omega) (by omega) (e' := (gi h1 186 (k + 57).toNat)) (rfl) ?_
      refine x_iastore 43 hK rfl rfl (sp_186 (h := h1) hG1) (by omega) (by omega) (by omega) ?_
      refine x_iinc 46 hK rfl rfl rfl [(2, .int (I (k + 1))), (0, .ref 171), (1, .int (I n))] rfl ?_
      refine x_goto 21 hK rfl rfl ?_
      have e1 : (k + 57).toNat = k.toNat + 57 := by omega
      rw [e1]
      exact ih _ (by omega) (k + 1) _ rfl (by omega) (by omega) (cp_sh hG1 k.toNat (by omega)) ⟨FRM_wn 0 911 hF (r := 69) rfl rfl rfl (by omega) (by omega), (gi_a (by decide) _).trans hu3, fun b hb => nb_sh (hN b hb) k.toNat (by omega)⟩
  refine x_aload_n 1 hK rfl rfl rfl ?_
  refine x_dup 2 hK rfl rfl rfl ?_
  refine x_getE 5 hK rfl (Or.inl rfl) rfl (sp_171 (h := h) hG) (e := (gi h 171 29)) (rfl) ?_
  refine x_iconst 6 hK rfl rfl ?_
  refine x_iadd 7 hK rfl rfl ?_
  refine x_putI 10 hK rfl rfl (sp_171 (h := h) hG) ?_
  refine x_aload_n 11 hK rfl rfl rfl ?_
  refine x_getE 14 hK rfl (Or.inl rfl) rfl (sp_171 (h := h) hG) (e := ((gi h 171 29) + 1)) (gi_same (by omega)) ?_
  refine x_bipush 16 hK rfl rfl rfl ?_
  refine x_if_icmp_le 59 19 hK rfl rfl rfl (by omega) (by omega) (fun c10 => ?_) (fun c10 => ?_)
  · refine x_iload_n 60 hK rfl rfl rfl ?_
    exact x_iret hK rfl ⟨rfl, GD_w1 (hG) (r := 54) rfl (by omega) rfl (by omega) (by omega), FRM_w (FRM.rf) (r := 54) rfl rfl, by rw [gi_same (by omega)]; omega, fun b hb => hb.w (by decide)⟩
  · refine x_iconst 20 hK rfl rfl ?_
    refine x_istore_n 21 hK rfl rfl [(2, .int (I 0)), (0, .ref 171), (1, .int (I n))] rfl ?_
    exact loop _ 0 _ rfl (by omega) (by omega) (GD_w1 (hG) (r := 54) rfl (by omega) rfl (by omega) (by omega)) ⟨FRM_w (FRM.rf) (r := 54) rfl rfl, gi_same (by omega), fun b hb => hb.w (by decide)⟩
theorem ctX11_undo {SP : CT} (hSP : MONO SP) {sh : List (Nat × Nat)} {h : aH} (hG : GD gE gRL sh h) (hu : 0 ≤ gi h 171 29 ∧ gi h 171 29 ≤ 15) : CLd SP 2 mX11_undo [.ref 171] h 0 0 (fun rv h' => (∃ n, rv = some (.int (I n)) ∧ -1 ≤ n ∧ n ≤ 14) ∧ GD gE gRL sh h' ∧ FRM gRL [(0, 54, 0, 0), (0, 54, 29, 29), (0, 61, 0, 56)] h h' ∧ (0 ≤ gi h' 171 29 ∧ gi h' 171 29 ≤ 15) ∧ gi h' 171 0 = 0 ∧ ∀ b, NB b h → NB b h') := by
  refine x_met _ rfl (Nat.le_of_ble_eq_true rfl) (fun K hK => ?_)
  have hmono := MONO_CLd hSP 1
  have loop : ∀ (m : Nat) (k : Int) (h1 : aH), ((57 - k).toNat = m) → 0 ≤ k → k ≤ 57 → GD gE gRL sh h1 → ∀ u : Nat, u < 15 → gi h1 171 29 = u → gi h1 171 0 = 0 → FRM gRL [(0, 54, 0, 0), (0, 54, 29, 29), (0, 61, 0, 56)] h h1 → (∀ b, NB b h → NB b h1) → K 26 [(1, .int (I k)), (0, .ref 171)] [] h1 0 0 := by
    intro m
    induction m using Nat.strongRecOn with
    | ind m ih =>
    intro k h1 hm h0 hk hG1 u hu2 hu3 ht hF hN
    refine x_iload_n 27 hK rfl rfl rfl ?_
    refine x_bipush 29 hK rfl rfl rfl ?_
    refine x_if_icmp_ge 58 32 hK rfl rfl rfl (by omega) (by omega) (fun c3 => ?_) (fun c3 => ?_)
    · refine x_aload_n 59 hK rfl rfl rfl ?_
      refine x_getE 62 hK rfl (Or.inl rfl) rfl (sp_171 (h := h1) hG1) (e := (u : Int)) (hu3) ?_
      exact x_iret hK rfl ⟨⟨_, rfl, by omega, by omega⟩, hG1, hF, by omega, ht, hN⟩
    · refine x_aload_n 33 hK rfl rfl rfl ?_
      refine x_getR 36 hK rfl rfl (sp_171 (h := h1) hG1) (rf_171_14 (h := h1) hG1) ?_
      refine x_iload_n 37 hK rfl rfl rfl ?_
      refine x_aload_n 38 hK rfl rfl rfl ?_
      refine x_getR 41 hK rfl rfl (sp_171 (h := h1) hG1) (rf_171_30 (h := h1) hG1) ?_
      refine x_bipush 43 hK rfl rfl rfl ?_
      refine x_aload_n 44 hK rfl rfl rfl ?_
      refine x_getE 47 hK rfl (Or.inl rfl) rfl (sp_171 (h := h1) hG1) (e := (u : Int)) (hu3) ?_
      refine x_imul 48 hK rfl rfl ?_
      refine x_iload_n 49 hK rfl rfl rfl ?_
      refine x_iadd 50 hK rfl rfl ?_
      refine x_ialoadE 51 hK rfl rfl (sp_186 (h := h1) hG1) (by omega) (by omega) (by omega) (e' := (gi h1 186 ((57 * (u : Int)) + k).toNat)) (rfl) ?_
      refine x_iastore 52 hK rfl rfl (sp_178 (h := h1) hG1) (by omega) (by omega) (by omega) ?_
      refine x_iinc 55 hK rfl rfl rfl [(1, .int (I (k + 1))), (0, .ref 171)] rfl ?_
      refine x_goto 26 hK rfl rfl ?_
      have e1 : (57 * (u : Int) + k).toNat = 57 * u + k.toNat := by omega
      rw [e1]
      exact ih _ (by omega) (k + 1) _ rfl (by omega) (by omega) (cp_out ri69 (r := 69) rfl hG1 u k.toNat (by omega) (by omega)) u hu2 ((gi_a (by decide) _).trans hu3) ((gi_a (by decide) _).trans ht) (FRM_wn 0 56 hF (r := 61) rfl rfl rfl (by omega) (by omega)) fun b hb => nb_out (hN b hb) u k.toNat (by omega) (by omega)
  have gr0 := gi_r h 171 29
  refine x_aload_n 1 hK rfl rfl rfl ?_
  refine x_iconst 2 hK rfl rfl ?_
  refine x_putI 5 hK rfl rfl (sp_171 (h := h) hG) ?_
  refine x_aload_n 6 hK rfl rfl rfl ?_
  refine x_getE 9 hK rfl (Or.inl rfl) rfl (sp_171 (h := h) hG) (e := (gi h 171 29)) (gi_k (by decide) _) ?_
  refine x_if_ne 14 12 hK rfl rfl rfl (by omega) (fun c6 => ?_) (fun c6 => ?_)
  · refine x_aload_n 15 hK rfl rfl rfl ?_
    refine x_dup 16 hK rfl rfl rfl ?_
    refine x_getE 19 hK rfl (Or.inl rfl) rfl (sp_171 (h := h) hG) (e := (gi h 171 29)) (gi_k (by decide) _) ?_
    refine x_iconst 20 hK rfl rfl ?_
    refine x_isub 21 hK rfl rfl ?_
    refine x_putI 24 hK rfl rfl (sp_171 (h := h) hG) ?_
    refine x_iconst 25 hK rfl rfl ?_
    refine x_istore_n 26 hK rfl rfl [(1, .int (I 0)), (0, .ref 171)] rfl ?_
    obtain ⟨u, hu1, hu2⟩ : ∃ u : Nat, gi h 171 29 - 1 = u ∧ u < 15 := ⟨(gi h 171 29 - 1).toNat, by omega, by omega⟩
    exact loop _ 0 _ rfl (by omega) (by omega) (GD_w1 (GD_w1 (hG) (r := 54) rfl (by omega) rfl (by omega) (by omega)) (r := 54) rfl (by omega) rfl (by omega) (by omega)) u hu2 ((gi_same (by omega)).trans hu1) ((gi_k (by decide) _).trans (gi_same (by omega))) (FRM_w (FRM_w (FRM.rf) (r := 54) rfl rfl) (r := 54) rfl rfl) fun b hb => (hb.w (by decide)).w (by decide)
  · refine x_iconst 13 hK rfl rfl ?_
    exact x_iret hK rfl ⟨⟨_, rfl, by omega, by omega⟩, GD_w1 (hG) (r := 54) rfl (by omega) rfl (by omega) (by omega), FRM_w (FRM.rf) (r := 54) rfl rfl, by rw [gi_k (by decide)]; exact hu, gi_same (by omega), fun b hb => hb.w (by decide)⟩
