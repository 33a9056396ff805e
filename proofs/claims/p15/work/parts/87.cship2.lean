/-! ship() OF THE CLASS -/
theorem GD_R {sh : List (Nat × Nat)} {h : aH} {a r k b rb : Nat} (hG : GD gE gRL sh h) (hr : gRL[a]? = some r) (hq : ((eR gE r).all fun q => !(Nat.ble q.1 k && Nat.ble k q.2.1) || Nat.beq q.2.2 rb) = true) (hb : gRL[b]? = some rb) : GD gE gRL sh (sR h a k (some b)) := by
  obtain ⟨g1, g2, g3, g4⟩ := hG
  refine ⟨g1, g2, g3, fun a' r' ha' q hq' k' h1 h2 => ?_⟩
  by_cases c : a' = a ∧ k' = k
  · obtain ⟨rfl, rfl⟩ := c
    rw [hr] at ha'
    cases ha'
    have z := List.all_eq_true.mp hq q hq'
    refine ⟨b, by simp [aR, sR, up_s, va_up], ?_⟩
    rw [hb]
    rw [Bool.or_eq_true, Nat.beq_eq] at z
    rcases z with z | z
    · exfalso
      rw [Nat.ble_eq_true_of_le h1, Nat.ble_eq_true_of_le h2] at z
      cases z
    · rw [z]
  · obtain ⟨x, x1, x2⟩ := g4 a' r' ha' q hq' k' h1 h2
    refine ⟨x, ?_, x2⟩
    rw [← x1]
    by_cases d : a' = a
    · subst d
      have : k' ≠ k := fun z => c ⟨rfl, z⟩
      simp [aR, sR, up_s, va_up, this]
    · simp [aR, sR, up_n d]
theorem aR_s {h : aH} {a k : Nat} {v : Option Nat} : aR (sR h a k v) a k = v := by simp [aR, sR, up_s, va_up]
theorem aR_n {h : aH} {a k b j : Nat} {v : Option Nat} (hn : b ≠ a ∨ j ≠ k) : aR (sR h a k v) b j = aR h b j := by
  by_cases d : b = a
  · subst d
    have : j ≠ k := hn.resolve_left (fun z => z rfl)
    simp [aR, sR, up_s, va_up, this]
  · simp [aR, sR, up_n d]
theorem FRM_R {M : MD} {h0 h : aH} {a r k : Nat} {v : Option Nat} (hF : FRM gRL M h0 h) (hr : gRL[a]? = some r) (hm : mHas M 2 r k = true) : FRM gRL M h0 (sR h a k v) := by
  refine ⟨hF.1, hF.2.1, fun a' k' hn => ?_⟩
  rw [← hF.2.2 a' k' hn]
  refine aR_n ?_
  by_cases d : a' = a
  · subst d
    refine Or.inr (fun z => ?_)
    subst z
    rw [hn r hr] at hm
    cases hm
  · exact Or.inl d
/-- the ship that stands, and the other one -/
def SW (h : aH) (s t : Nat) : Prop := ((s = 5 ∧ t = 8) ∨ (s = 8 ∧ t = 5)) ∧ aR h 0 2 = some s ∧ aR h 0 3 = some t
set_option maxRecDepth 4000 in
theorem ctX10_ship {SP : CT} (hSP : MONO SP) {sh : List (Nat × Nat)} {h : aH} (hG : GD gE gRL sh h) {s t : Nat} (hP : PT h) (hw : SW h s t) : CLd SP 6 mX10_ship [.ref 0] h 0 0 (fun rv h' => rv = some (.int (I (if (fltF (gi h 1 1) 43 (shF (txF (gi h 2) (min (gi h 1 1) 43))).2.1) = 0 then (((shF (txF (gi h 2) (min (gi h 1 1) 43))).2.2).length : Nat) else (fltF (gi h 1 1) 43 (shF (txF (gi h 2) (min (gi h 1 1) 43))).2.1)))) ∧ GD gE gRL sh h' ∧ FRM gRL [(0, 1, 1, 5), (0, 5, 0, 2), (0, 6, 0, 9), (0, 7, 0, 9), (2, 0, 2, 3)] h h' ∧ gi h' 1 1 = 0 ∧ ((fltF (gi h 1 1) 43 (shF (txF (gi h 2) (min (gi h 1 1) 43))).2.1) ≠ 0 → aR h' 0 2 = some s ∧ aR h' 0 3 = some t ∧ ∀ a k : Nat, s ≤ a → a ≤ s + 2 → gi h' a k = gi h a k) ∧ ((fltF (gi h 1 1) 43 (shF (txF (gi h 2) (min (gi h 1 1) 43))).2.1) = 0 → aR h' 0 2 = some t ∧ aR h' 0 3 = some s ∧ gi h' t 0 = (shF (txF (gi h 2) (min (gi h 1 1) 43))).1 ∧ gi h' t 1 = (((shF (txF (gi h 2) (min (gi h 1 1) 43))).2.2).length : Nat) ∧ gi h' t 2 = lsum (shF (txF (gi h 2) (min (gi h 1 1) 43))).2.2 ∧ pstL h' t ((shF (txF (gi h 2) (min (gi h 1 1) 43))).2.2).length = (shF (txF (gi h 2) (min (gi h 1 1) 43))).2.2)) := by
  refine x_met _ rfl (Nat.le_of_ble_eq_true rfl) (fun K hK => ?_)
  have hmono := MONO_CLd hSP 5
  have h5s : s = 5 ∨ s = 8 := by have := hw.1; omega
  have h5t : t = 5 ∨ t = 8 := by have := hw.1; omega
  have hst := hw.1
  have gs := gri 0 80 hG (a := 1) (r := 1) (k := 1) rfl rfl
  obtain ⟨T, hT⟩ : ∃ T, (txF (gi h 2) (min (gi h 1 1) 43)) = T := ⟨_, rfl⟩
  obtain ⟨RR, hRR⟩ : ∃ RR, shF T = RR := ⟨_, rfl⟩
  have fe0 : ∀ a, min (gi h 1 1) 43 ≤ a → T a = -1 := fun a ha => by rw [← hT]; exact if_neg (by omega)
  have rb := shF_b fe0 (by omega)
  rw [hRR] at rb
  rw [hT, hRR] at hK
  have cf := cfl_flt (n := gi h 1 1) (most := 43) (r := RR.2.1) (by omega) (by omega) rb.1.1 rb.1.2
  have fl := fltF_lt (n := gi h 1 1) (most := 43) (r := RR.2.1) (by omega) (by omega) rb.1.1 rb.1.2
  have cb : -1 ≤ cfl (gi h 1 1) 43 RR.2.1 ∧ cfl (gi h 1 1) 43 RR.2.1 ≤ 43 := by unfold cfl; have := rb.1; (repeat' split) <;> omega
  refine x_aload_n 1 hK rfl rfl rfl ?_
  refine x_getR 4 hK rfl rfl (sp_0 (h := h) hG) (rf_0_0 (h := h) hG) ?_
  refine x_bipush 6 hK rfl rfl rfl ?_
  have g284 := gri (0) (80) hG (a := 1) (r := 1) (k := 1) rfl rfl
  have z286 : gi h 1 1 = (gi h 1 1) := rfl
  refine x_callV 9 hK hmono rfl rfl [.ref 1, .int (I 43)] [] rfl rfl (Nat.le_of_ble_eq_true rfl) (Nat.le_of_ble_eq_true rfl) rfl (sp_1 (h := h) hG) (CLd_le (Nat.le_of_ble_eq_true rfl) (ctX9_open hSP hG (by omega))) ?_
  rintro v285 h285 ⟨rfl, hG285, hF285, o285, p285, q285, r285⟩
  rw [z286] at p285 q285
  refine x_aload_n 10 hK rfl rfl rfl ?_
  refine x_getR 13 hK rfl rfl (sp_0 (h := h285) hG285) ((FRM_aR hF285 (r := 0) rfl rfl).trans (hw.2.2)) ?_
  refine x_aload_n 14 hK rfl rfl rfl ?_
  refine x_getR 17 hK rfl rfl (sp_0 (h := h285) hG285) (rf_0_0 (h := h285) hG285) ?_
  have z2 : gi h285 1 2 = 0 := o285
  have z3 : gi h285 1 3 = min (gi h 1 1) 43 := p285
  have z4 : gi h285 1 4 = (if 43 < gi h 1 1 then (1 : Int) else 0) := q285
  have zt : fx h285 = T := by rw [fx_tx, z3, ← hT, show gi h285 2 = gi h 2 from funext fun k => FRM_gi hF285 (r := 2) rfl rfl]
  refine x_callV 20 hK hmono rfl rfl [.ref t, .ref 1] [] rfl rfl (Nat.le_of_ble_eq_true rfl) (Nat.le_of_ble_eq_true rfl) rfl (shx (h := h285) hG285 (r := 5) (ss_r h5t).1 rfl) (CLd_le (Nat.le_of_ble_eq_true rfl) (ctX6_readFrom hSP hG285 (s := t) (n := gi h 1 1) (PT_F hF285 (by decide) hP) h5t z2 z3 z4 (by omega))) ?_
  rw [zt, hRR]
  rintro v287 h287 ⟨rfl, hG287, hF287, y1, oa287⟩
  refine x_istore_n 21 hK rfl rfl [(1, .int (I (cfl (gi h 1 1) 43 RR.2.1))), (0, .ref 0)] rfl ?_
  refine x_aload_n 22 hK rfl rfl rfl ?_
  refine x_getR 25 hK rfl rfl (sp_0 (h := h287) hG287) (rf_0_0 (h := h287) hG287) ?_
  refine x_iconst 26 hK rfl rfl ?_
  refine x_putI 29 hK rfl rfl (sp_1 (h := h287) hG287) ?_
  refine x_iload_n 30 hK rfl rfl rfl ?_
  refine x_iconst 31 hK rfl rfl ?_
  refine x_if_icmp_eq 38 34 hK rfl rfl rfl (by omega) (by omega) (fun c17 => ?_) (fun c17 => ?_)
  · refine x_aload_n 39 hK rfl rfl rfl ?_
    refine x_getR 42 hK rfl rfl (sp_0 (h := h287) hG287) ((FRM_aR hF287 (r := 0) rfl rfl).trans ((FRM_aR hF285 (r := 0) rfl rfl).trans (hw.2.1))) ?_
    refine x_astore_n 43 hK rfl rfl [(2, .ref s), (1, .int (I (cfl (gi h 1 1) 43 RR.2.1))), (0, .ref 0)] rfl ?_
    refine x_aload_n 44 hK rfl rfl rfl ?_
    refine x_aload_n 45 hK rfl rfl rfl ?_
    refine x_getR 48 hK rfl rfl (sp_0 (h := h287) hG287) ((FRM_aR hF287 (r := 0) rfl rfl).trans ((FRM_aR hF285 (r := 0) rfl rfl).trans (hw.2.2))) ?_
    refine x_putR 51 hK rfl rfl (sp_0 (h := h287) hG287) (List.getElem?_eq_some_iff.mp (shx (h := h287) hG287 (r := 5) (ss_r h5t).1 rfl)).1 ?_
    obtain ⟨h91, e91⟩ : ∃ z, z = sR (wI h287 1 1 0) 0 2 (some t) := ⟨_, rfl⟩
    rw [← e91]
    have hG91 : GD gE gRL sh h91 := by rw [e91]; exact GD_R (GD_w1 (hG287) (r := 1) rfl (by omega) rfl (by omega) (by omega)) (r := 0) rfl (rb := 5) (by decide +kernel) (ss_r h5t).1
    have hF91 : FRM gRL [(2, 0, 2, 2)] (wI h287 1 1 0) h91 := by rw [e91]; exact FRM_R FRM.rf (r := 0) rfl rfl
    have r291 : aR h91 0 2 = some t := by rw [e91]; exact aR_s
    have r391 : aR h91 0 3 = some t := by rw [e91]; exact (aR_n (Or.inr (by decide))).trans ((FRM_aR hF287 (r := 0) rfl rfl).trans ((FRM_aR hF285 (r := 0) rfl rfl).trans (hw.2.2)))
    refine x_aload_n 52 hK rfl rfl rfl ?_
    refine x_aload_n 53 hK rfl rfl rfl ?_
    refine x_putR 56 hK rfl rfl (sp_0 (h := h91) hG91) (List.getElem?_eq_some_iff.mp (shx (h := h91) hG91 (r := 5) (ss_r h5s).1 rfl)).1 ?_
    obtain ⟨h92, e92⟩ : ∃ z, z = sR h91 0 3 (some s) := ⟨_, rfl⟩
    rw [← e92]
    have hG92 : GD gE gRL sh h92 := by rw [e92]; exact GD_R (hG91) (r := 0) rfl (rb := 5) (by decide +kernel) (ss_r h5s).1
    have hF92 : FRM gRL [(2, 0, 3, 3)] h91 h92 := by rw [e92]; exact FRM_R FRM.rf (r := 0) rfl rfl
    have r392 : aR h92 0 3 = some s := by rw [e92]; exact aR_s
    have r292 : aR h92 0 2 = some t := by rw [e92]; exact (aR_n (Or.inr (by decide))).trans (r291)
    refine x_aload_n 57 hK rfl rfl rfl ?_
    refine x_getR 60 hK rfl rfl (sp_0 (h := h92) hG92) (r292) ?_
    have g288 := gri (0) (10) hG287 (a := t) (r := 5) (k := 1) (ss_r h5t).1 rfl
    refine x_getE 63 hK rfl (Or.inl rfl) rfl (shx (h := h92) hG92 (r := 5) (ss_r h5t).1 rfl) (e := (gi h287 t 1)) ((FRM_gi hF92 (r := 5) (ss_r h5t).1 rfl).trans ((FRM_gi hF91 (r := 5) (ss_r h5t).1 rfl).trans (gi_a (by omega) _))) ?_
    have f9 : fltF (gi h 1 1) 43 RR.2.1 = 0 := cf.1.mp (by omega)
    obtain ⟨y2, y3, y4, y5⟩ := y1 (by omega)
    exact x_iret hK rfl ⟨by rw [if_pos f9, y3], hG92, ((FRM_w (((hF285).mono rfl).trans ((hF287).mono rfl)) (r := 1) rfl rfl).trans ((hF91).mono rfl)).trans ((hF92).mono rfl), (FRM_gi hF92 (r := 1) rfl rfl).trans ((FRM_gi hF91 (r := 1) rfl rfl).trans (gi_same (by omega))), fun z => absurd f9 z, fun _ => ⟨(r292), (r392), ((FRM_gi hF92 (r := 5) (ss_r h5t).1 rfl).trans ((FRM_gi hF91 (r := 5) (ss_r h5t).1 rfl).trans (gi_a (by omega) _))).trans y2, ((FRM_gi hF92 (r := 5) (ss_r h5t).1 rfl).trans ((FRM_gi hF91 (r := 5) (ss_r h5t).1 rfl).trans (gi_a (by omega) _))).trans y3, ((FRM_gi hF92 (r := 5) (ss_r h5t).1 rfl).trans ((FRM_gi hF91 (r := 5) (ss_r h5t).1 rfl).trans (gi_a (by omega) _))).trans y4, (pstL_eq fun j hj => ⟨(FRM_gi hF92 (r := 6) (ss_r h5t).2.1 rfl).trans ((FRM_gi hF91 (r := 6) (ss_r h5t).2.1 rfl).trans (gi_a (by omega) _)), (FRM_gi hF92 (r := 7) (ss_r h5t).2.2 rfl).trans ((FRM_gi hF91 (r := 7) (ss_r h5t).2.2 rfl).trans (gi_a (by omega) _))⟩).trans y5⟩⟩
  · refine x_iconst 35 hK rfl rfl ?_
    refine x_iload_n 36 hK rfl rfl rfl ?_
    refine x_isub 37 hK rfl rfl ?_
    have f9 : fltF (gi h 1 1) 43 RR.2.1 ≠ 0 := by omega
    exact x_iret hK rfl ⟨by rw [if_neg f9, ← cf.2 (by omega)], GD_w1 (hG287) (r := 1) rfl (by omega) rfl (by omega) (by omega), FRM_w (((hF285).mono rfl).trans ((hF287).mono rfl)) (r := 1) rfl rfl, gi_same (by omega), fun _ => ⟨((FRM_aR hF287 (r := 0) rfl rfl).trans ((FRM_aR hF285 (r := 0) rfl rfl).trans (hw.2.1))), ((FRM_aR hF287 (r := 0) rfl rfl).trans ((FRM_aR hF285 (r := 0) rfl rfl).trans (hw.2.2))), fun a k n1 n2 => (gi_a (by omega) _).trans ((oa287 a k (by omega) (by omega) (by omega) (by omega)).trans (one1 hF285 rfl (by omega) k))⟩, fun z => absurd z f9⟩
