/-! PAIRS OF CALLS -/
noncomputable def TS (h : aH) : Prop := gi h 1 1 = gi h 171 17
noncomputable def TSOk (M : MD) : Bool := !(mHas M 0 1 1) && !(mHas M 0 54 17)
theorem TS_F {M : MD} {h h' : aH} (hF : FRM gRL M h h') (hm : TSOk M = true) (hc : TS h) : TS h' := by
  simp only [TSOk, Bool.and_eq_true] at hm
  have m0 := hm.1
  have m1 := hm.2
  show gi h' 1 1 = gi h' 171 17
  rw [FRM_gi hF (a := 1) (r := 1) rfl (mfn m0), FRM_gi hF (a := 171) (r := 54) rfl (mfn m1)]
  exact hc
theorem TS_J {h : aH} {v : Int64} (hc : TS h) : TS (sJ h 201 0 v) := hc
noncomputable def TSB (c : cH) : Bool := decide (rI c.2.2.1 1 1 = rI c.2.2.1 171 17)
theorem TS_0 {c : cH} {h : aH} (hr : REL c h) (hb : TSB c = true) : TS h := by
  show gi h 1 1 = gi h 171 17
  rw [gi_c hr, gi_c hr, of_decide_eq_true hb]
noncomputable def TX (h : aH) : Prop := ∀ j : Nat, (j : Int) < gi h 1 1 → gi h 2 j = gi h 180 j
noncomputable def TXOk (M : MD) : Bool := !(mHas M 0 1 1) && (M.all fun q => !(Nat.beq q.1 0 && Nat.beq q.2.1 2)) && (M.all fun q => !(Nat.beq q.1 0 && Nat.beq q.2.1 63))
theorem TX_F {M : MD} {h h' : aH} (hF : FRM gRL M h h') (hm : TXOk M = true) (hc : TX h) : TX h' := by
  simp only [TXOk, Bool.and_eq_true] at hm
  have m0 := hm.1.1
  have m1 := hm.1.2
  have m2 := hm.2
  intro j hj
  rw [FRM_gi hF (a := 1) (r := 1) rfl (mfn m0)] at hj
  rw [FRM_gi hF (a := 2) (r := 2) rfl (mHas_non m1 j), FRM_gi hF (a := 180) (r := 63) rfl (mHas_non m2 j)]
  exact hc j hj
theorem TX_J {h : aH} {v : Int64} (hc : TX h) : TX (sJ h 201 0 v) := hc
noncomputable def TXB (c : cH) : Bool := decide (rI c.2.2.1 1 1 = 0)
theorem TX_0 {c : cH} {h : aH} (hr : REL c h) (hb : TXB c = true) : TX h := by
  intro j hj
  rw [gi_c hr, of_decide_eq_true hb] at hj
  exact absurd hj (by show ¬ (j : Int) < 0; omega)
noncomputable def MC (h : aH) : Prop := gi h 0 9 = gi h 171 7
noncomputable def MCOk (M : MD) : Bool := !(mHas M 0 0 9) && !(mHas M 0 54 7)
theorem MC_F {M : MD} {h h' : aH} (hF : FRM gRL M h h') (hm : MCOk M = true) (hc : MC h) : MC h' := by
  simp only [MCOk, Bool.and_eq_true] at hm
  have m0 := hm.1
  have m1 := hm.2
  show gi h' 0 9 = gi h' 171 7
  rw [FRM_gi hF (a := 0) (r := 0) rfl (mfn m0), FRM_gi hF (a := 171) (r := 54) rfl (mfn m1)]
  exact hc
theorem MC_J {h : aH} {v : Int64} (hc : MC h) : MC (sJ h 201 0 v) := hc
noncomputable def MCB (c : cH) : Bool := decide (rI c.2.2.1 0 9 = rI c.2.2.1 171 7)
theorem MC_0 {c : cH} {h : aH} (hr : REL c h) (hb : MCB c = true) : MC h := by
  show gi h 0 9 = gi h 171 7
  rw [gi_c hr, gi_c hr, of_decide_eq_true hb]
/-- what is held beside INV -/
noncomputable def CR (h : aH) : Prop := TS h ∧ TX h ∧ MC h
noncomputable def crOk (M : MD) : Bool := TSOk M && TXOk M && MCOk M
noncomputable def crB (c : cH) : Bool := TSB c && TXB c && MCB c
theorem CR_0 {c : cH} {h : aH} (hr : REL c h) (hb : crB c = true) : CR h := by
  simp only [crB, Bool.and_eq_true] at hb
  exact ⟨TS_0 hr hb.1.1, TX_0 hr hb.1.2, MC_0 hr hb.2⟩
theorem CR_F {M : MD} {h h' : aH} (hF : FRM gRL M h h') (hm : crOk M = true) (hc : CR h) : CR h' := by
  simp only [crOk, Bool.and_eq_true] at hm
  exact ⟨TS_F hF hm.1.1 hc.1, TX_F hF hm.1.2 hc.2.1, MC_F hF hm.2 hc.2.2⟩
theorem CR_J {h : aH} {v : Int64} (hc : CR h) : CR (sJ h 201 0 v) := ⟨TS_J hc.1, TX_J hc.2.1, MC_J hc.2.2⟩
noncomputable abbrev PRQ (sh : List (Nat × Nat)) (b : Int) (m : Nat) (as : List Value) (cmp : Bool) : QT := fun rv h1 => ∃ e1 : Int, r32 e1 ∧ rv = some (.int (I e1)) ∧ GD gE gRL sh h1 ∧ CLd SPt 310 m as h1 0 0 (fun rv2 h2 => ∃ e2 : Int, r32 e2 ∧ rv2 = some (.int (I e2)) ∧ (cmp = true → e2 = e1) ∧ INV sh (b + 600) h2 ∧ CR h2)
theorem CLd_mono {d mid : Nat} {as : List Value} {h : aH} {Q Q' : QT} (hc : CLd SPt d mid as h 0 0 Q) (hq : ∀ rv h', Q rv h' → Q' rv h') : CLd SPt d mid as h 0 0 Q' := MONO_CLd SPt_mono d _ _ _ _ _ _ _ hq hc
theorem pr_sign {sh : List (Nat × Nat)} {b : Int} {h : aH} (hI : INV sh b h) (hC : CR h) (hb : b ≤ 320000) {x : Int} (rx : r32 x) : CLd SPt 310 mX10_sign [.ref 0, .int (I x)] h 0 0 (PRQ sh b mX11_sign [.ref 171, .int (I x)] false) := by
  refine OP_le (Nat.le_of_ble_eq_true rfl) (ctX10_sign SPt_mono hI.1 rx) ?_
  rintro v h1 ⟨rfl, hG1, hF1, s1, s2⟩
  have hI1 : INV sh b h1 := INV_F hI hG1 hF1 (by decide +kernel)
  refine ⟨_, w32_r _, by rw [I_w], hI1.1, OP_le (Nat.le_of_ble_eq_true rfl) (ctX11_sign SPt_mono hG1 rx) ?_⟩
  rintro v h2 ⟨rfl, hG2, hF2, t1, t2⟩
  have hI2 : INV sh (b + 600) h2 := (INV_F hI1 hG2 hF2 (by decide +kernel)).mono (by omega)
  have e3 : gi h1 171 17 = gi h 171 17 := FRM_gi hF1 (r := 54) rfl (by decide)
  have e4 : gi h2 1 1 = gi h1 1 1 := FRM_gi hF2 (r := 1) rfl (by decide)
  have ts : gi h 1 1 = gi h 171 17 := hC.1
  have e5 : ∀ j, gi h2 2 j = gi h1 2 j := fun j => FRM_gi hF2 (r := 2) rfl (mHas_non (by decide) j)
  have e6 : ∀ j, gi h1 180 j = gi h 180 j := fun j => FRM_gi hF1 (r := 63) rfl (mHas_non (by decide) j)
  have tx : TX h2 := by
    intro j hj
    rw [e4, s1] at hj
    rw [e5, s2, t2, e3, ← ts]
    unfold sgT
    by_cases c : gi h 1 1 ≤ 76 ∧ gi h 1 1 ≤ j ∧ (j : Int) < gi h 1 1 + 4
    · have n0 := gri 0 80 hI.1 (a := 1) (r := 1) (k := 1) rfl rfl
      rw [if_pos c, if_pos c]
    · rw [if_neg c, if_neg c, e6]
      exact hC.2.1 j (by split at hj <;> omega)
  exact ⟨_, w32_r _, by rw [I_w], nofun, hI2, ⟨(by show gi h2 1 1 = gi h2 171 17; rw [e4, s1, t1, e3, ts]), tx, MC_F hF2 (by decide +kernel) (MC_F hF1 (by decide +kernel) hC.2.2)⟩⟩
theorem pr_end {sh : List (Nat × Nat)} {b : Int} {h : aH} (hI : INV sh b h) (hC : CR h) (hb : b ≤ 320000) {x : Int} (rx : r32 x) : CLd SPt 310 mX10_end [.ref 0, .int (I x)] h 0 0 (PRQ sh b mX11_end [.ref 171, .int (I x)] false) := by
  refine OP_le (Nat.le_of_ble_eq_true rfl) (ctX10_end SPt_mono hI.1 rx) ?_
  rintro v h1 ⟨rfl, hG1, hF1, s1⟩
  have hI1 : INV sh b h1 := INV_F hI hG1 hF1 (by decide +kernel)
  refine ⟨_, w32_r _, by rw [I_w], hI1.1, OP_le (Nat.le_of_ble_eq_true rfl) (ctX11_end SPt_mono hG1 rx) ?_⟩
  rintro v h2 ⟨rfl, hG2, hF2, t1⟩
  have hI2 : INV sh (b + 600) h2 := (INV_F hI1 hG2 hF2 (by decide +kernel)).mono (by omega)
  have e3 : gi h1 171 17 = gi h 171 17 := FRM_gi hF1 (r := 54) rfl (by decide)
  have e4 : gi h2 1 1 = gi h1 1 1 := FRM_gi hF2 (r := 1) rfl (by decide)
  have ts : gi h 1 1 = gi h 171 17 := hC.1
  have e5 : ∀ j, gi h2 2 j = gi h 2 j := fun j => (FRM_gi hF2 (r := 2) rfl (mHas_non (by decide) j)).trans (FRM_gi hF1 (r := 2) rfl (mHas_non (by decide) j))
  have e6 : ∀ j, gi h2 180 j = gi h 180 j := fun j => (FRM_gi hF2 (r := 63) rfl (mHas_non (by decide) j)).trans (FRM_gi hF1 (r := 63) rfl (mHas_non (by decide) j))
  have tx : TX h2 := by
    intro j hj
    rw [e4, s1] at hj
    rw [e5, e6]
    exact hC.2.1 j (by split at hj <;> omega)
  exact ⟨_, w32_r _, by rw [I_w], nofun, hI2, ⟨(by show gi h2 1 1 = gi h2 171 17; rw [e4, s1, t1, e3, ts]), tx, MC_F hF2 (by decide +kernel) (MC_F hF1 (by decide +kernel) hC.2.2)⟩⟩
theorem pr_ship {sh : List (Nat × Nat)} {b : Int} {h : aH} (hI : INV sh b h) (hC : CR h) (hb : b ≤ 320000) : CLd SPt 310 mX10_ship [.ref 0] h 0 0 (PRQ sh b mX11_ship [.ref 171] false) := by
  refine OP_le (Nat.le_of_ble_eq_true rfl) (kX10_ship_0 SPt_mono [.ref 0] _ hI.2.1 ⟨gv_r (by decide) rfl, trivial⟩ hI.1 gov_n) ?_
  rintro v h1 ⟨hG1, hF1, o, m, q, z, -⟩
  have hI1 : INV sh b h1 := INV_F hI hG1 hF1 (by decide +kernel)
  obtain ⟨e1, re1, rfl⟩ := int_ans m rfl q
  have t1 : gi h1 1 1 = 0 := ov_ans (r := 1) 0 m (by decide +kernel) (by decide) rfl z
  refine ⟨_, w32_r _, by rw [I_w], hI1.1, OP_le (Nat.le_of_ble_eq_true rfl) (ctX11_shipF SPt_mono hI1.1) ?_⟩
  rintro v h2 ⟨hd, hG2, hF2, -, t2⟩
  obtain ⟨e2, rfl⟩ : ∃ e : Int, v = some (.int (I e)) := by rcases hd with ⟨_, e9, _⟩ | ⟨_, e9, _⟩ <;> exact ⟨_, e9⟩
  have hI2 : INV sh (b + 600) h2 := (INV_F hI1 hG2 hF2 (by decide +kernel)).mono (by omega)
  have e4 : gi h2 1 1 = gi h1 1 1 := FRM_gi hF2 (r := 1) rfl (by decide)
  exact ⟨_, w32_r _, by rw [I_w], nofun, hI2, ⟨(by show gi h2 1 1 = gi h2 171 17; rw [e4, t1, t2]), (fun j hj => absurd hj (by rw [e4, t1]; omega)), MC_F hF2 (by decide +kernel) (MC_F hF1 (by decide +kernel) hC.2.2)⟩⟩
theorem pr_rocks {sh : List (Nat × Nat)} {b : Int} {h : aH} (hI : INV sh b h) (hC : CR h) (hb : b ≤ 320000) : CLd SPt 310 mX10_rocks [.ref 0] h 0 0 (PRQ sh b mX11_rocks [.ref 171] false) := by
  refine OP_le (Nat.le_of_ble_eq_true rfl) (kX10_rocks_0 SPt_mono [.ref 0] _ hI.2.1 ⟨gv_r (by decide) rfl, trivial⟩ hI.1 gov_n) ?_
  rintro v h1 ⟨hG1, hF1, o, m, q, z, -⟩
  have hI1 : INV sh b h1 := INV_F hI hG1 hF1 (by decide +kernel)
  obtain ⟨e1, re1, rfl⟩ := int_ans m rfl q
  have t1 : gi h1 1 1 = 0 := ov_ans (r := 1) 0 m (by decide +kernel) (by decide) rfl z
  refine ⟨_, w32_r _, by rw [I_w], hI1.1, OP_le (Nat.le_of_ble_eq_true rfl) (ctX11_rocksF SPt_mono hI1.1) ?_⟩
  rintro v h2 ⟨hd, hG2, hF2, -, t2⟩
  obtain ⟨e2, rfl⟩ : ∃ e : Int, v = some (.int (I e)) := by rcases hd with ⟨_, e9, _⟩ | ⟨_, e9, _⟩ <;> exact ⟨_, e9⟩
  have hI2 : INV sh (b + 600) h2 := (INV_F hI1 hG2 hF2 (by decide +kernel)).mono (by omega)
  have e4 : gi h2 1 1 = gi h1 1 1 := FRM_gi hF2 (r := 1) rfl (by decide)
  exact ⟨_, w32_r _, by rw [I_w], nofun, hI2, ⟨(by show gi h2 1 1 = gi h2 171 17; rw [e4, t1, t2]), (fun j hj => absurd hj (by rw [e4, t1]; omega)), MC_F hF2 (by decide +kernel) (MC_F hF1 (by decide +kernel) hC.2.2)⟩⟩
theorem pr_messes {sh : List (Nat × Nat)} {b : Int} {h : aH} (hI : INV sh b h) (hC : CR h) (hb : b ≤ 320000) : CLd SPt 310 mX10_messes [.ref 0] h 0 0 (PRQ sh b mX11_messes [.ref 171] false) := by
  refine OP_le (Nat.le_of_ble_eq_true rfl) (ctX10_messes SPt_mono hI.1 hI.2.1) ?_
  rintro v h1 ⟨rfl, hG1, hF1, t1, s1, -⟩
  have hI1 : INV sh b h1 := INV_F hI hG1 hF1 (by decide +kernel)
  refine ⟨_, w32_r _, by rw [I_w], hI1.1, OP_le (Nat.le_of_ble_eq_true rfl) (ctX11_messesF SPt_mono hI1.1 hI1.2.2.1 hI1.2.2.2) ?_⟩
  rintro v h2 ⟨hd, hG2, hF2, -, t2, hu2, aw2⟩
  have hI2 : INV sh (b + 600) h2 := ⟨hG2, xOk_ok (by decide +kernel) h1 h2 hF2 hI1.2.1, hu2, aw2.mono (by omega)⟩
  have e17 : gi h1 171 17 = gi h 1 1 := (FRM_gi hF1 (r := 54) rfl (by decide)).trans hC.1.symm
  have e180 : gi h1 180 = gi h 180 := funext fun j => FRM_gi hF1 (r := 63) rfl (mHas_non (by decide) j)
  have e7 : gi h1 171 7 = gi h 0 9 := (FRM_gi hF1 (r := 54) rfl (by decide)).trans hC.2.2.symm
  rw [e17, e180, ← txF_eq hC.2.1, e7] at hd
  have e4 : gi h2 1 1 = gi h1 1 1 := FRM_gi hF2 (r := 1) rfl (by decide)
  have e9 : gi h2 0 9 = gi h1 0 9 := FRM_gi hF2 (r := 0) rfl (by decide)
  have ev : v = some (.int (I (if (fltF (gi h 1 1) 39 (msR (txF (gi h 2) (min (gi h 1 1) 39)) (gi h 1 1) (gi h 0 9)).1) = 0 then ((msR (txF (gi h 2) (min (gi h 1 1) 39)) (gi h 1 1) (gi h 0 9)).2.length : Nat) else (fltF (gi h 1 1) 39 (msR (txF (gi h 2) (min (gi h 1 1) 39)) (gi h 1 1) (gi h 0 9)).1)))) := by
    rcases hd with ⟨c, e, -⟩ | ⟨c, e, -⟩
    · rw [if_neg (by omega)]; exact e
    · rw [if_pos c]; exact e
  subst ev
  have mc : MC h2 := by
    show gi h2 0 9 = gi h2 171 7
    rcases hd with ⟨c, -, -, d, -⟩ | ⟨c, -, -, d, -⟩
    · rw [e9, s1, d, if_neg (by omega)]
    · rw [e9, s1, d, if_pos c]
  exact ⟨_, w32_r _, by rw [I_w], nofun, hI2, ⟨(by show gi h2 1 1 = gi h2 171 17; rw [e4, t1, t2]), (fun j hj => absurd hj (by rw [e4, t1]; omega)), mc⟩⟩
theorem pr_rule {sh : List (Nat × Nat)} {b : Int} {h : aH} (hI : INV sh b h) (hC : CR h) (hb : b ≤ 320000) : CLd SPt 310 mX10_rule [.ref 0] h 0 0 (PRQ sh b mX11_rule [.ref 171] false) := by
  refine OP_le (Nat.le_of_ble_eq_true rfl) (kX10_rule_0 SPt_mono [.ref 0] _ hI.2.1 ⟨gv_r (by decide) rfl, trivial⟩ hI.1 gov_n) ?_
  rintro v h1 ⟨hG1, hF1, o, m, q, z, -⟩
  have hI1 : INV sh b h1 := INV_F hI hG1 hF1 (by decide +kernel)
  obtain ⟨e1, re1, rfl⟩ := int_ans m rfl q
  have t1 : gi h1 1 1 = 0 := ov_ans (r := 1) 0 m (by decide +kernel) (by decide) rfl z
  refine ⟨_, w32_r _, by rw [I_w], hI1.1, OP_le (Nat.le_of_ble_eq_true rfl) (ctX11_rule SPt_mono hI1.1 hI1.2.1) ?_⟩
  rintro v h2 ⟨⟨e2, rfl⟩, hG2, hF2, -, hX2, -, t2⟩
  have hI2 : INV sh (b + 600) h2 := ⟨hG2, hX2, by rw [FRM_gi hF2 (a := 171) (r := 54) (k := 29) rfl (by decide)]; exact hI1.2.2.1, (AW_F hF2 (by decide +kernel) hI1.2.2.2).mono (by omega)⟩
  have e4 : gi h2 1 1 = gi h1 1 1 := FRM_gi hF2 (r := 1) rfl (by decide)
  exact ⟨_, w32_r _, by rw [I_w], nofun, hI2, ⟨(by show gi h2 1 1 = gi h2 171 17; rw [e4, t1, t2]), (fun j hj => absurd hj (by rw [e4, t1]; omega)), MC_F hF2 (by decide +kernel) (MC_F hF1 (by decide +kernel) hC.2.2)⟩⟩
theorem pr_sheet {sh : List (Nat × Nat)} {b : Int} {h : aH} (hI : INV sh b h) (hC : CR h) (hb : b ≤ 320000) {x y z u : Int} (rx : r32 x) (ry : r32 y) (rz : r32 z) (ru : r32 u) : CLd SPt 310 mX10_sheet [.ref 0, .int (I x), .int (I y), .int (I z), .int (I u)] h 0 0 (PRQ sh b mX11_sheet [.ref 171, .int (I x), .int (I y), .int (I z), .int (I u)] true) := by
  refine OP_le (Nat.le_of_ble_eq_true rfl) (ctX10_sheetF SPt_mono hI.1 rx ry rz ru) ?_
  rintro v h1 ⟨rfl, hG1, hF1, -⟩
  have hI1 : INV sh b h1 := INV_F hI hG1 hF1 (by decide +kernel)
  refine ⟨_, w32_r _, by rw [I_w], hI1.1, OP_le (Nat.le_of_ble_eq_true rfl) (ctX11_sheetF SPt_mono hI1.1 rx ry rz ru) ?_⟩
  rintro v h2 ⟨rfl, hG2, hF2, -⟩
  have hI2 : INV sh (b + 600) h2 := (INV_F hI1 hG2 hF2 (by decide +kernel)).mono (by omega)
  have e7 : gi h1 171 7 = gi h 0 9 := (FRM_gi hF1 (r := 54) rfl (by decide)).trans hC.2.2.symm
  exact ⟨_, w32_r _, by rw [I_w], fun _ => by rw [e7], hI2, ⟨TS_F hF2 (by decide +kernel) (TS_F hF1 (by decide +kernel) hC.1), TX_F hF2 (by decide +kernel) (TX_F hF1 (by decide +kernel) hC.2.1), MC_F hF2 (by decide +kernel) (MC_F hF1 (by decide +kernel) hC.2.2)⟩⟩
theorem pr_delay {sh : List (Nat × Nat)} {b : Int} {h : aH} (hI : INV sh b h) (hC : CR h) (hb : b ≤ 320000) : CLd SPt 310 mX10_delay [.ref 0] h 0 0 (PRQ sh b mX11_delay [.ref 171] false) := by
  refine CLd_mono (loX10_delay hI hb ) ?_
  rintro v h1 ⟨⟨e1, rfl⟩, hI1, hF1⟩
  refine ⟨w32 e1, w32_r _, by rw [I_w], hI1.1, CLd_mono (loX11_delay hI1 hb ) ?_⟩
  rintro v h2 ⟨⟨e2, rfl⟩, hI2, hF2⟩
  exact ⟨w32 e2, w32_r _, by rw [I_w], nofun, hI2, CR_F hF2 (by decide +kernel) (CR_F hF1 (by decide +kernel) hC)⟩
theorem pr_order {sh : List (Nat × Nat)} {b : Int} {h : aH} (hI : INV sh b h) (hC : CR h) (hb : b ≤ 320000) {x : Int} (rx : r32 x) : CLd SPt 310 mX10_order [.ref 0, .int (I x)] h 0 0 (PRQ sh b mX11_order [.ref 171, .int (I x)] false) := by
  refine CLd_mono (loX10_order hI hb rx) ?_
  rintro v h1 ⟨⟨e1, rfl⟩, hI1, hF1⟩
  refine ⟨w32 e1, w32_r _, by rw [I_w], hI1.1, CLd_mono (loX11_order hI1 hb rx) ?_⟩
  rintro v h2 ⟨⟨e2, rfl⟩, hI2, hF2⟩
  exact ⟨w32 e2, w32_r _, by rw [I_w], nofun, hI2, CR_F hF2 (by decide +kernel) (CR_F hF1 (by decide +kernel) hC)⟩
theorem pr_pass {sh : List (Nat × Nat)} {b : Int} {h : aH} (hI : INV sh b h) (hC : CR h) (hb : b ≤ 320000) {x y z : Int} (rx : r32 x) (ry : r32 y) (rz : r32 z) : CLd SPt 310 mX10_pass [.ref 0, .int (I x), .int (I y), .int (I z)] h 0 0 (PRQ sh b mX11_pass [.ref 171, .int (I x), .int (I y), .int (I z)] false) := by
  refine CLd_mono (loX10_pass hI hb rx ry rz) ?_
  rintro v h1 ⟨⟨e1, rfl⟩, hI1, hF1⟩
  refine ⟨w32 e1, w32_r _, by rw [I_w], hI1.1, CLd_mono (loX11_pass hI1 hb rx ry rz) ?_⟩
  rintro v h2 ⟨⟨e2, rfl⟩, hI2, hF2⟩
  exact ⟨w32 e2, w32_r _, by rw [I_w], nofun, hI2, CR_F hF2 (by decide +kernel) (CR_F hF1 (by decide +kernel) hC)⟩
theorem pr_cook {sh : List (Nat × Nat)} {b : Int} {h : aH} (hI : INV sh b h) (hC : CR h) (hb : b ≤ 320000) {x y : Int} (rx : r32 x) (ry : r32 y) : CLd SPt 310 mX10_cook [.ref 0, .int (I x), .int (I y)] h 0 0 (PRQ sh b mX11_cook [.ref 171, .int (I x), .int (I y)] false) := by
  refine CLd_mono (loX10_cook hI hb rx ry) ?_
  rintro v h1 ⟨⟨e1, rfl⟩, hI1, hF1⟩
  refine ⟨w32 e1, w32_r _, by rw [I_w], hI1.1, CLd_mono (loX11_cook hI1 hb rx ry) ?_⟩
  rintro v h2 ⟨⟨e2, rfl⟩, hI2, hF2⟩
  exact ⟨w32 e2, w32_r _, by rw [I_w], nofun, hI2, CR_F hF2 (by decide +kernel) (CR_F hF1 (by decide +kernel) hC)⟩
theorem pr_steps {sh : List (Nat × Nat)} {b : Int} {h : aH} (hI : INV sh b h) (hC : CR h) (hb : b ≤ 320000) {x : Int} (rx : r32 x) : CLd SPt 310 mX10_steps [.ref 0, .int (I x)] h 0 0 (PRQ sh b mX11_steps [.ref 171, .int (I x)] false) := by
  refine CLd_mono (loX10_steps hI hb rx) ?_
  rintro v h1 ⟨⟨e1, rfl⟩, hI1, hF1⟩
  refine ⟨w32 e1, w32_r _, by rw [I_w], hI1.1, CLd_mono (loX11_steps hI1 hb rx) ?_⟩
  rintro v h2 ⟨⟨e2, rfl⟩, hI2, hF2⟩
  exact ⟨w32 e2, w32_r _, by rw [I_w], nofun, hI2, CR_F hF2 (by decide +kernel) (CR_F hF1 (by decide +kernel) hC)⟩
theorem pr_voyage {sh : List (Nat × Nat)} {b : Int} {h : aH} (hI : INV sh b h) (hC : CR h) (hb : b ≤ 320000) : CLd SPt 310 mX10_voyage [.ref 0] h 0 0 (PRQ sh b mX11_voyage [.ref 171] false) := by
  refine OP_le (Nat.le_of_ble_eq_true rfl) (kX10_voyage_0 SPt_mono [.ref 0] _ hI.2.1 ⟨gv_r (by decide) rfl, trivial⟩ hI.1 gov_n) ?_
  rintro v h1 ⟨hG1, hF1, o, m, q, z, -⟩
  have hI1 : INV sh b h1 := INV_F hI hG1 hF1 (by decide +kernel)
  obtain ⟨e1, re1, rfl⟩ := int_ans m rfl q
  have t1 : gi h1 1 1 = 0 := ov_ans (r := 1) 0 m (by decide +kernel) (by decide) rfl z
  refine ⟨_, w32_r _, by rw [I_w], hI1.1, OP_le (Nat.le_of_ble_eq_true rfl) (ctX11_voyageF SPt_mono hI1.1 hI1.2.1 hI1.2.2.1 hI1.2.2.2 (by omega)) ?_⟩
  rintro v h2 ⟨hd, hG2, hF2, -, t2, hu2, aw2⟩
  obtain ⟨e2, rfl⟩ : ∃ e : Int, v = some (.int (I e)) := by rcases hd with ⟨_, e9, _⟩ | ⟨_, e9, _⟩ <;> exact ⟨_, e9⟩
  have hI2 : INV sh (b + 600) h2 := ⟨hG2, xOk_ok (by decide +kernel) h1 h2 hF2 hI1.2.1, hu2, aw2.mono (by omega)⟩
  have e4 : gi h2 1 1 = gi h1 1 1 := FRM_gi hF2 (r := 1) rfl (by decide)
  exact ⟨_, w32_r _, by rw [I_w], nofun, hI2, ⟨(by show gi h2 1 1 = gi h2 171 17; rw [e4, t1, t2]), (fun j hj => absurd hj (by rw [e4, t1]; omega)), MC_F hF2 (by decide +kernel) (MC_F hF1 (by decide +kernel) hC.2.2)⟩⟩
theorem pr_undo {sh : List (Nat × Nat)} {b : Int} {h : aH} (hI : INV sh b h) (hC : CR h) (hb : b ≤ 320000) : CLd SPt 310 mX10_undo [.ref 0] h 0 0 (PRQ sh b mX11_undo [.ref 171] false) := by
  refine CLd_mono (loX10_undo hI hb ) ?_
  rintro v h1 ⟨⟨e1, rfl⟩, hI1, hF1⟩
  refine ⟨w32 e1, w32_r _, by rw [I_w], hI1.1, CLd_mono (loX11_undo hI1 hb ) ?_⟩
  rintro v h2 ⟨⟨e2, rfl⟩, hI2, hF2⟩
  exact ⟨w32 e2, w32_r _, by rw [I_w], nofun, hI2, CR_F hF2 (by decide +kernel) (CR_F hF1 (by decide +kernel) hC)⟩
theorem pr_lane {sh : List (Nat × Nat)} {b : Int} {h : aH} (hI : INV sh b h) (hC : CR h) (hb : b ≤ 320000) {x : Int} (rx : r32 x) : CLd SPt 310 mX10_lane [.ref 0, .int (I x)] h 0 0 (PRQ sh b mX11_lane [.ref 171, .int (I x)] false) := by
  refine CLd_mono (loX10_lane hI hb rx) ?_
  rintro v h1 ⟨⟨e1, rfl⟩, hI1, hF1⟩
  refine ⟨w32 e1, w32_r _, by rw [I_w], hI1.1, CLd_mono (loX11_lane hI1 hb rx) ?_⟩
  rintro v h2 ⟨⟨e2, rfl⟩, hI2, hF2⟩
  exact ⟨w32 e2, w32_r _, by rw [I_w], nofun, hI2, CR_F hF2 (by decide +kernel) (CR_F hF1 (by decide +kernel) hC)⟩
theorem pr_strikes {sh : List (Nat × Nat)} {b : Int} {h : aH} (hI : INV sh b h) (hC : CR h) (hb : b ≤ 320000) : CLd SPt 310 mX10_strikes [.ref 0] h 0 0 (PRQ sh b mX11_strikes [.ref 171] false) := by
  refine CLd_mono (loX10_strikes hI hb ) ?_
  rintro v h1 ⟨⟨e1, rfl⟩, hI1, hF1⟩
  refine ⟨w32 e1, w32_r _, by rw [I_w], hI1.1, CLd_mono (loX11_strikes hI1 hb ) ?_⟩
  rintro v h2 ⟨⟨e2, rfl⟩, hI2, hF2⟩
  exact ⟨w32 e2, w32_r _, by rw [I_w], nofun, hI2, CR_F hF2 (by decide +kernel) (CR_F hF1 (by decide +kernel) hC)⟩
theorem pr_clears {sh : List (Nat × Nat)} {b : Int} {h : aH} (hI : INV sh b h) (hC : CR h) (hb : b ≤ 320000) : CLd SPt 310 mX10_clears [.ref 0] h 0 0 (PRQ sh b mX11_clears [.ref 171] false) := by
  refine CLd_mono (loX10_clears hI hb ) ?_
  rintro v h1 ⟨⟨e1, rfl⟩, hI1, hF1⟩
  refine ⟨w32 e1, w32_r _, by rw [I_w], hI1.1, CLd_mono (loX11_clears hI1 hb ) ?_⟩
  rintro v h2 ⟨⟨e2, rfl⟩, hI2, hF2⟩
  exact ⟨w32 e2, w32_r _, by rw [I_w], nofun, hI2, CR_F hF2 (by decide +kernel) (CR_F hF1 (by decide +kernel) hC)⟩
theorem pr_plan {sh : List (Nat × Nat)} {b : Int} {h : aH} (hI : INV sh b h) (hC : CR h) (hb : b ≤ 320000) {x : Int} (rx : r32 x) : CLd SPt 310 mX10_plan [.ref 0, .int (I x)] h 0 0 (PRQ sh b mX11_plan [.ref 171, .int (I x)] false) := by
  refine CLd_mono (loX10_plan hI hb rx) ?_
  rintro v h1 ⟨⟨e1, rfl⟩, hI1, hF1⟩
  refine ⟨w32 e1, w32_r _, by rw [I_w], hI1.1, CLd_mono (loX11_plan hI1 hb rx) ?_⟩
  rintro v h2 ⟨⟨e2, rfl⟩, hI2, hF2⟩
  exact ⟨w32 e2, w32_r _, by rw [I_w], nofun, hI2, CR_F hF2 (by decide +kernel) (CR_F hF1 (by decide +kernel) hC)⟩
theorem pr_latest {sh : List (Nat × Nat)} {b : Int} {h : aH} (hI : INV sh b h) (hC : CR h) (hb : b ≤ 320000) {x : Int} (rx : r32 x) : CLd SPt 310 mX10_latest [.ref 0, .int (I x)] h 0 0 (PRQ sh b mX11_latest [.ref 171, .int (I x)] false) := by
  refine CLd_mono (loX10_latest hI hb rx) ?_
  rintro v h1 ⟨⟨e1, rfl⟩, hI1, hF1⟩
  refine ⟨w32 e1, w32_r _, by rw [I_w], hI1.1, CLd_mono (loX11_latest hI1 hb rx) ?_⟩
  rintro v h2 ⟨⟨e2, rfl⟩, hI2, hF2⟩
  exact ⟨w32 e2, w32_r _, by rw [I_w], nofun, hI2, CR_F hF2 (by decide +kernel) (CR_F hF1 (by decide +kernel) hC)⟩
theorem pr_lanes {sh : List (Nat × Nat)} {b : Int} {h : aH} (hI : INV sh b h) (hC : CR h) (hb : b ≤ 320000) {x : Int} (rx : r32 x) : CLd SPt 310 mX10_lanes [.ref 0, .int (I x)] h 0 0 (PRQ sh b mX11_lanes [.ref 171, .int (I x)] false) := by
  refine CLd_mono (loX10_lanes hI hb rx) ?_
  rintro v h1 ⟨⟨e1, rfl⟩, hI1, hF1⟩
  refine ⟨w32 e1, w32_r _, by rw [I_w], hI1.1, CLd_mono (loX11_lanes hI1 hb rx) ?_⟩
  rintro v h2 ⟨⟨e2, rfl⟩, hI2, hF2⟩
  exact ⟨w32 e2, w32_r _, by rw [I_w], nofun, hI2, CR_F hF2 (by decide +kernel) (CR_F hF1 (by decide +kernel) hC)⟩
theorem pr_safest {sh : List (Nat × Nat)} {b : Int} {h : aH} (hI : INV sh b h) (hC : CR h) (hb : b ≤ 320000) {x : Int} (rx : r32 x) : CLd SPt 310 mX10_safest [.ref 0, .int (I x)] h 0 0 (PRQ sh b mX11_safest [.ref 171, .int (I x)] false) := by
  refine CLd_mono (loX10_safest hI hb rx) ?_
  rintro v h1 ⟨⟨e1, rfl⟩, hI1, hF1⟩
  refine ⟨w32 e1, w32_r _, by rw [I_w], hI1.1, CLd_mono (loX11_safest hI1 hb rx) ?_⟩
  rintro v h2 ⟨⟨e2, rfl⟩, hI2, hF2⟩
  exact ⟨w32 e2, w32_r _, by rw [I_w], nofun, hI2, CR_F hF2 (by decide +kernel) (CR_F hF1 (by decide +kernel) hC)⟩
theorem pr_late {sh : List (Nat × Nat)} {b : Int} {h : aH} (hI : INV sh b h) (hC : CR h) (hb : b ≤ 320000) {x : Int} (rx : r32 x) : CLd SPt 310 mX10_late [.ref 0, .int (I x)] h 0 0 (PRQ sh b mX11_late [.ref 171, .int (I x)] false) := by
  refine CLd_mono (loX10_late hI hb rx) ?_
  rintro v h1 ⟨⟨e1, rfl⟩, hI1, hF1⟩
  refine ⟨w32 e1, w32_r _, by rw [I_w], hI1.1, CLd_mono (loX11_late hI1 hb rx) ?_⟩
  rintro v h2 ⟨⟨e2, rfl⟩, hI2, hF2⟩
  exact ⟨w32 e2, w32_r _, by rw [I_w], nofun, hI2, CR_F hF2 (by decide +kernel) (CR_F hF1 (by decide +kernel) hC)⟩
theorem pr_comes {sh : List (Nat × Nat)} {b : Int} {h : aH} (hI : INV sh b h) (hC : CR h) (hb : b ≤ 320000) {x : Int} (rx : r32 x) : CLd SPt 310 mX10_comes [.ref 0, .int (I x)] h 0 0 (PRQ sh b mX11_comes [.ref 171, .int (I x)] false) := by
  refine CLd_mono (loX10_comes hI hb rx) ?_
  rintro v h1 ⟨⟨e1, rfl⟩, hI1, hF1⟩
  refine ⟨w32 e1, w32_r _, by rw [I_w], hI1.1, CLd_mono (loX11_comes hI1 hb rx) ?_⟩
  rintro v h2 ⟨⟨e2, rfl⟩, hI2, hF2⟩
  exact ⟨w32 e2, w32_r _, by rw [I_w], nofun, hI2, CR_F hF2 (by decide +kernel) (CR_F hF1 (by decide +kernel) hC)⟩
theorem pr_relay {sh : List (Nat × Nat)} {b : Int} {h : aH} (hI : INV sh b h) (hC : CR h) (hb : b ≤ 320000) {x : Int} (rx : r32 x) : CLd SPt 310 mX10_relay [.ref 0, .int (I x)] h 0 0 (PRQ sh b mX11_relay [.ref 171, .int (I x)] false) := by
  refine CLd_mono (loX10_relay hI hb rx) ?_
  rintro v h1 ⟨⟨e1, rfl⟩, hI1, hF1⟩
  refine ⟨w32 e1, w32_r _, by rw [I_w], hI1.1, CLd_mono (loX11_relay hI1 hb rx) ?_⟩
  rintro v h2 ⟨⟨e2, rfl⟩, hI2, hF2⟩
  exact ⟨w32 e2, w32_r _, by rw [I_w], nofun, hI2, CR_F hF2 (by decide +kernel) (CR_F hF1 (by decide +kernel) hC)⟩
theorem pr_fewest {sh : List (Nat × Nat)} {b : Int} {h : aH} (hI : INV sh b h) (hC : CR h) (hb : b ≤ 320000) {x : Int} (rx : r32 x) : CLd SPt 310 mX10_fewest [.ref 0, .int (I x)] h 0 0 (PRQ sh b mX11_fewest [.ref 171, .int (I x)] false) := by
  refine CLd_mono (loX10_fewest hI hb rx) ?_
  rintro v h1 ⟨⟨e1, rfl⟩, hI1, hF1⟩
  refine ⟨w32 e1, w32_r _, by rw [I_w], hI1.1, CLd_mono (loX11_fewest hI1 hb rx) ?_⟩
  rintro v h2 ⟨⟨e2, rfl⟩, hI2, hF2⟩
  exact ⟨w32 e2, w32_r _, by rw [I_w], nofun, hI2, CR_F hF2 (by decide +kernel) (CR_F hF1 (by decide +kernel) hC)⟩
theorem pr_word {sh : List (Nat × Nat)} {b : Int} {h : aH} (hI : INV sh b h) (hC : CR h) (hb : b ≤ 320000) {x y : Int} (rx : r32 x) (ry : r32 y) : CLd SPt 310 mX10_word [.ref 0, .int (I x), .int (I y)] h 0 0 (PRQ sh b mX11_word [.ref 171, .int (I x), .int (I y)] false) := by
  refine CLd_mono (loX10_word hI hb rx ry) ?_
  rintro v h1 ⟨⟨e1, rfl⟩, hI1, hF1⟩
  refine ⟨w32 e1, w32_r _, by rw [I_w], hI1.1, CLd_mono (loX11_word hI1 hb rx ry) ?_⟩
  rintro v h2 ⟨⟨e2, rfl⟩, hI2, hF2⟩
  exact ⟨w32 e2, w32_r _, by rw [I_w], nofun, hI2, CR_F hF2 (by decide +kernel) (CR_F hF1 (by decide +kernel) hC)⟩
theorem pr_survives {sh : List (Nat × Nat)} {b : Int} {h : aH} (hI : INV sh b h) (hC : CR h) (hb : b ≤ 320000) {x y : Int} (rx : r32 x) (ry : r32 y) : CLd SPt 310 mX10_survives [.ref 0, .int (I x), .int (I y)] h 0 0 (PRQ sh b mX11_survives [.ref 171, .int (I x), .int (I y)] false) := by
  refine CLd_mono (loX10_survives hI hb rx ry) ?_
  rintro v h1 ⟨⟨e1, rfl⟩, hI1, hF1⟩
  refine ⟨w32 e1, w32_r _, by rw [I_w], hI1.1, CLd_mono (loX11_survives hI1 hb rx ry) ?_⟩
  rintro v h2 ⟨⟨e2, rfl⟩, hI2, hF2⟩
  exact ⟨w32 e2, w32_r _, by rw [I_w], nofun, hI2, CR_F hF2 (by decide +kernel) (CR_F hF1 (by decide +kernel) hC)⟩
theorem pr_lives {sh : List (Nat × Nat)} {b : Int} {h : aH} (hI : INV sh b h) (hC : CR h) (hb : b ≤ 320000) {x : Int} (rx : r32 x) : CLd SPt 310 mX10_lives [.ref 0, .int (I x)] h 0 0 (PRQ sh b mX11_lives [.ref 171, .int (I x)] false) := by
  refine CLd_mono (loX10_lives hI hb rx) ?_
  rintro v h1 ⟨⟨e1, rfl⟩, hI1, hF1⟩
  refine ⟨w32 e1, w32_r _, by rw [I_w], hI1.1, CLd_mono (loX11_lives hI1 hb rx) ?_⟩
  rintro v h2 ⟨⟨e2, rfl⟩, hI2, hF2⟩
  exact ⟨w32 e2, w32_r _, by rw [I_w], nofun, hI2, CR_F hF2 (by decide +kernel) (CR_F hF1 (by decide +kernel) hC)⟩
theorem pr_shares {sh : List (Nat × Nat)} {b : Int} {h : aH} (hI : INV sh b h) (hC : CR h) (hb : b ≤ 320000) {x : Int} (rx : r32 x) : CLd SPt 310 mX10_shares [.ref 0, .int (I x)] h 0 0 (PRQ sh b mX11_shares [.ref 171, .int (I x)] false) := by
  refine CLd_mono (loX10_shares hI hb rx) ?_
  rintro v h1 ⟨⟨e1, rfl⟩, hI1, hF1⟩
  refine ⟨w32 e1, w32_r _, by rw [I_w], hI1.1, CLd_mono (loX11_shares hI1 hb rx) ?_⟩
  rintro v h2 ⟨⟨e2, rfl⟩, hI2, hF2⟩
  exact ⟨w32 e2, w32_r _, by rw [I_w], nofun, hI2, CR_F hF2 (by decide +kernel) (CR_F hF1 (by decide +kernel) hC)⟩
theorem pr_fast {sh : List (Nat × Nat)} {b : Int} {h : aH} (hI : INV sh b h) (hC : CR h) (hb : b ≤ 320000) {x : Int} (rx : r32 x) : CLd SPt 310 mX10_fast [.ref 0, .int (I x)] h 0 0 (PRQ sh b mX11_fast [.ref 171, .int (I x)] false) := by
  refine CLd_mono (loX10_fast hI hb rx) ?_
  rintro v h1 ⟨⟨e1, rfl⟩, hI1, hF1⟩
  refine ⟨w32 e1, w32_r _, by rw [I_w], hI1.1, CLd_mono (loX11_fast hI1 hb rx) ?_⟩
  rintro v h2 ⟨⟨e2, rfl⟩, hI2, hF2⟩
  exact ⟨w32 e2, w32_r _, by rw [I_w], nofun, hI2, CR_F hF2 (by decide +kernel) (CR_F hF1 (by decide +kernel) hC)⟩
theorem pr_seen {sh : List (Nat × Nat)} {b : Int} {h : aH} (hI : INV sh b h) (hC : CR h) (hb : b ≤ 320000) {x y : Int} (rx : r32 x) (ry : r32 y) : CLd SPt 310 mX10_seen [.ref 0, .int (I x), .int (I y)] h 0 0 (PRQ sh b mX11_seen [.ref 171, .int (I x), .int (I y)] false) := by
  refine CLd_mono (loX10_seen hI hb rx ry) ?_
  rintro v h1 ⟨⟨e1, rfl⟩, hI1, hF1⟩
  refine ⟨w32 e1, w32_r _, by rw [I_w], hI1.1, CLd_mono (loX11_seen hI1 hb rx ry) ?_⟩
  rintro v h2 ⟨⟨e2, rfl⟩, hI2, hF2⟩
  exact ⟨w32 e2, w32_r _, by rw [I_w], nofun, hI2, CR_F hF2 (by decide +kernel) (CR_F hF1 (by decide +kernel) hC)⟩
theorem pr_forget {sh : List (Nat × Nat)} {b : Int} {h : aH} (hI : INV sh b h) (hC : CR h) (hb : b ≤ 320000) : CLd SPt 310 mX10_forget [.ref 0] h 0 0 (PRQ sh b mX11_forget [.ref 171] false) := by
  refine CLd_mono (loX10_forget hI hb ) ?_
  rintro v h1 ⟨⟨e1, rfl⟩, hI1, hF1⟩
  refine ⟨w32 e1, w32_r _, by rw [I_w], hI1.1, CLd_mono (loX11_forget hI1 hb ) ?_⟩
  rintro v h2 ⟨⟨e2, rfl⟩, hI2, hF2⟩
  exact ⟨w32 e2, w32_r _, by rw [I_w], nofun, hI2, CR_F hF2 (by decide +kernel) (CR_F hF1 (by decide +kernel) hC)⟩
theorem pr_ordered {sh : List (Nat × Nat)} {b : Int} {h : aH} (hI : INV sh b h) (hC : CR h) (hb : b ≤ 320000) : CLd SPt 310 mX10_ordered [.ref 0] h 0 0 (PRQ sh b mX11_ordered [.ref 171] false) := by
  refine CLd_mono (loX10_ordered hI hb ) ?_
  rintro v h1 ⟨⟨e1, rfl⟩, hI1, hF1⟩
  refine ⟨w32 e1, w32_r _, by rw [I_w], hI1.1, CLd_mono (loX11_ordered hI1 hb ) ?_⟩
  rintro v h2 ⟨⟨e2, rfl⟩, hI2, hF2⟩
  exact ⟨w32 e2, w32_r _, by rw [I_w], nofun, hI2, CR_F hF2 (by decide +kernel) (CR_F hF1 (by decide +kernel) hC)⟩
theorem pr_unsure {sh : List (Nat × Nat)} {b : Int} {h : aH} (hI : INV sh b h) (hC : CR h) (hb : b ≤ 320000) : CLd SPt 310 mX10_unsure [.ref 0] h 0 0 (PRQ sh b mX11_unsure [.ref 171] false) := by
  refine CLd_mono (loX10_unsure hI hb ) ?_
  rintro v h1 ⟨⟨e1, rfl⟩, hI1, hF1⟩
  refine ⟨w32 e1, w32_r _, by rw [I_w], hI1.1, CLd_mono (loX11_unsure hI1 hb ) ?_⟩
  rintro v h2 ⟨⟨e2, rfl⟩, hI2, hF2⟩
  exact ⟨w32 e2, w32_r _, by rw [I_w], nofun, hI2, CR_F hF2 (by decide +kernel) (CR_F hF1 (by decide +kernel) hC)⟩
theorem pr_boy {sh : List (Nat × Nat)} {b : Int} {h : aH} (hI : INV sh b h) (hC : CR h) (hb : b ≤ 320000) {x y : Int} (rx : r32 x) (ry : r32 y) : CLd SPt 310 mX10_boy [.ref 0, .int (I x), .int (I y)] h 0 0 (PRQ sh b mX11_boy [.ref 171, .int (I x), .int (I y)] false) := by
  refine CLd_mono (loX10_boy hI hb rx ry) ?_
  rintro v h1 ⟨⟨e1, rfl⟩, hI1, hF1⟩
  refine ⟨w32 e1, w32_r _, by rw [I_w], hI1.1, CLd_mono (loX11_boy hI1 hb rx ry) ?_⟩
  rintro v h2 ⟨⟨e2, rfl⟩, hI2, hF2⟩
  exact ⟨w32 e2, w32_r _, by rw [I_w], nofun, hI2, CR_F hF2 (by decide +kernel) (CR_F hF1 (by decide +kernel) hC)⟩
theorem pr_meets {sh : List (Nat × Nat)} {b : Int} {h : aH} (hI : INV sh b h) (hC : CR h) (hb : b ≤ 320000) {x : Int} (rx : r32 x) : CLd SPt 310 mX10_meets [.ref 0, .int (I x)] h 0 0 (PRQ sh b mX11_meets [.ref 171, .int (I x)] false) := by
  refine CLd_mono (loX10_meets hI hb rx) ?_
  rintro v h1 ⟨⟨e1, rfl⟩, hI1, hF1⟩
  refine ⟨w32 e1, w32_r _, by rw [I_w], hI1.1, CLd_mono (loX11_meets hI1 hb rx) ?_⟩
  rintro v h2 ⟨⟨e2, rfl⟩, hI2, hF2⟩
  exact ⟨w32 e2, w32_r _, by rw [I_w], nofun, hI2, CR_F hF2 (by decide +kernel) (CR_F hF1 (by decide +kernel) hC)⟩
theorem pr_knows {sh : List (Nat × Nat)} {b : Int} {h : aH} (hI : INV sh b h) (hC : CR h) (hb : b ≤ 320000) {x y : Int} (rx : r32 x) (ry : r32 y) : CLd SPt 310 mX10_knows [.ref 0, .int (I x), .int (I y)] h 0 0 (PRQ sh b mX11_knows [.ref 171, .int (I x), .int (I y)] false) := by
  refine CLd_mono (loX10_knows hI hb rx ry) ?_
  rintro v h1 ⟨⟨e1, rfl⟩, hI1, hF1⟩
  refine ⟨w32 e1, w32_r _, by rw [I_w], hI1.1, CLd_mono (loX11_knows hI1 hb rx ry) ?_⟩
  rintro v h2 ⟨⟨e2, rfl⟩, hI2, hF2⟩
  exact ⟨w32 e2, w32_r _, by rw [I_w], nofun, hI2, CR_F hF2 (by decide +kernel) (CR_F hF1 (by decide +kernel) hC)⟩
theorem pr_mutiny {sh : List (Nat × Nat)} {b : Int} {h : aH} (hI : INV sh b h) (hC : CR h) (hb : b ≤ 320000) {x y z : Int} (rx : r32 x) (ry : r32 y) (rz : r32 z) : CLd SPt 310 mX10_mutiny [.ref 0, .int (I x), .int (I y), .int (I z)] h 0 0 (PRQ sh b mX11_mutiny [.ref 171, .int (I x), .int (I y), .int (I z)] false) := by
  refine CLd_mono (loX10_mutiny hI hb rx ry rz) ?_
  rintro v h1 ⟨⟨e1, rfl⟩, hI1, hF1⟩
  refine ⟨w32 e1, w32_r _, by rw [I_w], hI1.1, CLd_mono (loX11_mutiny hI1 hb rx ry rz) ?_⟩
  rintro v h2 ⟨⟨e2, rfl⟩, hI2, hF2⟩
  exact ⟨w32 e2, w32_r _, by rw [I_w], nofun, hI2, CR_F hF2 (by decide +kernel) (CR_F hF1 (by decide +kernel) hC)⟩
theorem pr_chance {sh : List (Nat × Nat)} {b : Int} {h : aH} (hI : INV sh b h) (hC : CR h) (hb : b ≤ 320000) {x y z : Int} (rx : r32 x) (ry : r32 y) (rz : r32 z) : CLd SPt 310 mX10_chance [.ref 0, .int (I x), .int (I y), .int (I z)] h 0 0 (PRQ sh b mX11_chance [.ref 171, .int (I x), .int (I y), .int (I z)] false) := by
  refine CLd_mono (loX10_chance hI hb rx ry rz) ?_
  rintro v h1 ⟨⟨e1, rfl⟩, hI1, hF1⟩
  refine ⟨w32 e1, w32_r _, by rw [I_w], hI1.1, CLd_mono (loX11_chance hI1 hb rx ry rz) ?_⟩
  rintro v h2 ⟨⟨e2, rfl⟩, hI2, hF2⟩
  exact ⟨w32 e2, w32_r _, by rw [I_w], nofun, hI2, CR_F hF2 (by decide +kernel) (CR_F hF1 (by decide +kernel) hC)⟩
theorem pr_voyages {sh : List (Nat × Nat)} {b : Int} {h : aH} (hI : INV sh b h) (hC : CR h) (hb : b ≤ 320000) {x y : Int} (rx : r32 x) (ry : r32 y) : CLd SPt 310 mX10_voyages [.ref 0, .int (I x), .int (I y)] h 0 0 (PRQ sh b mX11_voyages [.ref 171, .int (I x), .int (I y)] false) := by
  refine CLd_mono (loX10_voyages hI hb rx ry) ?_
  rintro v h1 ⟨⟨e1, rfl⟩, hI1, hF1⟩
  refine ⟨w32 e1, w32_r _, by rw [I_w], hI1.1, CLd_mono (loX11_voyages hI1 hb rx ry) ?_⟩
  rintro v h2 ⟨⟨e2, rfl⟩, hI2, hF2⟩
  exact ⟨w32 e2, w32_r _, by rw [I_w], nofun, hI2, CR_F hF2 (by decide +kernel) (CR_F hF1 (by decide +kernel) hC)⟩
theorem pr_keep {sh : List (Nat × Nat)} {b : Int} {h : aH} (hI : INV sh b h) (hC : CR h) (hb : b ≤ 320000) {x : Int} (rx : r32 x) : CLd SPt 310 mX10_keep [.ref 0, .int (I x)] h 0 0 (PRQ sh b mX11_keep [.ref 171, .int (I x)] false) := by
  refine CLd_mono (loX10_keep hI hb rx) ?_
  rintro v h1 ⟨⟨e1, rfl⟩, hI1, hF1⟩
  refine ⟨w32 e1, w32_r _, by rw [I_w], hI1.1, CLd_mono (loX11_keep hI1 hb rx) ?_⟩
  rintro v h2 ⟨rfl, hI2, hF2⟩
  exact ⟨w32 _, w32_r _, by rw [I_w], nofun, hI2, CR_F hF2 (by decide +kernel) (CR_F hF1 (by decide +kernel) hC)⟩
theorem pr_again {sh : List (Nat × Nat)} {b : Int} {h : aH} (hI : INV sh b h) (hC : CR h) (hb : b ≤ 320000) {x : Int} (rx : r32 x) : CLd SPt 310 mX10_again [.ref 0, .int (I x)] h 0 0 (PRQ sh b mX11_again [.ref 171, .int (I x)] false) := by
  refine CLd_mono (loX10_again hI hb rx) ?_
  rintro v h1 ⟨⟨e1, rfl⟩, hI1, hF1⟩
  refine ⟨w32 e1, w32_r _, by rw [I_w], hI1.1, CLd_mono (loX11_again hI1 hb rx) ?_⟩
  rintro v h2 ⟨⟨e2, rfl⟩, hI2, hF2⟩
  exact ⟨w32 e2, w32_r _, by rw [I_w], nofun, hI2, CR_F hF2 (by decide +kernel) (CR_F hF1 (by decide +kernel) hC)⟩
theorem pr_count {sh : List (Nat × Nat)} {b : Int} {h : aH} (hI : INV sh b h) (hC : CR h) (hb : b ≤ 320000) {x : Int} (rx : r32 x) : CLd SPt 310 mX10_count [.ref 0, .int (I x)] h 0 0 (PRQ sh b mX11_count [.ref 171, .int (I x)] false) := by
  refine CLd_mono (loX10_count hI hb rx) ?_
  rintro v h1 ⟨⟨e1, rfl⟩, hI1, hF1⟩
  refine ⟨w32 e1, w32_r _, by rw [I_w], hI1.1, CLd_mono (loX11_count hI1 hb rx) ?_⟩
  rintro v h2 ⟨⟨e2, rfl⟩, hI2, hF2⟩
  exact ⟨w32 e2, w32_r _, by rw [I_w], nofun, hI2, CR_F hF2 (by decide +kernel) (CR_F hF1 (by decide +kernel) hC)⟩
