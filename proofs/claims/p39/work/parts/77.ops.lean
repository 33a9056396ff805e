/-! BETWEEN THE LAW'S CALLS -/
noncomputable def ivOk (M : MD) : Bool := awOk M && (xOk M && !(mHas M 0 54 29))
/-- what holds between calls -/
noncomputable def INV (sh : List (Nat × Nat)) (b : Int) (h : aH) : Prop := GD gE gRL sh h ∧ XI h ∧ (0 ≤ gi h 171 29 ∧ gi h 171 29 ≤ 15) ∧ AW b h
theorem INV.mono {sh : List (Nat × Nat)} {b c : Int} {h : aH} (hI : INV sh b h) (hb : b ≤ c) : INV sh c h := ⟨hI.1, hI.2.1, hI.2.2.1, hI.2.2.2.mono hb⟩
theorem INV_F {sh : List (Nat × Nat)} {b : Int} {h h' : aH} {M : MD} (hI : INV sh b h) (hG : GD gE gRL sh h') (hF : FRM gRL M h h') (hm : ivOk M = true) : INV sh b h' := by
  unfold ivOk at hm
  simp only [Bool.and_eq_true, Bool.not_eq_true'] at hm
  refine ⟨hG, xOk_ok hm.2.1 h h' hF hI.2.1, ?_, AW_F hF hm.1 hI.2.2.2⟩
  rw [FRM_gi hF (a := 171) (r := 54) rfl hm.2.2]
  exact hI.2.2.1
theorem INV_J {sh : List (Nat × Nat)} {b : Int} {h : aH} {a k : Nat} {v : Int64} (hI : INV sh b h) : INV sh b (sJ h a k v) := hI
noncomputable abbrev OPQ (sh : List (Nat × Nat)) (b : Int) (M : MD) (h : aH) : QT := fun rv h' => (∃ e : Int, rv = some (.int (I e))) ∧ INV sh b h' ∧ FRM gRL M h h'
theorem OP_le {d mid : Nat} {as : List Value} {h : aH} {Q Q' : QT} (hd : d ≤ 310) (hc : CLd SPt d mid as h 0 0 Q) (hq : ∀ rv h', Q rv h' → Q' rv h') : CLd SPt 310 mid as h 0 0 Q' := MONO_CLd SPt_mono 310 _ _ _ _ _ _ _ hq (CLd_le hd hc)
theorem loX10_sign {sh : List (Nat × Nat)} {b : Int} {h : aH} (hI : INV sh b h) (hb : b ≤ 320000) {x : Int} (rx : r32 x) : CLd SPt 310 mX10_sign [.ref 0, .int (I x)] h 0 0 (OPQ sh b sX10_sign_0.2.2.2.2 h) := by
  refine OP_le (Nat.le_of_ble_eq_true rfl) (kX10_sign_0 SPt_mono [.ref 0, .int (I x)] _ hI.2.1 ⟨gv_r (by decide) rfl, ⟨_, rfl, i32_lo _, i32_hi _, trivial⟩, trivial⟩ hI.1 gov_n) ?_
  rintro v h' ⟨hG, hF, o, m, q, z, -⟩
  obtain ⟨e, re, rfl⟩ := int_ans m rfl q
  exact ⟨⟨e, rfl⟩, (INV_F hI hG hF (by decide +kernel)).mono (by omega), hF⟩
theorem loX10_end {sh : List (Nat × Nat)} {b : Int} {h : aH} (hI : INV sh b h) (hb : b ≤ 320000) {x : Int} (rx : r32 x) : CLd SPt 310 mX10_end [.ref 0, .int (I x)] h 0 0 (OPQ sh b sX10_end_0.2.2.2.2 h) := by
  refine OP_le (Nat.le_of_ble_eq_true rfl) (kX10_end_0 SPt_mono [.ref 0, .int (I x)] _ hI.2.1 ⟨gv_r (by decide) rfl, ⟨_, rfl, i32_lo _, i32_hi _, trivial⟩, trivial⟩ hI.1 gov_n) ?_
  rintro v h' ⟨hG, hF, o, m, q, z, -⟩
  obtain ⟨e, re, rfl⟩ := int_ans m rfl q
  exact ⟨⟨e, rfl⟩, (INV_F hI hG hF (by decide +kernel)).mono (by omega), hF⟩
theorem loX10_ship {sh : List (Nat × Nat)} {b : Int} {h : aH} (hI : INV sh b h) (hb : b ≤ 320000) : CLd SPt 310 mX10_ship [.ref 0] h 0 0 (OPQ sh b sX10_ship_0.2.2.2.2 h) := by
  refine OP_le (Nat.le_of_ble_eq_true rfl) (kX10_ship_0 SPt_mono [.ref 0] _ hI.2.1 ⟨gv_r (by decide) rfl, trivial⟩ hI.1 gov_n) ?_
  rintro v h' ⟨hG, hF, o, m, q, z, -⟩
  obtain ⟨e, re, rfl⟩ := int_ans m rfl q
  exact ⟨⟨e, rfl⟩, (INV_F hI hG hF (by decide +kernel)).mono (by omega), hF⟩
theorem loX10_rocks {sh : List (Nat × Nat)} {b : Int} {h : aH} (hI : INV sh b h) (hb : b ≤ 320000) : CLd SPt 310 mX10_rocks [.ref 0] h 0 0 (OPQ sh b sX10_rocks_0.2.2.2.2 h) := by
  refine OP_le (Nat.le_of_ble_eq_true rfl) (kX10_rocks_0 SPt_mono [.ref 0] _ hI.2.1 ⟨gv_r (by decide) rfl, trivial⟩ hI.1 gov_n) ?_
  rintro v h' ⟨hG, hF, o, m, q, z, -⟩
  obtain ⟨e, re, rfl⟩ := int_ans m rfl q
  exact ⟨⟨e, rfl⟩, (INV_F hI hG hF (by decide +kernel)).mono (by omega), hF⟩
theorem loX10_messes {sh : List (Nat × Nat)} {b : Int} {h : aH} (hI : INV sh b h) (hb : b ≤ 320000) : CLd SPt 310 mX10_messes [.ref 0] h 0 0 (OPQ sh b sX10_messes_0.2.2.2.2 h) := by
  refine OP_le (Nat.le_of_ble_eq_true rfl) (kX10_messes_0 SPt_mono [.ref 0] _ hI.2.1 ⟨gv_r (by decide) rfl, trivial⟩ hI.1 gov_n) ?_
  rintro v h' ⟨hG, hF, o, m, q, z, -⟩
  obtain ⟨e, re, rfl⟩ := int_ans m rfl q
  exact ⟨⟨e, rfl⟩, (INV_F hI hG hF (by decide +kernel)).mono (by omega), hF⟩
theorem loX10_rule {sh : List (Nat × Nat)} {b : Int} {h : aH} (hI : INV sh b h) (hb : b ≤ 320000) : CLd SPt 310 mX10_rule [.ref 0] h 0 0 (OPQ sh b sX10_rule_0.2.2.2.2 h) := by
  refine OP_le (Nat.le_of_ble_eq_true rfl) (kX10_rule_0 SPt_mono [.ref 0] _ hI.2.1 ⟨gv_r (by decide) rfl, trivial⟩ hI.1 gov_n) ?_
  rintro v h' ⟨hG, hF, o, m, q, z, -⟩
  obtain ⟨e, re, rfl⟩ := int_ans m rfl q
  exact ⟨⟨e, rfl⟩, (INV_F hI hG hF (by decide +kernel)).mono (by omega), hF⟩
theorem loX10_sheet {sh : List (Nat × Nat)} {b : Int} {h : aH} (hI : INV sh b h) (hb : b ≤ 320000) {x y z u : Int} (rx : r32 x) (ry : r32 y) (rz : r32 z) (ru : r32 u) : CLd SPt 310 mX10_sheet [.ref 0, .int (I x), .int (I y), .int (I z), .int (I u)] h 0 0 (OPQ sh b sX10_sheet_0.2.2.2.2 h) := by
  refine OP_le (Nat.le_of_ble_eq_true rfl) (kX10_sheet_0 SPt_mono [.ref 0, .int (I x), .int (I y), .int (I z), .int (I u)] _ hI.2.1 ⟨gv_r (by decide) rfl, ⟨_, rfl, i32_lo _, i32_hi _, trivial⟩, ⟨_, rfl, i32_lo _, i32_hi _, trivial⟩, ⟨_, rfl, i32_lo _, i32_hi _, trivial⟩, ⟨_, rfl, i32_lo _, i32_hi _, trivial⟩, trivial⟩ hI.1 gov_n) ?_
  rintro v h' ⟨hG, hF, o, m, q, z, -⟩
  obtain ⟨e, re, rfl⟩ := int_ans m rfl q
  exact ⟨⟨e, rfl⟩, (INV_F hI hG hF (by decide +kernel)).mono (by omega), hF⟩
theorem loX10_delay {sh : List (Nat × Nat)} {b : Int} {h : aH} (hI : INV sh b h) (hb : b ≤ 320000) : CLd SPt 310 mX10_delay [.ref 0] h 0 0 (OPQ sh b sX10_delay_0.2.2.2.2 h) := by
  refine OP_le (Nat.le_of_ble_eq_true rfl) (kX10_delay_0 SPt_mono [.ref 0] _ hI.2.1 ⟨gv_r (by decide) rfl, trivial⟩ hI.1 gov_n) ?_
  rintro v h' ⟨hG, hF, o, m, q, z, -⟩
  obtain ⟨e, re, rfl⟩ := int_ans m rfl q
  exact ⟨⟨e, rfl⟩, (INV_F hI hG hF (by decide +kernel)).mono (by omega), hF⟩
theorem loX10_order {sh : List (Nat × Nat)} {b : Int} {h : aH} (hI : INV sh b h) (hb : b ≤ 320000) {x : Int} (rx : r32 x) : CLd SPt 310 mX10_order [.ref 0, .int (I x)] h 0 0 (OPQ sh b sX10_order_0.2.2.2.2 h) := by
  refine OP_le (Nat.le_of_ble_eq_true rfl) (kX10_order_0 SPt_mono [.ref 0, .int (I x)] _ hI.2.1 ⟨gv_r (by decide) rfl, ⟨_, rfl, i32_lo _, i32_hi _, trivial⟩, trivial⟩ hI.1 gov_n) ?_
  rintro v h' ⟨hG, hF, o, m, q, z, -⟩
  obtain ⟨e, re, rfl⟩ := int_ans m rfl q
  exact ⟨⟨e, rfl⟩, (INV_F hI hG hF (by decide +kernel)).mono (by omega), hF⟩
theorem loX10_pass {sh : List (Nat × Nat)} {b : Int} {h : aH} (hI : INV sh b h) (hb : b ≤ 320000) {x y z : Int} (rx : r32 x) (ry : r32 y) (rz : r32 z) : CLd SPt 310 mX10_pass [.ref 0, .int (I x), .int (I y), .int (I z)] h 0 0 (OPQ sh b sX10_pass_0.2.2.2.2 h) := by
  refine OP_le (Nat.le_of_ble_eq_true rfl) (kX10_pass_0 SPt_mono [.ref 0, .int (I x), .int (I y), .int (I z)] _ hI.2.1 ⟨gv_r (by decide) rfl, ⟨_, rfl, i32_lo _, i32_hi _, trivial⟩, ⟨_, rfl, i32_lo _, i32_hi _, trivial⟩, ⟨_, rfl, i32_lo _, i32_hi _, trivial⟩, trivial⟩ hI.1 gov_n) ?_
  rintro v h' ⟨hG, hF, o, m, q, z, -⟩
  obtain ⟨e, re, rfl⟩ := int_ans m rfl q
  exact ⟨⟨e, rfl⟩, (INV_F hI hG hF (by decide +kernel)).mono (by omega), hF⟩
theorem loX10_cook {sh : List (Nat × Nat)} {b : Int} {h : aH} (hI : INV sh b h) (hb : b ≤ 320000) {x y : Int} (rx : r32 x) (ry : r32 y) : CLd SPt 310 mX10_cook [.ref 0, .int (I x), .int (I y)] h 0 0 (OPQ sh b sX10_cook_0.2.2.2.2 h) := by
  refine OP_le (Nat.le_of_ble_eq_true rfl) (kX10_cook_0 SPt_mono [.ref 0, .int (I x), .int (I y)] _ hI.2.1 ⟨gv_r (by decide) rfl, ⟨_, rfl, i32_lo _, i32_hi _, trivial⟩, ⟨_, rfl, i32_lo _, i32_hi _, trivial⟩, trivial⟩ hI.1 gov_n) ?_
  rintro v h' ⟨hG, hF, o, m, q, z, -⟩
  obtain ⟨e, re, rfl⟩ := int_ans m rfl q
  exact ⟨⟨e, rfl⟩, (INV_F hI hG hF (by decide +kernel)).mono (by omega), hF⟩
theorem loX10_steps {sh : List (Nat × Nat)} {b : Int} {h : aH} (hI : INV sh b h) (hb : b ≤ 320000) {x : Int} (rx : r32 x) : CLd SPt 310 mX10_steps [.ref 0, .int (I x)] h 0 0 (OPQ sh b sX10_steps_0.2.2.2.2 h) := by
  refine OP_le (Nat.le_of_ble_eq_true rfl) (kX10_steps_0 SPt_mono [.ref 0, .int (I x)] _ hI.2.1 ⟨gv_r (by decide) rfl, ⟨_, rfl, i32_lo _, i32_hi _, trivial⟩, trivial⟩ hI.1 gov_n) ?_
  rintro v h' ⟨hG, hF, o, m, q, z, -⟩
  obtain ⟨e, re, rfl⟩ := int_ans m rfl q
  exact ⟨⟨e, rfl⟩, (INV_F hI hG hF (by decide +kernel)).mono (by omega), hF⟩
theorem loX10_voyage {sh : List (Nat × Nat)} {b : Int} {h : aH} (hI : INV sh b h) (hb : b ≤ 320000) : CLd SPt 310 mX10_voyage [.ref 0] h 0 0 (OPQ sh b sX10_voyage_0.2.2.2.2 h) := by
  refine OP_le (Nat.le_of_ble_eq_true rfl) (kX10_voyage_0 SPt_mono [.ref 0] _ hI.2.1 ⟨gv_r (by decide) rfl, trivial⟩ hI.1 gov_n) ?_
  rintro v h' ⟨hG, hF, o, m, q, z, -⟩
  obtain ⟨e, re, rfl⟩ := int_ans m rfl q
  exact ⟨⟨e, rfl⟩, (INV_F hI hG hF (by decide +kernel)).mono (by omega), hF⟩
theorem loX10_undo {sh : List (Nat × Nat)} {b : Int} {h : aH} (hI : INV sh b h) (hb : b ≤ 320000) : CLd SPt 310 mX10_undo [.ref 0] h 0 0 (OPQ sh b sX10_undo_0.2.2.2.2 h) := by
  refine OP_le (Nat.le_of_ble_eq_true rfl) (kX10_undo_0 SPt_mono [.ref 0] _ hI.2.1 ⟨gv_r (by decide) rfl, trivial⟩ hI.1 gov_n) ?_
  rintro v h' ⟨hG, hF, o, m, q, z, -⟩
  obtain ⟨e, re, rfl⟩ := int_ans m rfl q
  exact ⟨⟨e, rfl⟩, (INV_F hI hG hF (by decide +kernel)).mono (by omega), hF⟩
theorem loX10_lane {sh : List (Nat × Nat)} {b : Int} {h : aH} (hI : INV sh b h) (hb : b ≤ 320000) {x : Int} (rx : r32 x) : CLd SPt 310 mX10_lane [.ref 0, .int (I x)] h 0 0 (OPQ sh b sX10_lane_0.2.2.2.2 h) := by
  refine OP_le (Nat.le_of_ble_eq_true rfl) (kX10_lane_0 SPt_mono [.ref 0, .int (I x)] _ hI.2.1 ⟨gv_r (by decide) rfl, ⟨_, rfl, i32_lo _, i32_hi _, trivial⟩, trivial⟩ hI.1 gov_n) ?_
  rintro v h' ⟨hG, hF, o, m, q, z, -⟩
  obtain ⟨e, re, rfl⟩ := int_ans m rfl q
  exact ⟨⟨e, rfl⟩, (INV_F hI hG hF (by decide +kernel)).mono (by omega), hF⟩
theorem loX10_strikes {sh : List (Nat × Nat)} {b : Int} {h : aH} (hI : INV sh b h) (hb : b ≤ 320000) : CLd SPt 310 mX10_strikes [.ref 0] h 0 0 (OPQ sh b sX10_strikes_0.2.2.2.2 h) := by
  refine OP_le (Nat.le_of_ble_eq_true rfl) (kX10_strikes_0 SPt_mono [.ref 0] _ hI.2.1 ⟨gv_r (by decide) rfl, trivial⟩ hI.1 gov_n) ?_
  rintro v h' ⟨hG, hF, o, m, q, z, -⟩
  obtain ⟨e, re, rfl⟩ := int_ans m rfl q
  exact ⟨⟨e, rfl⟩, (INV_F hI hG hF (by decide +kernel)).mono (by omega), hF⟩
theorem loX10_clears {sh : List (Nat × Nat)} {b : Int} {h : aH} (hI : INV sh b h) (hb : b ≤ 320000) : CLd SPt 310 mX10_clears [.ref 0] h 0 0 (OPQ sh b sX10_clears_0.2.2.2.2 h) := by
  refine OP_le (Nat.le_of_ble_eq_true rfl) (kX10_clears_0 SPt_mono [.ref 0] _ hI.2.1 ⟨gv_r (by decide) rfl, trivial⟩ hI.1 gov_n) ?_
  rintro v h' ⟨hG, hF, o, m, q, z, -⟩
  obtain ⟨e, re, rfl⟩ := int_ans m rfl q
  exact ⟨⟨e, rfl⟩, (INV_F hI hG hF (by decide +kernel)).mono (by omega), hF⟩
theorem loX10_plan {sh : List (Nat × Nat)} {b : Int} {h : aH} (hI : INV sh b h) (hb : b ≤ 320000) {x : Int} (rx : r32 x) : CLd SPt 310 mX10_plan [.ref 0, .int (I x)] h 0 0 (OPQ sh b sX10_plan_0.2.2.2.2 h) := by
  refine OP_le (Nat.le_of_ble_eq_true rfl) (kX10_plan_0 SPt_mono [.ref 0, .int (I x)] _ hI.2.1 ⟨gv_r (by decide) rfl, ⟨_, rfl, i32_lo _, i32_hi _, trivial⟩, trivial⟩ hI.1 gov_n) ?_
  rintro v h' ⟨hG, hF, o, m, q, z, -⟩
  obtain ⟨e, re, rfl⟩ := int_ans m rfl q
  exact ⟨⟨e, rfl⟩, (INV_F hI hG hF (by decide +kernel)).mono (by omega), hF⟩
theorem loX10_latest {sh : List (Nat × Nat)} {b : Int} {h : aH} (hI : INV sh b h) (hb : b ≤ 320000) {x : Int} (rx : r32 x) : CLd SPt 310 mX10_latest [.ref 0, .int (I x)] h 0 0 (OPQ sh b sX10_latest_0.2.2.2.2 h) := by
  refine OP_le (Nat.le_of_ble_eq_true rfl) (kX10_latest_0 SPt_mono [.ref 0, .int (I x)] _ hI.2.1 ⟨gv_r (by decide) rfl, ⟨_, rfl, i32_lo _, i32_hi _, trivial⟩, trivial⟩ hI.1 gov_n) ?_
  rintro v h' ⟨hG, hF, o, m, q, z, -⟩
  obtain ⟨e, re, rfl⟩ := int_ans m rfl q
  exact ⟨⟨e, rfl⟩, (INV_F hI hG hF (by decide +kernel)).mono (by omega), hF⟩
theorem loX10_lanes {sh : List (Nat × Nat)} {b : Int} {h : aH} (hI : INV sh b h) (hb : b ≤ 320000) {x : Int} (rx : r32 x) : CLd SPt 310 mX10_lanes [.ref 0, .int (I x)] h 0 0 (OPQ sh b sX10_lanes_0.2.2.2.2 h) := by
  refine OP_le (Nat.le_of_ble_eq_true rfl) (kX10_lanes_0 SPt_mono [.ref 0, .int (I x)] _ hI.2.1 ⟨gv_r (by decide) rfl, ⟨_, rfl, i32_lo _, i32_hi _, trivial⟩, trivial⟩ hI.1 gov_n) ?_
  rintro v h' ⟨hG, hF, o, m, q, z, -⟩
  obtain ⟨e, re, rfl⟩ := int_ans m rfl q
  exact ⟨⟨e, rfl⟩, (INV_F hI hG hF (by decide +kernel)).mono (by omega), hF⟩
theorem loX10_safest {sh : List (Nat × Nat)} {b : Int} {h : aH} (hI : INV sh b h) (hb : b ≤ 320000) {x : Int} (rx : r32 x) : CLd SPt 310 mX10_safest [.ref 0, .int (I x)] h 0 0 (OPQ sh b sX10_safest_0.2.2.2.2 h) := by
  refine OP_le (Nat.le_of_ble_eq_true rfl) (kX10_safest_0 SPt_mono [.ref 0, .int (I x)] _ hI.2.1 ⟨gv_r (by decide) rfl, ⟨_, rfl, i32_lo _, i32_hi _, trivial⟩, trivial⟩ hI.1 gov_n) ?_
  rintro v h' ⟨hG, hF, o, m, q, z, -⟩
  obtain ⟨e, re, rfl⟩ := int_ans m rfl q
  exact ⟨⟨e, rfl⟩, (INV_F hI hG hF (by decide +kernel)).mono (by omega), hF⟩
theorem loX10_late {sh : List (Nat × Nat)} {b : Int} {h : aH} (hI : INV sh b h) (hb : b ≤ 320000) {x : Int} (rx : r32 x) : CLd SPt 310 mX10_late [.ref 0, .int (I x)] h 0 0 (OPQ sh b sX10_late_0.2.2.2.2 h) := by
  refine OP_le (Nat.le_of_ble_eq_true rfl) (kX10_late_0 SPt_mono [.ref 0, .int (I x)] _ hI.2.1 ⟨gv_r (by decide) rfl, ⟨_, rfl, i32_lo _, i32_hi _, trivial⟩, trivial⟩ hI.1 gov_n) ?_
  rintro v h' ⟨hG, hF, o, m, q, z, -⟩
  obtain ⟨e, re, rfl⟩ := int_ans m rfl q
  exact ⟨⟨e, rfl⟩, (INV_F hI hG hF (by decide +kernel)).mono (by omega), hF⟩
theorem loX10_comes {sh : List (Nat × Nat)} {b : Int} {h : aH} (hI : INV sh b h) (hb : b ≤ 320000) {x : Int} (rx : r32 x) : CLd SPt 310 mX10_comes [.ref 0, .int (I x)] h 0 0 (OPQ sh b sX10_comes_0.2.2.2.2 h) := by
  refine OP_le (Nat.le_of_ble_eq_true rfl) (kX10_comes_0 SPt_mono [.ref 0, .int (I x)] _ hI.2.1 ⟨gv_r (by decide) rfl, ⟨_, rfl, i32_lo _, i32_hi _, trivial⟩, trivial⟩ hI.1 gov_n) ?_
  rintro v h' ⟨hG, hF, o, m, q, z, -⟩
  obtain ⟨e, re, rfl⟩ := int_ans m rfl q
  exact ⟨⟨e, rfl⟩, (INV_F hI hG hF (by decide +kernel)).mono (by omega), hF⟩
theorem loX10_relay {sh : List (Nat × Nat)} {b : Int} {h : aH} (hI : INV sh b h) (hb : b ≤ 320000) {x : Int} (rx : r32 x) : CLd SPt 310 mX10_relay [.ref 0, .int (I x)] h 0 0 (OPQ sh b sX10_relay_0.2.2.2.2 h) := by
  refine OP_le (Nat.le_of_ble_eq_true rfl) (kX10_relay_0 SPt_mono [.ref 0, .int (I x)] _ hI.2.1 ⟨gv_r (by decide) rfl, ⟨_, rfl, i32_lo _, i32_hi _, trivial⟩, trivial⟩ hI.1 gov_n) ?_
  rintro v h' ⟨hG, hF, o, m, q, z, -⟩
  obtain ⟨e, re, rfl⟩ := int_ans m rfl q
  exact ⟨⟨e, rfl⟩, (INV_F hI hG hF (by decide +kernel)).mono (by omega), hF⟩
theorem loX10_fewest {sh : List (Nat × Nat)} {b : Int} {h : aH} (hI : INV sh b h) (hb : b ≤ 320000) {x : Int} (rx : r32 x) : CLd SPt 310 mX10_fewest [.ref 0, .int (I x)] h 0 0 (OPQ sh b sX10_fewest_0.2.2.2.2 h) := by
  refine OP_le (Nat.le_of_ble_eq_true rfl) (kX10_fewest_0 SPt_mono [.ref 0, .int (I x)] _ hI.2.1 ⟨gv_r (by decide) rfl, ⟨_, rfl, i32_lo _, i32_hi _, trivial⟩, trivial⟩ hI.1 gov_n) ?_
  rintro v h' ⟨hG, hF, o, m, q, z, -⟩
  obtain ⟨e, re, rfl⟩ := int_ans m rfl q
  exact ⟨⟨e, rfl⟩, (INV_F hI hG hF (by decide +kernel)).mono (by omega), hF⟩
theorem loX10_word {sh : List (Nat × Nat)} {b : Int} {h : aH} (hI : INV sh b h) (hb : b ≤ 320000) {x y : Int} (rx : r32 x) (ry : r32 y) : CLd SPt 310 mX10_word [.ref 0, .int (I x), .int (I y)] h 0 0 (OPQ sh b sX10_word_0.2.2.2.2 h) := by
  refine OP_le (Nat.le_of_ble_eq_true rfl) (kX10_word_0 SPt_mono [.ref 0, .int (I x), .int (I y)] _ hI.2.1 ⟨gv_r (by decide) rfl, ⟨_, rfl, i32_lo _, i32_hi _, trivial⟩, ⟨_, rfl, i32_lo _, i32_hi _, trivial⟩, trivial⟩ hI.1 gov_n) ?_
  rintro v h' ⟨hG, hF, o, m, q, z, -⟩
  obtain ⟨e, re, rfl⟩ := int_ans m rfl q
  exact ⟨⟨e, rfl⟩, (INV_F hI hG hF (by decide +kernel)).mono (by omega), hF⟩
theorem loX10_survives {sh : List (Nat × Nat)} {b : Int} {h : aH} (hI : INV sh b h) (hb : b ≤ 320000) {x y : Int} (rx : r32 x) (ry : r32 y) : CLd SPt 310 mX10_survives [.ref 0, .int (I x), .int (I y)] h 0 0 (OPQ sh b sX10_survives_0.2.2.2.2 h) := by
  refine OP_le (Nat.le_of_ble_eq_true rfl) (kX10_survives_0 SPt_mono [.ref 0, .int (I x), .int (I y)] _ hI.2.1 ⟨gv_r (by decide) rfl, ⟨_, rfl, i32_lo _, i32_hi _, trivial⟩, ⟨_, rfl, i32_lo _, i32_hi _, trivial⟩, trivial⟩ hI.1 gov_n) ?_
  rintro v h' ⟨hG, hF, o, m, q, z, -⟩
  obtain ⟨e, re, rfl⟩ := int_ans m rfl q
  exact ⟨⟨e, rfl⟩, (INV_F hI hG hF (by decide +kernel)).mono (by omega), hF⟩
theorem loX10_lives {sh : List (Nat × Nat)} {b : Int} {h : aH} (hI : INV sh b h) (hb : b ≤ 320000) {x : Int} (rx : r32 x) : CLd SPt 310 mX10_lives [.ref 0, .int (I x)] h 0 0 (OPQ sh b sX10_lives_0.2.2.2.2 h) := by
  refine OP_le (Nat.le_of_ble_eq_true rfl) (kX10_lives_0 SPt_mono [.ref 0, .int (I x)] _ hI.2.1 ⟨gv_r (by decide) rfl, ⟨_, rfl, i32_lo _, i32_hi _, trivial⟩, trivial⟩ hI.1 gov_n) ?_
  rintro v h' ⟨hG, hF, o, m, q, z, -⟩
  obtain ⟨e, re, rfl⟩ := int_ans m rfl q
  exact ⟨⟨e, rfl⟩, (INV_F hI hG hF (by decide +kernel)).mono (by omega), hF⟩
theorem loX10_shares {sh : List (Nat × Nat)} {b : Int} {h : aH} (hI : INV sh b h) (hb : b ≤ 320000) {x : Int} (rx : r32 x) : CLd SPt 310 mX10_shares [.ref 0, .int (I x)] h 0 0 (OPQ sh b sX10_shares_0.2.2.2.2 h) := by
  refine OP_le (Nat.le_of_ble_eq_true rfl) (kX10_shares_0 SPt_mono [.ref 0, .int (I x)] _ hI.2.1 ⟨gv_r (by decide) rfl, ⟨_, rfl, i32_lo _, i32_hi _, trivial⟩, trivial⟩ hI.1 gov_n) ?_
  rintro v h' ⟨hG, hF, o, m, q, z, -⟩
  obtain ⟨e, re, rfl⟩ := int_ans m rfl q
  exact ⟨⟨e, rfl⟩, (INV_F hI hG hF (by decide +kernel)).mono (by omega), hF⟩
theorem loX10_fast {sh : List (Nat × Nat)} {b : Int} {h : aH} (hI : INV sh b h) (hb : b ≤ 320000) {x : Int} (rx : r32 x) : CLd SPt 310 mX10_fast [.ref 0, .int (I x)] h 0 0 (OPQ sh b sX10_fast_0.2.2.2.2 h) := by
  refine OP_le (Nat.le_of_ble_eq_true rfl) (kX10_fast_0 SPt_mono [.ref 0, .int (I x)] _ hI.2.1 ⟨gv_r (by decide) rfl, ⟨_, rfl, i32_lo _, i32_hi _, trivial⟩, trivial⟩ hI.1 gov_n) ?_
  rintro v h' ⟨hG, hF, o, m, q, z, -⟩
  obtain ⟨e, re, rfl⟩ := int_ans m rfl q
  exact ⟨⟨e, rfl⟩, (INV_F hI hG hF (by decide +kernel)).mono (by omega), hF⟩
theorem loX10_ordered {sh : List (Nat × Nat)} {b : Int} {h : aH} (hI : INV sh b h) (hb : b ≤ 320000) : CLd SPt 310 mX10_ordered [.ref 0] h 0 0 (OPQ sh b sX10_ordered_0.2.2.2.2 h) := by
  refine OP_le (Nat.le_of_ble_eq_true rfl) (kX10_ordered_0 SPt_mono [.ref 0] _ hI.2.1 ⟨gv_r (by decide) rfl, trivial⟩ hI.1 gov_n) ?_
  rintro v h' ⟨hG, hF, o, m, q, z, -⟩
  obtain ⟨e, re, rfl⟩ := int_ans m rfl q
  exact ⟨⟨e, rfl⟩, (INV_F hI hG hF (by decide +kernel)).mono (by omega), hF⟩
theorem loX10_boy {sh : List (Nat × Nat)} {b : Int} {h : aH} (hI : INV sh b h) (hb : b ≤ 320000) {x y : Int} (rx : r32 x) (ry : r32 y) : CLd SPt 310 mX10_boy [.ref 0, .int (I x), .int (I y)] h 0 0 (OPQ sh b sX10_boy_0.2.2.2.2 h) := by
  refine OP_le (Nat.le_of_ble_eq_true rfl) (kX10_boy_0 SPt_mono [.ref 0, .int (I x), .int (I y)] _ hI.2.1 ⟨gv_r (by decide) rfl, ⟨_, rfl, i32_lo _, i32_hi _, trivial⟩, ⟨_, rfl, i32_lo _, i32_hi _, trivial⟩, trivial⟩ hI.1 gov_n) ?_
  rintro v h' ⟨hG, hF, o, m, q, z, -⟩
  obtain ⟨e, re, rfl⟩ := int_ans m rfl q
  exact ⟨⟨e, rfl⟩, (INV_F hI hG hF (by decide +kernel)).mono (by omega), hF⟩
theorem loX10_meets {sh : List (Nat × Nat)} {b : Int} {h : aH} (hI : INV sh b h) (hb : b ≤ 320000) {x : Int} (rx : r32 x) : CLd SPt 310 mX10_meets [.ref 0, .int (I x)] h 0 0 (OPQ sh b sX10_meets_0.2.2.2.2 h) := by
  refine OP_le (Nat.le_of_ble_eq_true rfl) (kX10_meets_0 SPt_mono [.ref 0, .int (I x)] _ hI.2.1 ⟨gv_r (by decide) rfl, ⟨_, rfl, i32_lo _, i32_hi _, trivial⟩, trivial⟩ hI.1 gov_n) ?_
  rintro v h' ⟨hG, hF, o, m, q, z, -⟩
  obtain ⟨e, re, rfl⟩ := int_ans m rfl q
  exact ⟨⟨e, rfl⟩, (INV_F hI hG hF (by decide +kernel)).mono (by omega), hF⟩
theorem loX10_knows {sh : List (Nat × Nat)} {b : Int} {h : aH} (hI : INV sh b h) (hb : b ≤ 320000) {x y : Int} (rx : r32 x) (ry : r32 y) : CLd SPt 310 mX10_knows [.ref 0, .int (I x), .int (I y)] h 0 0 (OPQ sh b sX10_knows_0.2.2.2.2 h) := by
  refine OP_le (Nat.le_of_ble_eq_true rfl) (kX10_knows_0 SPt_mono [.ref 0, .int (I x), .int (I y)] _ hI.2.1 ⟨gv_r (by decide) rfl, ⟨_, rfl, i32_lo _, i32_hi _, trivial⟩, ⟨_, rfl, i32_lo _, i32_hi _, trivial⟩, trivial⟩ hI.1 gov_n) ?_
  rintro v h' ⟨hG, hF, o, m, q, z, -⟩
  obtain ⟨e, re, rfl⟩ := int_ans m rfl q
  exact ⟨⟨e, rfl⟩, (INV_F hI hG hF (by decide +kernel)).mono (by omega), hF⟩
theorem loX10_mutiny {sh : List (Nat × Nat)} {b : Int} {h : aH} (hI : INV sh b h) (hb : b ≤ 320000) {x y z : Int} (rx : r32 x) (ry : r32 y) (rz : r32 z) : CLd SPt 310 mX10_mutiny [.ref 0, .int (I x), .int (I y), .int (I z)] h 0 0 (OPQ sh b sX10_mutiny_0.2.2.2.2 h) := by
  refine OP_le (Nat.le_of_ble_eq_true rfl) (kX10_mutiny_0 SPt_mono [.ref 0, .int (I x), .int (I y), .int (I z)] _ hI.2.1 ⟨gv_r (by decide) rfl, ⟨_, rfl, i32_lo _, i32_hi _, trivial⟩, ⟨_, rfl, i32_lo _, i32_hi _, trivial⟩, ⟨_, rfl, i32_lo _, i32_hi _, trivial⟩, trivial⟩ hI.1 gov_n) ?_
  rintro v h' ⟨hG, hF, o, m, q, z, -⟩
  obtain ⟨e, re, rfl⟩ := int_ans m rfl q
  exact ⟨⟨e, rfl⟩, (INV_F hI hG hF (by decide +kernel)).mono (by omega), hF⟩
theorem loX10_chance {sh : List (Nat × Nat)} {b : Int} {h : aH} (hI : INV sh b h) (hb : b ≤ 320000) {x y z : Int} (rx : r32 x) (ry : r32 y) (rz : r32 z) : CLd SPt 310 mX10_chance [.ref 0, .int (I x), .int (I y), .int (I z)] h 0 0 (OPQ sh b sX10_chance_0.2.2.2.2 h) := by
  refine OP_le (Nat.le_of_ble_eq_true rfl) (kX10_chance_0 SPt_mono [.ref 0, .int (I x), .int (I y), .int (I z)] _ hI.2.1 ⟨gv_r (by decide) rfl, ⟨_, rfl, i32_lo _, i32_hi _, trivial⟩, ⟨_, rfl, i32_lo _, i32_hi _, trivial⟩, ⟨_, rfl, i32_lo _, i32_hi _, trivial⟩, trivial⟩ hI.1 gov_n) ?_
  rintro v h' ⟨hG, hF, o, m, q, z, -⟩
  obtain ⟨e, re, rfl⟩ := int_ans m rfl q
  exact ⟨⟨e, rfl⟩, (INV_F hI hG hF (by decide +kernel)).mono (by omega), hF⟩
theorem loX10_voyages {sh : List (Nat × Nat)} {b : Int} {h : aH} (hI : INV sh b h) (hb : b ≤ 320000) {x y : Int} (rx : r32 x) (ry : r32 y) : CLd SPt 310 mX10_voyages [.ref 0, .int (I x), .int (I y)] h 0 0 (OPQ sh b sX10_voyages_0.2.2.2.2 h) := by
  refine OP_le (Nat.le_of_ble_eq_true rfl) (kX10_voyages_0 SPt_mono [.ref 0, .int (I x), .int (I y)] _ hI.2.1 ⟨gv_r (by decide) rfl, ⟨_, rfl, i32_lo _, i32_hi _, trivial⟩, ⟨_, rfl, i32_lo _, i32_hi _, trivial⟩, trivial⟩ hI.1 gov_n) ?_
  rintro v h' ⟨hG, hF, o, m, q, z, -⟩
  obtain ⟨e, re, rfl⟩ := int_ans m rfl q
  exact ⟨⟨e, rfl⟩, (INV_F hI hG hF (by decide +kernel)).mono (by omega), hF⟩
theorem loX10_keep {sh : List (Nat × Nat)} {b : Int} {h : aH} (hI : INV sh b h) (hb : b ≤ 320000) {x : Int} (rx : r32 x) : CLd SPt 310 mX10_keep [.ref 0, .int (I x)] h 0 0 (OPQ sh b sX10_keep_0.2.2.2.2 h) := by
  refine OP_le (Nat.le_of_ble_eq_true rfl) (kX10_keep_0 SPt_mono [.ref 0, .int (I x)] _ hI.2.1 ⟨gv_r (by decide) rfl, ⟨_, rfl, i32_lo _, i32_hi _, trivial⟩, trivial⟩ hI.1 gov_n) ?_
  rintro v h' ⟨hG, hF, o, m, q, z, -⟩
  obtain ⟨e, re, rfl⟩ := int_ans m rfl q
  exact ⟨⟨e, rfl⟩, (INV_F hI hG hF (by decide +kernel)).mono (by omega), hF⟩
theorem loX10_again {sh : List (Nat × Nat)} {b : Int} {h : aH} (hI : INV sh b h) (hb : b ≤ 320000) {x : Int} (rx : r32 x) : CLd SPt 310 mX10_again [.ref 0, .int (I x)] h 0 0 (OPQ sh b sX10_again_0.2.2.2.2 h) := by
  refine OP_le (Nat.le_of_ble_eq_true rfl) (kX10_again_0 SPt_mono [.ref 0, .int (I x)] _ hI.2.1 ⟨gv_r (by decide) rfl, ⟨_, rfl, i32_lo _, i32_hi _, trivial⟩, trivial⟩ hI.1 gov_n) ?_
  rintro v h' ⟨hG, hF, o, m, q, z, -⟩
  obtain ⟨e, re, rfl⟩ := int_ans m rfl q
  exact ⟨⟨e, rfl⟩, (INV_F hI hG hF (by decide +kernel)).mono (by omega), hF⟩
theorem loX10_count {sh : List (Nat × Nat)} {b : Int} {h : aH} (hI : INV sh b h) (hb : b ≤ 320000) {x : Int} (rx : r32 x) : CLd SPt 310 mX10_count [.ref 0, .int (I x)] h 0 0 (OPQ sh b sX10_count_0.2.2.2.2 h) := by
  refine OP_le (Nat.le_of_ble_eq_true rfl) (kX10_count_0 SPt_mono [.ref 0, .int (I x)] _ hI.2.1 ⟨gv_r (by decide) rfl, ⟨_, rfl, i32_lo _, i32_hi _, trivial⟩, trivial⟩ hI.1 gov_n) ?_
  rintro v h' ⟨hG, hF, o, m, q, z, -⟩
  obtain ⟨e, re, rfl⟩ := int_ans m rfl q
  exact ⟨⟨e, rfl⟩, (INV_F hI hG hF (by decide +kernel)).mono (by omega), hF⟩
theorem loX11_sign {sh : List (Nat × Nat)} {b : Int} {h : aH} (hI : INV sh b h) (hb : b ≤ 320000) {x : Int} (rx : r32 x) : CLd SPt 310 mX11_sign [.ref 171, .int (I x)] h 0 0 (OPQ sh (b + 600) sX11_sign_0.2.2.2.2 h) := by
  refine OP_le (Nat.le_of_ble_eq_true rfl) (kX11_sign_0 SPt_mono [.ref 171, .int (I x)] _ hI.2.1 ⟨gv_r (by decide) rfl, ⟨_, rfl, i32_lo _, i32_hi _, trivial⟩, trivial⟩ hI.1 gov_n) ?_
  rintro v h' ⟨hG, hF, o, m, q, z, -⟩
  obtain ⟨e, re, rfl⟩ := int_ans m rfl q
  exact ⟨⟨e, rfl⟩, (INV_F hI hG hF (by decide +kernel)).mono (by omega), hF⟩
theorem loX11_end {sh : List (Nat × Nat)} {b : Int} {h : aH} (hI : INV sh b h) (hb : b ≤ 320000) {x : Int} (rx : r32 x) : CLd SPt 310 mX11_end [.ref 171, .int (I x)] h 0 0 (OPQ sh (b + 600) sX11_end_0.2.2.2.2 h) := by
  refine OP_le (Nat.le_of_ble_eq_true rfl) (kX11_end_0 SPt_mono [.ref 171, .int (I x)] _ hI.2.1 ⟨gv_r (by decide) rfl, ⟨_, rfl, i32_lo _, i32_hi _, trivial⟩, trivial⟩ hI.1 gov_n) ?_
  rintro v h' ⟨hG, hF, o, m, q, z, -⟩
  obtain ⟨e, re, rfl⟩ := int_ans m rfl q
  exact ⟨⟨e, rfl⟩, (INV_F hI hG hF (by decide +kernel)).mono (by omega), hF⟩
theorem loX11_sheet {sh : List (Nat × Nat)} {b : Int} {h : aH} (hI : INV sh b h) (hb : b ≤ 320000) {x y z u : Int} (rx : r32 x) (ry : r32 y) (rz : r32 z) (ru : r32 u) : CLd SPt 310 mX11_sheet [.ref 171, .int (I x), .int (I y), .int (I z), .int (I u)] h 0 0 (OPQ sh (b + 600) sX11_sheet_0.2.2.2.2 h) := by
  refine OP_le (Nat.le_of_ble_eq_true rfl) (kX11_sheet_0 SPt_mono [.ref 171, .int (I x), .int (I y), .int (I z), .int (I u)] _ hI.2.1 ⟨gv_r (by decide) rfl, ⟨_, rfl, i32_lo _, i32_hi _, trivial⟩, ⟨_, rfl, i32_lo _, i32_hi _, trivial⟩, ⟨_, rfl, i32_lo _, i32_hi _, trivial⟩, ⟨_, rfl, i32_lo _, i32_hi _, trivial⟩, trivial⟩ hI.1 gov_n) ?_
  rintro v h' ⟨hG, hF, o, m, q, z, -⟩
  obtain ⟨e, re, rfl⟩ := int_ans m rfl q
  exact ⟨⟨e, rfl⟩, (INV_F hI hG hF (by decide +kernel)).mono (by omega), hF⟩
theorem loX11_delay {sh : List (Nat × Nat)} {b : Int} {h : aH} (hI : INV sh b h) (hb : b ≤ 320000) : CLd SPt 310 mX11_delay [.ref 171] h 0 0 (OPQ sh (b + 600) sX11_delay_0.2.2.2.2 h) := by
  refine OP_le (Nat.le_of_ble_eq_true rfl) (kX11_delay_0 SPt_mono [.ref 171] _ hI.2.1 ⟨gv_r (by decide) rfl, trivial⟩ hI.1 gov_n) ?_
  rintro v h' ⟨hG, hF, o, m, q, z, -⟩
  obtain ⟨e, re, rfl⟩ := int_ans m rfl q
  exact ⟨⟨e, rfl⟩, (INV_F hI hG hF (by decide +kernel)).mono (by omega), hF⟩
theorem loX11_lane {sh : List (Nat × Nat)} {b : Int} {h : aH} (hI : INV sh b h) (hb : b ≤ 320000) {x : Int} (rx : r32 x) : CLd SPt 310 mX11_lane [.ref 171, .int (I x)] h 0 0 (OPQ sh (b + 600) sX11_lane_0.2.2.2.2 h) := by
  refine OP_le (Nat.le_of_ble_eq_true rfl) (kX11_lane_0 SPt_mono [.ref 171, .int (I x)] _ hI.2.1 ⟨gv_r (by decide) rfl, ⟨_, rfl, i32_lo _, i32_hi _, trivial⟩, trivial⟩ hI.1 gov_n) ?_
  rintro v h' ⟨hG, hF, o, m, q, z, -⟩
  obtain ⟨e, re, rfl⟩ := int_ans m rfl q
  exact ⟨⟨e, rfl⟩, (INV_F hI hG hF (by decide +kernel)).mono (by omega), hF⟩
theorem loX11_strikes {sh : List (Nat × Nat)} {b : Int} {h : aH} (hI : INV sh b h) (hb : b ≤ 320000) : CLd SPt 310 mX11_strikes [.ref 171] h 0 0 (OPQ sh (b + 600) sX11_strikes_0.2.2.2.2 h) := by
  refine OP_le (Nat.le_of_ble_eq_true rfl) (kX11_strikes_0 SPt_mono [.ref 171] _ hI.2.1 ⟨gv_r (by decide) rfl, trivial⟩ hI.1 gov_n) ?_
  rintro v h' ⟨hG, hF, o, m, q, z, -⟩
  obtain ⟨e, re, rfl⟩ := int_ans m rfl q
  exact ⟨⟨e, rfl⟩, (INV_F hI hG hF (by decide +kernel)).mono (by omega), hF⟩
theorem loX11_latest {sh : List (Nat × Nat)} {b : Int} {h : aH} (hI : INV sh b h) (hb : b ≤ 320000) {x : Int} (rx : r32 x) : CLd SPt 310 mX11_latest [.ref 171, .int (I x)] h 0 0 (OPQ sh (b + 600) sX11_latest_0.2.2.2.2 h) := by
  refine OP_le (Nat.le_of_ble_eq_true rfl) (kX11_latest_0 SPt_mono [.ref 171, .int (I x)] _ hI.2.1 ⟨gv_r (by decide) rfl, ⟨_, rfl, i32_lo _, i32_hi _, trivial⟩, trivial⟩ hI.1 gov_n) ?_
  rintro v h' ⟨hG, hF, o, m, q, z, -⟩
  obtain ⟨e, re, rfl⟩ := int_ans m rfl q
  exact ⟨⟨e, rfl⟩, (INV_F hI hG hF (by decide +kernel)).mono (by omega), hF⟩
theorem loX11_lanes {sh : List (Nat × Nat)} {b : Int} {h : aH} (hI : INV sh b h) (hb : b ≤ 320000) {x : Int} (rx : r32 x) : CLd SPt 310 mX11_lanes [.ref 171, .int (I x)] h 0 0 (OPQ sh (b + 600) sX11_lanes_0.2.2.2.2 h) := by
  refine OP_le (Nat.le_of_ble_eq_true rfl) (kX11_lanes_0 SPt_mono [.ref 171, .int (I x)] _ hI.2.1 ⟨gv_r (by decide) rfl, ⟨_, rfl, i32_lo _, i32_hi _, trivial⟩, trivial⟩ hI.1 gov_n) ?_
  rintro v h' ⟨hG, hF, o, m, q, z, -⟩
  obtain ⟨e, re, rfl⟩ := int_ans m rfl q
  exact ⟨⟨e, rfl⟩, (INV_F hI hG hF (by decide +kernel)).mono (by omega), hF⟩
theorem loX11_safest {sh : List (Nat × Nat)} {b : Int} {h : aH} (hI : INV sh b h) (hb : b ≤ 320000) {x : Int} (rx : r32 x) : CLd SPt 310 mX11_safest [.ref 171, .int (I x)] h 0 0 (OPQ sh (b + 600) sX11_safest_0.2.2.2.2 h) := by
  refine OP_le (Nat.le_of_ble_eq_true rfl) (kX11_safest_0 SPt_mono [.ref 171, .int (I x)] _ hI.2.1 ⟨gv_r (by decide) rfl, ⟨_, rfl, i32_lo _, i32_hi _, trivial⟩, trivial⟩ hI.1 gov_n) ?_
  rintro v h' ⟨hG, hF, o, m, q, z, -⟩
  obtain ⟨e, re, rfl⟩ := int_ans m rfl q
  exact ⟨⟨e, rfl⟩, (INV_F hI hG hF (by decide +kernel)).mono (by omega), hF⟩
theorem loX11_late {sh : List (Nat × Nat)} {b : Int} {h : aH} (hI : INV sh b h) (hb : b ≤ 320000) {x : Int} (rx : r32 x) : CLd SPt 310 mX11_late [.ref 171, .int (I x)] h 0 0 (OPQ sh (b + 600) sX11_late_0.2.2.2.2 h) := by
  refine OP_le (Nat.le_of_ble_eq_true rfl) (kX11_late_0 SPt_mono [.ref 171, .int (I x)] _ hI.2.1 ⟨gv_r (by decide) rfl, ⟨_, rfl, i32_lo _, i32_hi _, trivial⟩, trivial⟩ hI.1 gov_n) ?_
  rintro v h' ⟨hG, hF, o, m, q, z, -⟩
  obtain ⟨e, re, rfl⟩ := int_ans m rfl q
  exact ⟨⟨e, rfl⟩, (INV_F hI hG hF (by decide +kernel)).mono (by omega), hF⟩
theorem loX11_comes {sh : List (Nat × Nat)} {b : Int} {h : aH} (hI : INV sh b h) (hb : b ≤ 320000) {x : Int} (rx : r32 x) : CLd SPt 310 mX11_comes [.ref 171, .int (I x)] h 0 0 (OPQ sh (b + 600) sX11_comes_0.2.2.2.2 h) := by
  refine OP_le (Nat.le_of_ble_eq_true rfl) (kX11_comes_0 SPt_mono [.ref 171, .int (I x)] _ hI.2.1 ⟨gv_r (by decide) rfl, ⟨_, rfl, i32_lo _, i32_hi _, trivial⟩, trivial⟩ hI.1 gov_n) ?_
  rintro v h' ⟨hG, hF, o, m, q, z, -⟩
  obtain ⟨e, re, rfl⟩ := int_ans m rfl q
  exact ⟨⟨e, rfl⟩, (INV_F hI hG hF (by decide +kernel)).mono (by omega), hF⟩
theorem loX11_fewest {sh : List (Nat × Nat)} {b : Int} {h : aH} (hI : INV sh b h) (hb : b ≤ 320000) {x : Int} (rx : r32 x) : CLd SPt 310 mX11_fewest [.ref 171, .int (I x)] h 0 0 (OPQ sh (b + 600) sX11_fewest_0.2.2.2.2 h) := by
  refine OP_le (Nat.le_of_ble_eq_true rfl) (kX11_fewest_0 SPt_mono [.ref 171, .int (I x)] _ hI.2.1 ⟨gv_r (by decide) rfl, ⟨_, rfl, i32_lo _, i32_hi _, trivial⟩, trivial⟩ hI.1 gov_n) ?_
  rintro v h' ⟨hG, hF, o, m, q, z, -⟩
  obtain ⟨e, re, rfl⟩ := int_ans m rfl q
  exact ⟨⟨e, rfl⟩, (INV_F hI hG hF (by decide +kernel)).mono (by omega), hF⟩
theorem loX11_survives {sh : List (Nat × Nat)} {b : Int} {h : aH} (hI : INV sh b h) (hb : b ≤ 320000) {x y : Int} (rx : r32 x) (ry : r32 y) : CLd SPt 310 mX11_survives [.ref 171, .int (I x), .int (I y)] h 0 0 (OPQ sh (b + 600) sX11_survives_0.2.2.2.2 h) := by
  refine OP_le (Nat.le_of_ble_eq_true rfl) (kX11_survives_0 SPt_mono [.ref 171, .int (I x), .int (I y)] _ hI.2.1 ⟨gv_r (by decide) rfl, ⟨_, rfl, i32_lo _, i32_hi _, trivial⟩, ⟨_, rfl, i32_lo _, i32_hi _, trivial⟩, trivial⟩ hI.1 gov_n) ?_
  rintro v h' ⟨hG, hF, o, m, q, z, -⟩
  obtain ⟨e, re, rfl⟩ := int_ans m rfl q
  exact ⟨⟨e, rfl⟩, (INV_F hI hG hF (by decide +kernel)).mono (by omega), hF⟩
theorem loX11_lives {sh : List (Nat × Nat)} {b : Int} {h : aH} (hI : INV sh b h) (hb : b ≤ 320000) {x : Int} (rx : r32 x) : CLd SPt 310 mX11_lives [.ref 171, .int (I x)] h 0 0 (OPQ sh (b + 600) sX11_lives_0.2.2.2.2 h) := by
  refine OP_le (Nat.le_of_ble_eq_true rfl) (kX11_lives_0 SPt_mono [.ref 171, .int (I x)] _ hI.2.1 ⟨gv_r (by decide) rfl, ⟨_, rfl, i32_lo _, i32_hi _, trivial⟩, trivial⟩ hI.1 gov_n) ?_
  rintro v h' ⟨hG, hF, o, m, q, z, -⟩
  obtain ⟨e, re, rfl⟩ := int_ans m rfl q
  exact ⟨⟨e, rfl⟩, (INV_F hI hG hF (by decide +kernel)).mono (by omega), hF⟩
theorem loX11_fast {sh : List (Nat × Nat)} {b : Int} {h : aH} (hI : INV sh b h) (hb : b ≤ 320000) {x : Int} (rx : r32 x) : CLd SPt 310 mX11_fast [.ref 171, .int (I x)] h 0 0 (OPQ sh (b + 600) sX11_fast_0.2.2.2.2 h) := by
  refine OP_le (Nat.le_of_ble_eq_true rfl) (kX11_fast_0 SPt_mono [.ref 171, .int (I x)] _ hI.2.1 ⟨gv_r (by decide) rfl, ⟨_, rfl, i32_lo _, i32_hi _, trivial⟩, trivial⟩ hI.1 gov_n) ?_
  rintro v h' ⟨hG, hF, o, m, q, z, -⟩
  obtain ⟨e, re, rfl⟩ := int_ans m rfl q
  exact ⟨⟨e, rfl⟩, (INV_F hI hG hF (by decide +kernel)).mono (by omega), hF⟩
theorem loX11_boy {sh : List (Nat × Nat)} {b : Int} {h : aH} (hI : INV sh b h) (hb : b ≤ 320000) {x y : Int} (rx : r32 x) (ry : r32 y) : CLd SPt 310 mX11_boy [.ref 171, .int (I x), .int (I y)] h 0 0 (OPQ sh (b + 600) sX11_boy_0.2.2.2.2 h) := by
  refine OP_le (Nat.le_of_ble_eq_true rfl) (kX11_boy_0 SPt_mono [.ref 171, .int (I x), .int (I y)] _ hI.2.1 ⟨gv_r (by decide) rfl, ⟨_, rfl, i32_lo _, i32_hi _, trivial⟩, ⟨_, rfl, i32_lo _, i32_hi _, trivial⟩, trivial⟩ hI.1 gov_n) ?_
  rintro v h' ⟨hG, hF, o, m, q, z, -⟩
  obtain ⟨e, re, rfl⟩ := int_ans m rfl q
  exact ⟨⟨e, rfl⟩, (INV_F hI hG hF (by decide +kernel)).mono (by omega), hF⟩
theorem loX11_meets {sh : List (Nat × Nat)} {b : Int} {h : aH} (hI : INV sh b h) (hb : b ≤ 320000) {x : Int} (rx : r32 x) : CLd SPt 310 mX11_meets [.ref 171, .int (I x)] h 0 0 (OPQ sh (b + 600) sX11_meets_0.2.2.2.2 h) := by
  refine OP_le (Nat.le_of_ble_eq_true rfl) (kX11_meets_0 SPt_mono [.ref 171, .int (I x)] _ hI.2.1 ⟨gv_r (by decide) rfl, ⟨_, rfl, i32_lo _, i32_hi _, trivial⟩, trivial⟩ hI.1 gov_n) ?_
  rintro v h' ⟨hG, hF, o, m, q, z, -⟩
  obtain ⟨e, re, rfl⟩ := int_ans m rfl q
  exact ⟨⟨e, rfl⟩, (INV_F hI hG hF (by decide +kernel)).mono (by omega), hF⟩
theorem loX11_knows {sh : List (Nat × Nat)} {b : Int} {h : aH} (hI : INV sh b h) (hb : b ≤ 320000) {x y : Int} (rx : r32 x) (ry : r32 y) : CLd SPt 310 mX11_knows [.ref 171, .int (I x), .int (I y)] h 0 0 (OPQ sh (b + 600) sX11_knows_0.2.2.2.2 h) := by
  refine OP_le (Nat.le_of_ble_eq_true rfl) (kX11_knows_0 SPt_mono [.ref 171, .int (I x), .int (I y)] _ hI.2.1 ⟨gv_r (by decide) rfl, ⟨_, rfl, i32_lo _, i32_hi _, trivial⟩, ⟨_, rfl, i32_lo _, i32_hi _, trivial⟩, trivial⟩ hI.1 gov_n) ?_
  rintro v h' ⟨hG, hF, o, m, q, z, -⟩
  obtain ⟨e, re, rfl⟩ := int_ans m rfl q
  exact ⟨⟨e, rfl⟩, (INV_F hI hG hF (by decide +kernel)).mono (by omega), hF⟩
theorem loX11_chance {sh : List (Nat × Nat)} {b : Int} {h : aH} (hI : INV sh b h) (hb : b ≤ 320000) {x y z : Int} (rx : r32 x) (ry : r32 y) (rz : r32 z) : CLd SPt 310 mX11_chance [.ref 171, .int (I x), .int (I y), .int (I z)] h 0 0 (OPQ sh (b + 600) sX11_chance_0.2.2.2.2 h) := by
  refine OP_le (Nat.le_of_ble_eq_true rfl) (kX11_chance_0 SPt_mono [.ref 171, .int (I x), .int (I y), .int (I z)] _ hI.2.1 ⟨gv_r (by decide) rfl, ⟨_, rfl, i32_lo _, i32_hi _, trivial⟩, ⟨_, rfl, i32_lo _, i32_hi _, trivial⟩, ⟨_, rfl, i32_lo _, i32_hi _, trivial⟩, trivial⟩ hI.1 gov_n) ?_
  rintro v h' ⟨hG, hF, o, m, q, z, -⟩
  obtain ⟨e, re, rfl⟩ := int_ans m rfl q
  exact ⟨⟨e, rfl⟩, (INV_F hI hG hF (by decide +kernel)).mono (by omega), hF⟩
theorem loX11_voyages {sh : List (Nat × Nat)} {b : Int} {h : aH} (hI : INV sh b h) (hb : b ≤ 320000) {x y : Int} (rx : r32 x) (ry : r32 y) : CLd SPt 310 mX11_voyages [.ref 171, .int (I x), .int (I y)] h 0 0 (OPQ sh (b + 600) sX11_voyages_0.2.2.2.2 h) := by
  refine OP_le (Nat.le_of_ble_eq_true rfl) (kX11_voyages_0 SPt_mono [.ref 171, .int (I x), .int (I y)] _ hI.2.1 ⟨gv_r (by decide) rfl, ⟨_, rfl, i32_lo _, i32_hi _, trivial⟩, ⟨_, rfl, i32_lo _, i32_hi _, trivial⟩, trivial⟩ hI.1 gov_n) ?_
  rintro v h' ⟨hG, hF, o, m, q, z, -⟩
  obtain ⟨e, re, rfl⟩ := int_ans m rfl q
  exact ⟨⟨e, rfl⟩, (INV_F hI hG hF (by decide +kernel)).mono (by omega), hF⟩
theorem loX11_count {sh : List (Nat × Nat)} {b : Int} {h : aH} (hI : INV sh b h) (hb : b ≤ 320000) {x : Int} (rx : r32 x) : CLd SPt 310 mX11_count [.ref 171, .int (I x)] h 0 0 (OPQ sh (b + 600) sX11_count_0.2.2.2.2 h) := by
  refine OP_le (Nat.le_of_ble_eq_true rfl) (kX11_count_0 SPt_mono [.ref 171, .int (I x)] _ hI.2.1 ⟨gv_r (by decide) rfl, ⟨_, rfl, i32_lo _, i32_hi _, trivial⟩, trivial⟩ hI.1 gov_n) ?_
  rintro v h' ⟨hG, hF, o, m, q, z, -⟩
  obtain ⟨e, re, rfl⟩ := int_ans m rfl q
  exact ⟨⟨e, rfl⟩, (INV_F hI hG hF (by decide +kernel)).mono (by omega), hF⟩
theorem loX11_ship {sh : List (Nat × Nat)} {b : Int} {h : aH} (hI : INV sh b h) (hb : b ≤ 320000) : CLd SPt 310 mX11_ship [.ref 171] h 0 0 (OPQ sh (b + 600) [(0, 54, 0, 0), (0, 54, 3, 5), (0, 54, 17, 20), (0, 54, 22, 22), (0, 56, 0, 9), (0, 57, 0, 9), (0, 64, 0, 31)] h) := by
  refine OP_le (Nat.le_of_ble_eq_true rfl) (ctX11_ship SPt_mono hI.1) ?_
  rintro v h' ⟨⟨e, rfl⟩, hG, hF, -⟩
  exact ⟨⟨e, rfl⟩, (INV_F hI hG hF (by decide +kernel)).mono (by omega), hF⟩
theorem loX11_rocks {sh : List (Nat × Nat)} {b : Int} {h : aH} (hI : INV sh b h) (hb : b ≤ 320000) : CLd SPt 310 mX11_rocks [.ref 171] h 0 0 (OPQ sh (b + 600) [(0, 54, 0, 0), (0, 54, 6, 6), (0, 54, 17, 20), (0, 54, 22, 22), (0, 58, 0, 15), (0, 59, 0, 15), (0, 64, 0, 31)] h) := by
  refine OP_le (Nat.le_of_ble_eq_true rfl) (ctX11_rocks SPt_mono hI.1) ?_
  rintro v h' ⟨⟨e, rfl⟩, hG, hF, -⟩
  exact ⟨⟨e, rfl⟩, (INV_F hI hG hF (by decide +kernel)).mono (by omega), hF⟩
theorem loX11_rule {sh : List (Nat × Nat)} {b : Int} {h : aH} (hI : INV sh b h) (hb : b ≤ 320000) : CLd SPt 310 mX11_rule [.ref 171] h 0 0 (OPQ sh (b + 600) [(0, 54, 0, 0), (0, 54, 17, 20), (0, 54, 25, 26), (0, 65, 0, 79), (0, 66, 0, 79)] h) := by
  refine OP_le (Nat.le_of_ble_eq_true rfl) (ctX11_rule SPt_mono hI.1 hI.2.1) ?_
  rintro v h' ⟨⟨e, rfl⟩, hG, hF, -, hX, -⟩
  exact ⟨⟨e, rfl⟩, ⟨hG, hX, by rw [FRM_gi hF (a := 171) (r := 54) (k := 29) rfl (by decide)]; exact hI.2.2.1, (AW_F hF (by decide +kernel) hI.2.2.2).mono (by omega)⟩, hF⟩
theorem loX11_messes {sh : List (Nat × Nat)} {b : Int} {h : aH} (hI : INV sh b h) (hb : b ≤ 320000) : CLd SPt 310 mX11_messes [.ref 171] h 0 0 (OPQ sh (b + 600) [(0, 54, 0, 0), (0, 54, 7, 8), (0, 54, 17, 20), (0, 54, 22, 22), (0, 54, 29, 29), (0, 60, 0, 7), (0, 61, 41, 56), (0, 64, 0, 31)] h) := by
  refine OP_le (Nat.le_of_ble_eq_true rfl) (ctX11_messesF SPt_mono hI.1 hI.2.2.1 hI.2.2.2) ?_
  rintro v h' ⟨hc, hG, hF, -, -, hu, aw⟩
  have he : ∃ e : Int, v = some (.int (I e)) := by
    rcases hc with ⟨_, e9, _⟩ | ⟨_, e9, _⟩ <;> exact ⟨_, e9⟩
  exact ⟨he, ⟨hG, xOk_ok (by decide +kernel) h h' hF hI.2.1, hu, aw.mono (by omega)⟩, hF⟩
theorem loX11_order {sh : List (Nat × Nat)} {b : Int} {h : aH} (hI : INV sh b h) (hb : b ≤ 320000) {x : Int} (rx : r32 x) : CLd SPt 310 mX11_order [.ref 171, .int (I x)] h 0 0 (OPQ sh (b + 600) [(0, 54, 0, 0), (0, 54, 29, 29), (0, 61, 3, 40), (0, 67, 0, 79), (0, 68, 0, 3), (0, 69, 0, 911)] h) := by
  refine OP_le (Nat.le_of_ble_eq_true rfl) (ctX11_orderF SPt_mono hI.1 hI.2.1 hI.2.2.1 rx hI.2.2.2 (by omega)) ?_
  rintro v h' ⟨hc, hG, hF, -, hu, aw⟩
  have he : ∃ e : Int, v = some (.int (I e)) := by
    rcases hc with ⟨⟨_, e9⟩, _⟩ | ⟨⟨_, e9⟩, _⟩ <;> exact ⟨_, e9⟩
  exact ⟨he, ⟨hG, xOk_ok (by decide +kernel) h h' hF hI.2.1, hu, aw.mono (by omega)⟩, hF⟩
theorem loX11_pass {sh : List (Nat × Nat)} {b : Int} {h : aH} (hI : INV sh b h) (hb : b ≤ 320000) {x y z : Int} (rx : r32 x) (ry : r32 y) (rz : r32 z) : CLd SPt 310 mX11_pass [.ref 171, .int (I x), .int (I y), .int (I z)] h 0 0 (OPQ sh (b + 600) [(0, 54, 0, 0), (0, 54, 29, 29), (0, 61, 41, 48), (0, 69, 0, 911)] h) := by
  refine OP_le (Nat.le_of_ble_eq_true rfl) (ctX11_passF SPt_mono hI.1 hI.2.1 hI.2.2.1 rx ry rz hI.2.2.2 (by omega)) ?_
  rintro v h' ⟨hc, hG, hF, -, hu, aw⟩
  have he : ∃ e : Int, v = some (.int (I e)) := by
    rcases hc with ⟨⟨_, e9⟩, _⟩ | ⟨⟨_, e9⟩, _⟩ <;> exact ⟨_, e9⟩
  exact ⟨he, ⟨hG, xOk_ok (by decide +kernel) h h' hF hI.2.1, hu, aw.mono (by omega)⟩, hF⟩
theorem loX11_cook {sh : List (Nat × Nat)} {b : Int} {h : aH} (hI : INV sh b h) (hb : b ≤ 320000) {x y : Int} (rx : r32 x) (ry : r32 y) : CLd SPt 310 mX11_cook [.ref 171, .int (I x), .int (I y)] h 0 0 (OPQ sh (b + 600) [(0, 54, 0, 0), (0, 54, 29, 29), (0, 61, 41, 48), (0, 69, 0, 911)] h) := by
  refine OP_le (Nat.le_of_ble_eq_true rfl) (ctX11_cookF SPt_mono hI.1 hI.2.1 hI.2.2.1 rx ry hI.2.2.2 (by omega)) ?_
  rintro v h' ⟨hc, hG, hF, -, hu, aw⟩
  have he : ∃ e : Int, v = some (.int (I e)) := by
    rcases hc with ⟨⟨_, e9⟩, _⟩ | ⟨⟨_, e9⟩, _⟩ <;> exact ⟨_, e9⟩
  exact ⟨he, ⟨hG, xOk_ok (by decide +kernel) h h' hF hI.2.1, hu, aw.mono (by omega)⟩, hF⟩
theorem loX11_steps {sh : List (Nat × Nat)} {b : Int} {h : aH} (hI : INV sh b h) (hb : b ≤ 320000) {x : Int} (rx : r32 x) : CLd SPt 310 mX11_steps [.ref 171, .int (I x)] h 0 0 (OPQ sh (b + 600) [(0, 54, 0, 0), (0, 54, 1, 1), (0, 54, 29, 29), (0, 54, 31, 32), (0, 61, 0, 56), (0, 69, 0, 911), (1, 55, 0, 39)] h) := by
  refine OP_le (Nat.le_of_ble_eq_true rfl) (ctX11_stepsF SPt_mono hI.1 hI.2.2.1 rx hI.2.2.2 (by omega)) ?_
  rintro v h' ⟨hc, hG, hF, -, hu, aw⟩
  have he : ∃ e : Int, v = some (.int (I e)) := by
    rcases hc with ⟨-, e9, -⟩ | ⟨-, e9, -⟩ <;> exact ⟨_, e9⟩
  exact ⟨he, ⟨hG, xOk_ok (by decide +kernel) h h' hF hI.2.1, hu, aw.mono (by omega)⟩, hF⟩
theorem loX11_voyage {sh : List (Nat × Nat)} {b : Int} {h : aH} (hI : INV sh b h) (hb : b ≤ 320000) : CLd SPt 310 mX11_voyage [.ref 171] h 0 0 (OPQ sh (b + 600) [(0, 54, 0, 0), (0, 54, 1, 1), (0, 54, 17, 20), (0, 54, 29, 29), (0, 54, 31, 32), (0, 54, 35, 35), (0, 61, 0, 56), (0, 67, 0, 79), (0, 68, 0, 3), (0, 69, 0, 911), (0, 70, 0, 59), (0, 71, 0, 59), (1, 55, 0, 39)] h) := by
  refine OP_le (Nat.le_of_ble_eq_true rfl) (ctX11_voyageF SPt_mono hI.1 hI.2.1 hI.2.2.1 hI.2.2.2 (by omega)) ?_
  rintro v h' ⟨hc, hG, hF, -, -, hu, aw⟩
  have he : ∃ e : Int, v = some (.int (I e)) := by
    rcases hc with ⟨_, e9, _⟩ | ⟨_, e9, _⟩ <;> exact ⟨_, e9⟩
  exact ⟨he, ⟨hG, xOk_ok (by decide +kernel) h h' hF hI.2.1, hu, aw.mono (by omega)⟩, hF⟩
theorem loX11_undo {sh : List (Nat × Nat)} {b : Int} {h : aH} (hI : INV sh b h) (hb : b ≤ 320000) : CLd SPt 310 mX11_undo [.ref 171] h 0 0 (OPQ sh (b + 600) [(0, 54, 0, 0), (0, 54, 29, 29), (0, 61, 0, 56)] h) := by
  refine OP_le (Nat.le_of_ble_eq_true rfl) (ctX11_undoF SPt_mono hI.1 hI.2.2.1) ?_
  rintro v h' ⟨hc, hG, hF, -⟩
  have hu := hI.2.2.1
  rcases hc with ⟨c1, rfl, c3, c4⟩ | ⟨c1, rfl, c3, c4⟩
  · exact ⟨⟨_, rfl⟩, ⟨hG, xOk_ok (by decide +kernel) h h' hF hI.2.1, by omega, AW.mono ⟨by rw [c3]; exact hI.2.2.2.1, (fun u hu => by rw [RC_F hF (a := 186) (r := 69) rfl (by decide)]; exact hI.2.2.2.2.1 u hu), (fun u hu => by rw [RC_F hF (a := 200) (r := 83) rfl (by decide)]; exact hI.2.2.2.2.2 u hu)⟩ (by omega)⟩, hF⟩
  · exact ⟨⟨_, rfl⟩, ⟨hG, xOk_ok (by decide +kernel) h h' hF hI.2.1, by omega, AW.mono ⟨by rw [c3]; exact hI.2.2.2.2.1 _ (by omega), (fun u hu => by rw [RC_F hF (a := 186) (r := 69) rfl (by decide)]; exact hI.2.2.2.2.1 u hu), (fun u hu => by rw [RC_F hF (a := 200) (r := 83) rfl (by decide)]; exact hI.2.2.2.2.2 u hu)⟩ (by omega)⟩, hF⟩
theorem loX11_again {sh : List (Nat × Nat)} {b : Int} {h : aH} (hI : INV sh b h) (hb : b ≤ 320000) {x : Int} (rx : r32 x) : CLd SPt 310 mX11_again [.ref 171, .int (I x)] h 0 0 (OPQ sh (b + 600) [(0, 54, 0, 0), (0, 54, 29, 29), (0, 61, 0, 56)] h) := by
  refine OP_le (Nat.le_of_ble_eq_true rfl) (ctX11_againF SPt_mono hI.1 rx) ?_
  rintro v h' ⟨hc, hG, hF, -⟩
  have hu := hI.2.2.1
  rcases hc with ⟨c1, rfl, c3, c4⟩ | ⟨c1, rfl, c3, c4⟩
  · exact ⟨⟨_, rfl⟩, ⟨hG, xOk_ok (by decide +kernel) h h' hF hI.2.1, by omega, AW.mono ⟨by rw [c3]; exact hI.2.2.2.2.2 _ (by omega), (fun u hu => by rw [RC_F hF (a := 186) (r := 69) rfl (by decide)]; exact hI.2.2.2.2.1 u hu), (fun u hu => by rw [RC_F hF (a := 200) (r := 83) rfl (by decide)]; exact hI.2.2.2.2.2 u hu)⟩ (by omega)⟩, hF⟩
  · exact ⟨⟨_, rfl⟩, ⟨hG, xOk_ok (by decide +kernel) h h' hF hI.2.1, by omega, AW.mono ⟨by rw [c3]; exact hI.2.2.2.1, (fun u hu => by rw [RC_F hF (a := 186) (r := 69) rfl (by decide)]; exact hI.2.2.2.2.1 u hu), (fun u hu => by rw [RC_F hF (a := 200) (r := 83) rfl (by decide)]; exact hI.2.2.2.2.2 u hu)⟩ (by omega)⟩, hF⟩
theorem loX11_keep {sh : List (Nat × Nat)} {b : Int} {h : aH} (hI : INV sh b h) (hb : b ≤ 320000) {x : Int} (rx : r32 x) : CLd SPt 310 mX11_keep [.ref 171, .int (I x)] h 0 0 (fun rv h' => rv = some (.int (I (if 0 ≤ x ∧ x ≤ 2 then 1 else 0))) ∧ INV sh (b + 600) h' ∧ FRM gRL [(0, 54, 0, 0), (0, 81, 0, 2), (0, 82, 0, 2), (0, 83, 0, 170)] h h') := by
  refine OP_le (Nat.le_of_ble_eq_true rfl) (ctX11_keepF SPt_mono hI.1 rx) ?_
  rintro v h' ⟨hc, hG, hF, -⟩
  have hu : gi h' 171 29 = gi h 171 29 := FRM_gi hF (a := 171) (r := 54) (k := 29) rfl (by decide)
  have e1 : RC h' 178 0 = RC h 178 0 := RC_F hF (a := 178) (r := 61) rfl (by decide) 0
  rcases hc with ⟨c1, rfl, c3, -, -, c4⟩ | ⟨c1, rfl, c4⟩
  · rw [if_pos c1]
    refine ⟨rfl, ⟨hG, xOk_ok (by decide +kernel) h h' hF hI.2.1, by rw [hu]; exact hI.2.2.1, AW.mono ⟨by rw [e1]; exact hI.2.2.2.1, (fun u hu => by rw [RC_F hF (a := 186) (r := 69) rfl (by decide)]; exact hI.2.2.2.2.1 u hu), fun u hu => ?_⟩ (by omega)⟩, hF⟩
    if c : u = x.toNat then
      rw [c, c3]
      exact hI.2.2.2.1
    else
      rw [(c4 u c).1]
      exact hI.2.2.2.2.2 u hu
  · rw [if_neg c1]
    refine ⟨rfl, ⟨hG, xOk_ok (by decide +kernel) h h' hF hI.2.1, by rw [hu]; exact hI.2.2.1, AW.mono ⟨by rw [e1]; exact hI.2.2.2.1, (fun u hu => by rw [RC_F hF (a := 186) (r := 69) rfl (by decide)]; exact hI.2.2.2.2.1 u hu), fun u hu => ?_⟩ (by omega)⟩, hF⟩
    rw [(c4 u).1]
    exact hI.2.2.2.2.2 u hu
theorem loX11_clears {sh : List (Nat × Nat)} {b : Int} {h : aH} (hI : INV sh b h) (hb : b ≤ 320000) : CLd SPt 310 mX11_clears [.ref 171] h 0 0 (OPQ sh (b + 600) [(0, 54, 0, 0), (0, 54, 1, 1), (0, 67, 0, 79), (0, 68, 0, 3), (1, 55, 0, 39)] h) := by
  have wb := hI.2.2.2.1.1
  rw [RC_0 (by omega)] at wb
  refine OP_le (Nat.le_of_ble_eq_true rfl) (ctX11_clears SPt_mono hI.1 hI.2.1 (by omega)) ?_
  rintro v h' ⟨⟨e, rfl⟩, hG, hF, -⟩
  exact ⟨⟨e, rfl⟩, (INV_F hI hG hF (by decide +kernel)).mono (by omega), hF⟩
theorem loX11_plan {sh : List (Nat × Nat)} {b : Int} {h : aH} (hI : INV sh b h) (hb : b ≤ 320000) {x : Int} (rx : r32 x) : CLd SPt 310 mX11_plan [.ref 171, .int (I x)] h 0 0 (OPQ sh (b + 600) [(0, 54, 0, 0), (0, 54, 1, 1), (0, 67, 0, 79), (0, 68, 0, 3), (0, 72, 0, 29), (0, 73, 0, 8), (0, 74, 0, 8), (1, 55, 0, 39)] h) := by
  have wb := hI.2.2.2.1.1
  rw [RC_0 (by omega)] at wb
  refine OP_le (Nat.le_of_ble_eq_true rfl) (ctX11_plan SPt_mono hI.1 hI.2.1 rx (by omega)) ?_
  rintro v h' ⟨hc, hG, hF, -⟩
  have he : ∃ e : Int, v = some (.int (I e)) := by
    rcases hc with ⟨-, e9, -⟩ | ⟨-, -, e9, -⟩ | ⟨-, -, e9, -⟩ <;> exact ⟨_, e9⟩
  exact ⟨he, (INV_F hI hG hF (by decide +kernel)).mono (by omega), hF⟩
theorem loX11_relay {sh : List (Nat × Nat)} {b : Int} {h : aH} (hI : INV sh b h) (hb : b ≤ 320000) {x : Int} (rx : r32 x) : CLd SPt 310 mX11_relay [.ref 171, .int (I x)] h 0 0 (OPQ sh (b + 600) [(0, 54, 0, 0), (0, 54, 1, 1), (1, 55, 0, 39)] h) := by
  refine OP_le (Nat.le_of_ble_eq_true rfl) (ctX11_relay SPt_mono hI.1 rx) ?_
  rintro v h' ⟨hc, hG, hF, -⟩
  have he : ∃ e : Int, v = some (.int (I e)) := by
    rcases hc with ⟨-, e9, -⟩ | ⟨-, -, e9, -⟩ | ⟨-, -, e9, -⟩ <;> exact ⟨_, e9⟩
  exact ⟨he, (INV_F hI hG hF (by decide +kernel)).mono (by omega), hF⟩
theorem loX11_word {sh : List (Nat × Nat)} {b : Int} {h : aH} (hI : INV sh b h) (hb : b ≤ 320000) {x y : Int} (rx : r32 x) (ry : r32 y) : CLd SPt 310 mX11_word [.ref 171, .int (I x), .int (I y)] h 0 0 (OPQ sh (b + 600) [(0, 54, 0, 0), (0, 54, 1, 1), (1, 54, 39, 39), (1, 54, 40, 40), (1, 55, 0, 39)] h) := by
  refine OP_le (Nat.le_of_ble_eq_true rfl) (ctX11_word SPt_mono hI.1 rx ry) ?_
  rintro v h' ⟨hc, hG, hF, -⟩
  have he : ∃ e : Int, v = some (.int (I e)) := by
    rcases hc with ⟨-, e9, -⟩ | ⟨-, e9, -⟩ <;> exact ⟨_, e9⟩
  exact ⟨he, (INV_F hI hG hF (by decide +kernel)).mono (by omega), hF⟩
theorem loX11_shares {sh : List (Nat × Nat)} {b : Int} {h : aH} (hI : INV sh b h) (hb : b ≤ 320000) {x : Int} (rx : r32 x) : CLd SPt 310 mX11_shares [.ref 171, .int (I x)] h 0 0 (OPQ sh (b + 600) [(0, 54, 0, 0), (0, 54, 1, 1), (0, 75, 0, 14408), (1, 55, 0, 39)] h) := by
  refine OP_le (Nat.le_of_ble_eq_true rfl) (ctX11_shares SPt_mono hI.1 rx hI.2.2.2.1) ?_
  rintro v h' ⟨hc, hG, hF, -⟩
  have he : ∃ e : Int, v = some (.int (I e)) := by
    rcases hc with ⟨-, e9, -⟩ | ⟨-, -, e9, -⟩ | ⟨-, -, e9, -⟩ <;> exact ⟨_, e9⟩
  exact ⟨he, (INV_F hI hG hF (by decide +kernel)).mono (by omega), hF⟩
theorem loX11_ordered {sh : List (Nat × Nat)} {b : Int} {h : aH} (hI : INV sh b h) (hb : b ≤ 320000) : CLd SPt 310 mX11_ordered [.ref 171] h 0 0 (OPQ sh (b + 600) [(0, 54, 0, 0), (0, 54, 1, 1), (0, 78, 0, 224), (0, 79, 0, 224), (1, 55, 0, 39)] h) := by
  refine OP_le (Nat.le_of_ble_eq_true rfl) (ctX11_ordered SPt_mono hI.1) ?_
  rintro v h' ⟨hc, hG, hF, -⟩
  have he : ∃ e : Int, v = some (.int (I e)) := by
    rcases hc with ⟨-, e9, -⟩ | ⟨-, e9, -⟩ <;> exact ⟨_, e9⟩
  exact ⟨he, (INV_F hI hG hF (by decide +kernel)).mono (by omega), hF⟩
theorem loX11_mutiny {sh : List (Nat × Nat)} {b : Int} {h : aH} (hI : INV sh b h) (hb : b ≤ 320000) {x y z : Int} (rx : r32 x) (ry : r32 y) (rz : r32 z) : CLd SPt 310 mX11_mutiny [.ref 171, .int (I x), .int (I y), .int (I z)] h 0 0 (OPQ sh (b + 600) [(0, 54, 0, 0), (0, 54, 1, 1), (1, 55, 0, 39)] h) := by
  refine OP_le (Nat.le_of_ble_eq_true rfl) (ctX11_mutiny SPt_mono hI.1 rx ry rz) ?_
  rintro v h' ⟨hc, hG, hF, -⟩
  have he : ∃ e : Int, v = some (.int (I e)) := by
    rcases hc with ⟨-, e9, -⟩ | ⟨-, e9, -⟩ <;> exact ⟨_, e9⟩
  exact ⟨he, (INV_F hI hG hF (by decide +kernel)).mono (by omega), hF⟩
theorem loX11_post {sh : List (Nat × Nat)} {b : Int} {h : aH} (hI : INV sh b h) (hb : b ≤ 320000) {x y : Int} (rx : r32 x) (ry : r32 y) : CLd SPt 310 mX11_post [.ref 171, .int (I x), .int (I y)] h 0 0 (OPQ sh (b + 600) sX11_post_0.2.2.2.2 h) := by
  refine OP_le (Nat.le_of_ble_eq_true rfl) (kX11_post_0 SPt_mono [.ref 171, .int (I x), .int (I y)] _ hI.2.1 ⟨gv_r (by decide) rfl, ⟨_, rfl, i32_lo _, i32_hi _, trivial⟩, ⟨_, rfl, i32_lo _, i32_hi _, trivial⟩, trivial⟩ hI.1 gov_n) ?_
  rintro v h' ⟨hG, hF, o, m, q, z, -⟩
  obtain ⟨e, re, rfl⟩ := int_ans m rfl q
  exact ⟨⟨e, rfl⟩, (INV_F hI hG hF (by decide +kernel)).mono (by omega), hF⟩
theorem loX11_rock {sh : List (Nat × Nat)} {b : Int} {h : aH} (hI : INV sh b h) (hb : b ≤ 320000) {x y : Int} (rx : r32 x) (ry : r32 y) : CLd SPt 310 mX11_rock [.ref 171, .int (I x), .int (I y)] h 0 0 (OPQ sh (b + 600) sX11_rock_0.2.2.2.2 h) := by
  refine OP_le (Nat.le_of_ble_eq_true rfl) (kX11_rock_0 SPt_mono [.ref 171, .int (I x), .int (I y)] _ hI.2.1 ⟨gv_r (by decide) rfl, ⟨_, rfl, i32_lo _, i32_hi _, trivial⟩, ⟨_, rfl, i32_lo _, i32_hi _, trivial⟩, trivial⟩ hI.1 gov_n) ?_
  rintro v h' ⟨hG, hF, o, m, q, z, -⟩
  obtain ⟨e, re, rfl⟩ := int_ans m rfl q
  exact ⟨⟨e, rfl⟩, (INV_F hI hG hF (by decide +kernel)).mono (by omega), hF⟩
theorem loX11_mess {sh : List (Nat × Nat)} {b : Int} {h : aH} (hI : INV sh b h) (hb : b ≤ 320000) {x y : Int} (rx : r32 x) (ry : r32 y) : CLd SPt 310 mX11_mess [.ref 171, .int (I x), .int (I y)] h 0 0 (OPQ sh (b + 600) sX11_mess_0.2.2.2.2 h) := by
  refine OP_le (Nat.le_of_ble_eq_true rfl) (kX11_mess_0 SPt_mono [.ref 171, .int (I x), .int (I y)] _ hI.2.1 ⟨gv_r (by decide) rfl, ⟨_, rfl, i32_lo _, i32_hi _, trivial⟩, ⟨_, rfl, i32_lo _, i32_hi _, trivial⟩, trivial⟩ hI.1 gov_n) ?_
  rintro v h' ⟨hG, hF, o, m, q, z, -⟩
  obtain ⟨e, re, rfl⟩ := int_ans m rfl q
  exact ⟨⟨e, rfl⟩, (INV_F hI hG hF (by decide +kernel)).mono (by omega), hF⟩
theorem loX11_way {sh : List (Nat × Nat)} {b : Int} {h : aH} (hI : INV sh b h) (hb : b ≤ 320000) {x y : Int} (rx : r32 x) (ry : r32 y) : CLd SPt 310 mX11_way [.ref 171, .int (I x), .int (I y)] h 0 0 (OPQ sh (b + 600) sX11_way_0.2.2.2.2 h) := by
  refine OP_le (Nat.le_of_ble_eq_true rfl) (kX11_way_0 SPt_mono [.ref 171, .int (I x), .int (I y)] _ hI.2.1 ⟨gv_r (by decide) rfl, ⟨_, rfl, i32_lo _, i32_hi _, trivial⟩, ⟨_, rfl, i32_lo _, i32_hi _, trivial⟩, trivial⟩ hI.1 gov_n) ?_
  rintro v h' ⟨hG, hF, o, m, q, z, -⟩
  obtain ⟨e, re, rfl⟩ := int_ans m rfl q
  exact ⟨⟨e, rfl⟩, (INV_F hI hG hF (by decide +kernel)).mono (by omega), hF⟩
theorem lng_ans {h : aH} {rv : Option Value} {o : List AV × OV × List (Nat × Int × Int)} {l : OT} (hm : o ∈ l) (hl : (l.all fun o => match o.1 with
  | [(1, 0, _, _)] => true
  | _ => false) = true) (g : gst gRL (fun _ => none) [] h o.1 rv.toList) : ∃ n : Int64, rv = some (.long n) := by
  have z := List.all_eq_true.mp hl o hm
  split at z
  · rename_i lo hi he
    rw [he] at g
    cases rv with
    | none => exact absurd g (fun z => z)
    | some v =>
      obtain ⟨⟨w, rfl, -⟩, -⟩ := g
      exact ⟨w, rfl⟩
  · cases z
theorem loX11_row {sh : List (Nat × Nat)} {b : Int} {h : aH} (hI : INV sh b h) (hb : b ≤ 320000) {x : Int} (rx : r32 x) : CLd SPt 310 mX11_row [.ref 171, .int (I x)] h 0 0 (fun rv h' => (∃ e : Int64, rv = some (.long e)) ∧ INV sh (b + 600) h' ∧ FRM gRL sX11_row_0.2.2.2.2 h h') := by
  refine OP_le (Nat.le_of_ble_eq_true rfl) (kX11_row_0 SPt_mono [.ref 171, .int (I x)] _ hI.2.1 ⟨gv_r (by decide) rfl, ⟨_, rfl, i32_lo _, i32_hi _, trivial⟩, trivial⟩ hI.1 gov_n) ?_
  rintro v h' ⟨hG, hF, o, m, q, z, -⟩
  exact ⟨lng_ans m rfl q, (INV_F hI hG hF (by decide +kernel)).mono (by omega), hF⟩
