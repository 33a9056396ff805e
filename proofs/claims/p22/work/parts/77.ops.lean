/-! BETWEEN THE LAW'S CALLS -/
noncomputable def ivOk (M : MD) : Bool := awOk M && (xOk M && !(mHas M 0 54 29))
/-- what holds between calls -/
noncomputable def INV (sh : List (Nat × Nat)) (b : Int) (h : aH) : Prop := GD gE gRL sh h ∧ XI h ∧ (0 ≤ gi h 171 29 ∧ gi h 171 29 ≤ 15) ∧ AW b h
theorem INV.mono {sh : List (Nat × Nat)} {b c : Int} {h : aH} (hI : INV sh b h) (hb : b ≤ c) : INV sh c h := ⟨hI.1, hI.2.1, hI.2.2.1, hI.2.2.2.mono hb⟩
theorem INV_F {sh : List (Nat × Nat)} {b : Int} {h h' : aH} {M : MD} (hI : INV sh b h) (hG : GD gE gRL sh h') (hF : FRM gRL M h h') (hm : ivOk M = true) : INV sh b h' := by
  unfold ivOk at hm
  simp only [Bool.and_eq_true, Bool.not_eq_true'] at hm
  refine ⟨hG, xOk_ok hm.2.1 h h' hF hI.2.1, ?_, AW_F hF hm.1 hI.2.2.2⟩
  rw [FRM_gi hF (a := 171) (r := 54) rfl hm.2.2]
  exact hI.2.2.1
theorem INV_J {sh : List (Nat × Nat)} {b : Int} {h : aH} {a k : Nat} {v : Int64} (hI : INV sh b h) : INV sh b (sJ h a k v) := hI
noncomputable abbrev OPQ (sh : List (Nat × Nat)) (b : Int) (M : MD) (h : aH) : QT := fun rv h' => (∃ e : Int, rv = some (.int (I e))) ∧ INV sh b h' ∧ FRM gRL M h h'
theorem OP_le {d mid : Nat} {as : List Value} {h : aH} {Q Q' : QT} (hd : d ≤ 310) (hc : CLd SPt d mid as h 0 0 Q) (hq : ∀ rv h', Q rv h' → Q' rv h') : CLd SPt 310 mid as h 0 0 Q' := MONO_CLd SPt_mono 310 _ _ _ _ _ _ _ hq (CLd_le hd hc)
theorem loX10_delay {sh : List (Nat × Nat)} {b : Int} {h : aH} (hI : INV sh b h) (hb : b ≤ 320000) : CLd SPt 310 mX10_delay [.ref 0] h 0 0 (OPQ sh b sX10_delay_0.2.2.2.2 h) := by
  refine OP_le (Nat.le_of_ble_eq_true rfl) (kX10_delay_0 SPt_mono [.ref 0] _ hI.2.1 ⟨gv_r (by decide) rfl, trivial⟩ hI.1 gov_n) ?_
  rintro v h' ⟨hG, hF, o, m, q, z, -⟩
  obtain ⟨e, re, rfl⟩ := int_ans m rfl q
  exact ⟨⟨e, rfl⟩, (INV_F hI hG hF (by decide +kernel)).mono (by omega), hF⟩
theorem loX10_lane {sh : List (Nat × Nat)} {b : Int} {h : aH} (hI : INV sh b h) (hb : b ≤ 320000) {x : Int} (rx : r32 x) : CLd SPt 310 mX10_lane [.ref 0, .int (I x)] h 0 0 (OPQ sh b sX10_lane_0.2.2.2.2 h) := by
  refine OP_le (Nat.le_of_ble_eq_true rfl) (kX10_lane_0 SPt_mono [.ref 0, .int (I x)] _ hI.2.1 ⟨gv_r (by decide) rfl, ⟨_, rfl, i32_lo _, i32_hi _, trivial⟩, trivial⟩ hI.1 gov_n) ?_
  rintro v h' ⟨hG, hF, o, m, q, z, -⟩
  obtain ⟨e, re, rfl⟩ := int_ans m rfl q
  exact ⟨⟨e, rfl⟩, (INV_F hI hG hF (by decide +kernel)).mono (by omega), hF⟩
theorem loX10_strikes {sh : List (Nat × Nat)} {b : Int} {h : aH} (hI : INV sh b h) (hb : b ≤ 320000) : CLd SPt 310 mX10_strikes [.ref 0] h 0 0 (OPQ sh b sX10_strikes_0.2.2.2.2 h) := by
  refine OP_le (Nat.le_of_ble_eq_true rfl) (kX10_strikes_0 SPt_mono [.ref 0] _ hI.2.1 ⟨gv_r (by decide) rfl, trivial⟩ hI.1 gov_n) ?_
  rintro v h' ⟨hG, hF, o, m, q, z, -⟩
  obtain ⟨e, re, rfl⟩ := int_ans m rfl q
  exact ⟨⟨e, rfl⟩, (INV_F hI hG hF (by decide +kernel)).mono (by omega), hF⟩
theorem loX10_plan {sh : List (Nat × Nat)} {b : Int} {h : aH} (hI : INV sh b h) (hb : b ≤ 320000) {x : Int} (rx : r32 x) : CLd SPt 310 mX10_plan [.ref 0, .int (I x)] h 0 0 (OPQ sh b sX10_plan_0.2.2.2.2 h) := by
  refine OP_le (Nat.le_of_ble_eq_true rfl) (kX10_plan_0 SPt_mono [.ref 0, .int (I x)] _ hI.2.1 ⟨gv_r (by decide) rfl, ⟨_, rfl, i32_lo _, i32_hi _, trivial⟩, trivial⟩ hI.1 gov_n) ?_
  rintro v h' ⟨hG, hF, o, m, q, z, -⟩
  obtain ⟨e, re, rfl⟩ := int_ans m rfl q
  exact ⟨⟨e, rfl⟩, (INV_F hI hG hF (by decide +kernel)).mono (by omega), hF⟩
theorem loX10_latest {sh : List (Nat × Nat)} {b : Int} {h : aH} (hI : INV sh b h) (hb : b ≤ 320000) {x : Int} (rx : r32 x) : CLd SPt 310 mX10_latest [.ref 0, .int (I x)] h 0 0 (OPQ sh b sX10_latest_0.2.2.2.2 h) := by
  refine OP_le (Nat.le_of_ble_eq_true rfl) (kX10_latest_0 SPt_mono [.ref 0, .int (I x)] _ hI.2.1 ⟨gv_r (by decide) rfl, ⟨_, rfl, i32_lo _, i32_hi _, trivial⟩, trivial⟩ hI.1 gov_n) ?_
  rintro v h' ⟨hG, hF, o, m, q, z, -⟩
  obtain ⟨e, re, rfl⟩ := int_ans m rfl q
  exact ⟨⟨e, rfl⟩, (INV_F hI hG hF (by decide +kernel)).mono (by omega), hF⟩
theorem loX10_lanes {sh : List (Nat × Nat)} {b : Int} {h : aH} (hI : INV sh b h) (hb : b ≤ 320000) {x : Int} (rx : r32 x) : CLd SPt 310 mX10_lanes [.ref 0, .int (I x)] h 0 0 (OPQ sh b sX10_lanes_0.2.2.2.2 h) := by
  refine OP_le (Nat.le_of_ble_eq_true rfl) (kX10_lanes_0 SPt_mono [.ref 0, .int (I x)] _ hI.2.1 ⟨gv_r (by decide) rfl, ⟨_, rfl, i32_lo _, i32_hi _, trivial⟩, trivial⟩ hI.1 gov_n) ?_
  rintro v h' ⟨hG, hF, o, m, q, z, -⟩
  obtain ⟨e, re, rfl⟩ := int_ans m rfl q
  exact ⟨⟨e, rfl⟩, (INV_F hI hG hF (by decide +kernel)).mono (by omega), hF⟩
theorem loX10_safest {sh : List (Nat × Nat)} {b : Int} {h : aH} (hI : INV sh b h) (hb : b ≤ 320000) {x : Int} (rx : r32 x) : CLd SPt 310 mX10_safest [.ref 0, .int (I x)] h 0 0 (OPQ sh b sX10_safest_0.2.2.2.2 h) := by
  refine OP_le (Nat.le_of_ble_eq_true rfl) (kX10_safest_0 SPt_mono [.ref 0, .int (I x)] _ hI.2.1 ⟨gv_r (by decide) rfl, ⟨_, rfl, i32_lo _, i32_hi _, trivial⟩, trivial⟩ hI.1 gov_n) ?_
  rintro v h' ⟨hG, hF, o, m, q, z, -⟩
  obtain ⟨e, re, rfl⟩ := int_ans m rfl q
  exact ⟨⟨e, rfl⟩, (INV_F hI hG hF (by decide +kernel)).mono (by omega), hF⟩
theorem loX10_late {sh : List (Nat × Nat)} {b : Int} {h : aH} (hI : INV sh b h) (hb : b ≤ 320000) {x : Int} (rx : r32 x) : CLd SPt 310 mX10_late [.ref 0, .int (I x)] h 0 0 (OPQ sh b sX10_late_0.2.2.2.2 h) := by
  refine OP_le (Nat.le_of_ble_eq_true rfl) (kX10_late_0 SPt_mono [.ref 0, .int (I x)] _ hI.2.1 ⟨gv_r (by decide) rfl, ⟨_, rfl, i32_lo _, i32_hi _, trivial⟩, trivial⟩ hI.1 gov_n) ?_
  rintro v h' ⟨hG, hF, o, m, q, z, -⟩
  obtain ⟨e, re, rfl⟩ := int_ans m rfl q
  exact ⟨⟨e, rfl⟩, (INV_F hI hG hF (by decide +kernel)).mono (by omega), hF⟩
theorem loX10_comes {sh : List (Nat × Nat)} {b : Int} {h : aH} (hI : INV sh b h) (hb : b ≤ 320000) {x : Int} (rx : r32 x) : CLd SPt 310 mX10_comes [.ref 0, .int (I x)] h 0 0 (OPQ sh b sX10_comes_0.2.2.2.2 h) := by
  refine OP_le (Nat.le_of_ble_eq_true rfl) (kX10_comes_0 SPt_mono [.ref 0, .int (I x)] _ hI.2.1 ⟨gv_r (by decide) rfl, ⟨_, rfl, i32_lo _, i32_hi _, trivial⟩, trivial⟩ hI.1 gov_n) ?_
  rintro v h' ⟨hG, hF, o, m, q, z, -⟩
  obtain ⟨e, re, rfl⟩ := int_ans m rfl q
  exact ⟨⟨e, rfl⟩, (INV_F hI hG hF (by decide +kernel)).mono (by omega), hF⟩
theorem loX10_relay {sh : List (Nat × Nat)} {b : Int} {h : aH} (hI : INV sh b h) (hb : b ≤ 320000) {x : Int} (rx : r32 x) : CLd SPt 310 mX10_relay [.ref 0, .int (I x)] h 0 0 (OPQ sh b sX10_relay_0.2.2.2.2 h) := by
  refine OP_le (Nat.le_of_ble_eq_true rfl) (kX10_relay_0 SPt_mono [.ref 0, .int (I x)] _ hI.2.1 ⟨gv_r (by decide) rfl, ⟨_, rfl, i32_lo _, i32_hi _, trivial⟩, trivial⟩ hI.1 gov_n) ?_
  rintro v h' ⟨hG, hF, o, m, q, z, -⟩
  obtain ⟨e, re, rfl⟩ := int_ans m rfl q
  exact ⟨⟨e, rfl⟩, (INV_F hI hG hF (by decide +kernel)).mono (by omega), hF⟩
theorem loX10_fewest {sh : List (Nat × Nat)} {b : Int} {h : aH} (hI : INV sh b h) (hb : b ≤ 320000) {x : Int} (rx : r32 x) : CLd SPt 310 mX10_fewest [.ref 0, .int (I x)] h 0 0 (OPQ sh b sX10_fewest_0.2.2.2.2 h) := by
  refine OP_le (Nat.le_of_ble_eq_true rfl) (kX10_fewest_0 SPt_mono [.ref 0, .int (I x)] _ hI.2.1 ⟨gv_r (by decide) rfl, ⟨_, rfl, i32_lo _, i32_hi _, trivial⟩, trivial⟩ hI.1 gov_n) ?_
  rintro v h' ⟨hG, hF, o, m, q, z, -⟩
  obtain ⟨e, re, rfl⟩ := int_ans m rfl q
  exact ⟨⟨e, rfl⟩, (INV_F hI hG hF (by decide +kernel)).mono (by omega), hF⟩
theorem loX10_word {sh : List (Nat × Nat)} {b : Int} {h : aH} (hI : INV sh b h) (hb : b ≤ 320000) {x y : Int} (rx : r32 x) (ry : r32 y) : CLd SPt 310 mX10_word [.ref 0, .int (I x), .int (I y)] h 0 0 (OPQ sh b sX10_word_0.2.2.2.2 h) := by
  refine OP_le (Nat.le_of_ble_eq_true rfl) (kX10_word_0 SPt_mono [.ref 0, .int (I x), .int (I y)] _ hI.2.1 ⟨gv_r (by decide) rfl, ⟨_, rfl, i32_lo _, i32_hi _, trivial⟩, ⟨_, rfl, i32_lo _, i32_hi _, trivial⟩, trivial⟩ hI.1 gov_n) ?_
  rintro v h' ⟨hG, hF, o, m, q, z, -⟩
  obtain ⟨e, re, rfl⟩ := int_ans m rfl q
  exact ⟨⟨e, rfl⟩, (INV_F hI hG hF (by decide +kernel)).mono (by omega), hF⟩
theorem loX10_survives {sh : List (Nat × Nat)} {b : Int} {h : aH} (hI : INV sh b h) (hb : b ≤ 320000) {x y : Int} (rx : r32 x) (ry : r32 y) : CLd SPt 310 mX10_survives [.ref 0, .int (I x), .int (I y)] h 0 0 (OPQ sh b sX10_survives_0.2.2.2.2 h) := by
  refine OP_le (Nat.le_of_ble_eq_true rfl) (kX10_survives_0 SPt_mono [.ref 0, .int (I x), .int (I y)] _ hI.2.1 ⟨gv_r (by decide) rfl, ⟨_, rfl, i32_lo _, i32_hi _, trivial⟩, ⟨_, rfl, i32_lo _, i32_hi _, trivial⟩, trivial⟩ hI.1 gov_n) ?_
  rintro v h' ⟨hG, hF, o, m, q, z, -⟩
  obtain ⟨e, re, rfl⟩ := int_ans m rfl q
  exact ⟨⟨e, rfl⟩, (INV_F hI hG hF (by decide +kernel)).mono (by omega), hF⟩
theorem loX10_lives {sh : List (Nat × Nat)} {b : Int} {h : aH} (hI : INV sh b h) (hb : b ≤ 320000) {x : Int} (rx : r32 x) : CLd SPt 310 mX10_lives [.ref 0, .int (I x)] h 0 0 (OPQ sh b sX10_lives_0.2.2.2.2 h) := by
  refine OP_le (Nat.le_of_ble_eq_true rfl) (kX10_lives_0 SPt_mono [.ref 0, .int (I x)] _ hI.2.1 ⟨gv_r (by decide) rfl, ⟨_, rfl, i32_lo _, i32_hi _, trivial⟩, trivial⟩ hI.1 gov_n) ?_
  rintro v h' ⟨hG, hF, o, m, q, z, -⟩
  obtain ⟨e, re, rfl⟩ := int_ans m rfl q
  exact ⟨⟨e, rfl⟩, (INV_F hI hG hF (by decide +kernel)).mono (by omega), hF⟩
theorem loX10_shares {sh : List (Nat × Nat)} {b : Int} {h : aH} (hI : INV sh b h) (hb : b ≤ 320000) {x : Int} (rx : r32 x) : CLd SPt 310 mX10_shares [.ref 0, .int (I x)] h 0 0 (OPQ sh b sX10_shares_0.2.2.2.2 h) := by
  refine OP_le (Nat.le_of_ble_eq_true rfl) (kX10_shares_0 SPt_mono [.ref 0, .int (I x)] _ hI.2.1 ⟨gv_r (by decide) rfl, ⟨_, rfl, i32_lo _, i32_hi _, trivial⟩, trivial⟩ hI.1 gov_n) ?_
  rintro v h' ⟨hG, hF, o, m, q, z, -⟩
  obtain ⟨e, re, rfl⟩ := int_ans m rfl q
  exact ⟨⟨e, rfl⟩, (INV_F hI hG hF (by decide +kernel)).mono (by omega), hF⟩
theorem loX10_fast {sh : List (Nat × Nat)} {b : Int} {h : aH} (hI : INV sh b h) (hb : b ≤ 320000) {x : Int} (rx : r32 x) : CLd SPt 310 mX10_fast [.ref 0, .int (I x)] h 0 0 (OPQ sh b sX10_fast_0.2.2.2.2 h) := by
  refine OP_le (Nat.le_of_ble_eq_true rfl) (kX10_fast_0 SPt_mono [.ref 0, .int (I x)] _ hI.2.1 ⟨gv_r (by decide) rfl, ⟨_, rfl, i32_lo _, i32_hi _, trivial⟩, trivial⟩ hI.1 gov_n) ?_
  rintro v h' ⟨hG, hF, o, m, q, z, -⟩
  obtain ⟨e, re, rfl⟩ := int_ans m rfl q
  exact ⟨⟨e, rfl⟩, (INV_F hI hG hF (by decide +kernel)).mono (by omega), hF⟩
theorem loX10_seen {sh : List (Nat × Nat)} {b : Int} {h : aH} (hI : INV sh b h) (hb : b ≤ 320000) {x y : Int} (rx : r32 x) (ry : r32 y) : CLd SPt 310 mX10_seen [.ref 0, .int (I x), .int (I y)] h 0 0 (OPQ sh b sX10_seen_0.2.2.2.2 h) := by
  refine OP_le (Nat.le_of_ble_eq_true rfl) (kX10_seen_0 SPt_mono [.ref 0, .int (I x), .int (I y)] _ hI.2.1 ⟨gv_r (by decide) rfl, ⟨_, rfl, i32_lo _, i32_hi _, trivial⟩, ⟨_, rfl, i32_lo _, i32_hi _, trivial⟩, trivial⟩ hI.1 gov_n) ?_
  rintro v h' ⟨hG, hF, o, m, q, z, -⟩
  obtain ⟨e, re, rfl⟩ := int_ans m rfl q
  exact ⟨⟨e, rfl⟩, (INV_F hI hG hF (by decide +kernel)).mono (by omega), hF⟩
theorem loX10_forget {sh : List (Nat × Nat)} {b : Int} {h : aH} (hI : INV sh b h) (hb : b ≤ 320000) : CLd SPt 310 mX10_forget [.ref 0] h 0 0 (OPQ sh b sX10_forget_0.2.2.2.2 h) := by
  refine OP_le (Nat.le_of_ble_eq_true rfl) (kX10_forget_0 SPt_mono [.ref 0] _ hI.2.1 ⟨gv_r (by decide) rfl, trivial⟩ hI.1 gov_n) ?_
  rintro v h' ⟨hG, hF, o, m, q, z, -⟩
  obtain ⟨e, re, rfl⟩ := int_ans m rfl q
  exact ⟨⟨e, rfl⟩, (INV_F hI hG hF (by decide +kernel)).mono (by omega), hF⟩
theorem loX10_ordered {sh : List (Nat × Nat)} {b : Int} {h : aH} (hI : INV sh b h) (hb : b ≤ 320000) : CLd SPt 310 mX10_ordered [.ref 0] h 0 0 (OPQ sh b sX10_ordered_0.2.2.2.2 h) := by
  refine OP_le (Nat.le_of_ble_eq_true rfl) (kX10_ordered_0 SPt_mono [.ref 0] _ hI.2.1 ⟨gv_r (by decide) rfl, trivial⟩ hI.1 gov_n) ?_
  rintro v h' ⟨hG, hF, o, m, q, z, -⟩
  obtain ⟨e, re, rfl⟩ := int_ans m rfl q
  exact ⟨⟨e, rfl⟩, (INV_F hI hG hF (by decide +kernel)).mono (by omega), hF⟩
theorem loX10_unsure {sh : List (Nat × Nat)} {b : Int} {h : aH} (hI : INV sh b h) (hb : b ≤ 320000) : CLd SPt 310 mX10_unsure [.ref 0] h 0 0 (OPQ sh b sX10_unsure_0.2.2.2.2 h) := by
  refine OP_le (Nat.le_of_ble_eq_true rfl) (kX10_unsure_0 SPt_mono [.ref 0] _ hI.2.1 ⟨gv_r (by decide) rfl, trivial⟩ hI.1 gov_n) ?_
  rintro v h' ⟨hG, hF, o, m, q, z, -⟩
  obtain ⟨e, re, rfl⟩ := int_ans m rfl q
  exact ⟨⟨e, rfl⟩, (INV_F hI hG hF (by decide +kernel)).mono (by omega), hF⟩
theorem loX10_boy {sh : List (Nat × Nat)} {b : Int} {h : aH} (hI : INV sh b h) (hb : b ≤ 320000) {x y : Int} (rx : r32 x) (ry : r32 y) : CLd SPt 310 mX10_boy [.ref 0, .int (I x), .int (I y)] h 0 0 (OPQ sh b sX10_boy_0.2.2.2.2 h) := by
  refine OP_le (Nat.le_of_ble_eq_true rfl) (kX10_boy_0 SPt_mono [.ref 0, .int (I x), .int (I y)] _ hI.2.1 ⟨gv_r (by decide) rfl, ⟨_, rfl, i32_lo _, i32_hi _, trivial⟩, ⟨_, rfl, i32_lo _, i32_hi _, trivial⟩, trivial⟩ hI.1 gov_n) ?_
  rintro v h' ⟨hG, hF, o, m, q, z, -⟩
  obtain ⟨e, re, rfl⟩ := int_ans m rfl q
  exact ⟨⟨e, rfl⟩, (INV_F hI hG hF (by decide +kernel)).mono (by omega), hF⟩
theorem loX10_meets {sh : List (Nat × Nat)} {b : Int} {h : aH} (hI : INV sh b h) (hb : b ≤ 320000) {x : Int} (rx : r32 x) : CLd SPt 310 mX10_meets [.ref 0, .int (I x)] h 0 0 (OPQ sh b sX10_meets_0.2.2.2.2 h) := by
  refine OP_le (Nat.le_of_ble_eq_true rfl) (kX10_meets_0 SPt_mono [.ref 0, .int (I x)] _ hI.2.1 ⟨gv_r (by decide) rfl, ⟨_, rfl, i32_lo _, i32_hi _, trivial⟩, trivial⟩ hI.1 gov_n) ?_
  rintro v h' ⟨hG, hF, o, m, q, z, -⟩
  obtain ⟨e, re, rfl⟩ := int_ans m rfl q
  exact ⟨⟨e, rfl⟩, (INV_F hI hG hF (by decide +kernel)).mono (by omega), hF⟩
theorem loX10_knows {sh : List (Nat × Nat)} {b : Int} {h : aH} (hI : INV sh b h) (hb : b ≤ 320000) {x y : Int} (rx : r32 x) (ry : r32 y) : CLd SPt 310 mX10_knows [.ref 0, .int (I x), .int (I y)] h 0 0 (OPQ sh b sX10_knows_0.2.2.2.2 h) := by
  refine OP_le (Nat.le_of_ble_eq_true rfl) (kX10_knows_0 SPt_mono [.ref 0, .int (I x), .int (I y)] _ hI.2.1 ⟨gv_r (by decide) rfl, ⟨_, rfl, i32_lo _, i32_hi _, trivial⟩, ⟨_, rfl, i32_lo _, i32_hi _, trivial⟩, trivial⟩ hI.1 gov_n) ?_
  rintro v h' ⟨hG, hF, o, m, q, z, -⟩
  obtain ⟨e, re, rfl⟩ := int_ans m rfl q
  exact ⟨⟨e, rfl⟩, (INV_F hI hG hF (by decide +kernel)).mono (by omega), hF⟩
theorem loX10_mutiny {sh : List (Nat × Nat)} {b : Int} {h : aH} (hI : INV sh b h) (hb : b ≤ 320000) {x y z : Int} (rx : r32 x) (ry : r32 y) (rz : r32 z) : CLd SPt 310 mX10_mutiny [.ref 0, .int (I x), .int (I y), .int (I z)] h 0 0 (OPQ sh b sX10_mutiny_0.2.2.2.2 h) := by
  refine OP_le (Nat.le_of_ble_eq_true rfl) (kX10_mutiny_0 SPt_mono [.ref 0, .int (I x), .int (I y), .int (I z)] _ hI.2.1 ⟨gv_r (by decide) rfl, ⟨_, rfl, i32_lo _, i32_hi _, trivial⟩, ⟨_, rfl, i32_lo _, i32_hi _, trivial⟩, ⟨_, rfl, i32_lo _, i32_hi _, trivial⟩, trivial⟩ hI.1 gov_n) ?_
  rintro v h' ⟨hG, hF, o, m, q, z, -⟩
  obtain ⟨e, re, rfl⟩ := int_ans m rfl q
  exact ⟨⟨e, rfl⟩, (INV_F hI hG hF (by decide +kernel)).mono (by omega), hF⟩
theorem loX10_chance {sh : List (Nat × Nat)} {b : Int} {h : aH} (hI : INV sh b h) (hb : b ≤ 320000) {x y z : Int} (rx : r32 x) (ry : r32 y) (rz : r32 z) : CLd SPt 310 mX10_chance [.ref 0, .int (I x), .int (I y), .int (I z)] h 0 0 (OPQ sh b sX10_chance_0.2.2.2.2 h) := by
  refine OP_le (Nat.le_of_ble_eq_true rfl) (kX10_chance_0 SPt_mono [.ref 0, .int (I x), .int (I y), .int (I z)] _ hI.2.1 ⟨gv_r (by decide) rfl, ⟨_, rfl, i32_lo _, i32_hi _, trivial⟩, ⟨_, rfl, i32_lo _, i32_hi _, trivial⟩, ⟨_, rfl, i32_lo _, i32_hi _, trivial⟩, trivial⟩ hI.1 gov_n) ?_
  rintro v h' ⟨hG, hF, o, m, q, z, -⟩
  obtain ⟨e, re, rfl⟩ := int_ans m rfl q
  exact ⟨⟨e, rfl⟩, (INV_F hI hG hF (by decide +kernel)).mono (by omega), hF⟩
theorem loX10_count {sh : List (Nat × Nat)} {b : Int} {h : aH} (hI : INV sh b h) (hb : b ≤ 320000) {x : Int} (rx : r32 x) : CLd SPt 310 mX10_count [.ref 0, .int (I x)] h 0 0 (OPQ sh b sX10_count_0.2.2.2.2 h) := by
  refine OP_le (Nat.le_of_ble_eq_true rfl) (kX10_count_0 SPt_mono [.ref 0, .int (I x)] _ hI.2.1 ⟨gv_r (by decide) rfl, ⟨_, rfl, i32_lo _, i32_hi _, trivial⟩, trivial⟩ hI.1 gov_n) ?_
  rintro v h' ⟨hG, hF, o, m, q, z, -⟩
  obtain ⟨e, re, rfl⟩ := int_ans m rfl q
  exact ⟨⟨e, rfl⟩, (INV_F hI hG hF (by decide +kernel)).mono (by omega), hF⟩
theorem loX11_delay {sh : List (Nat × Nat)} {b : Int} {h : aH} (hI : INV sh b h) (hb : b ≤ 320000) : CLd SPt 310 mX11_delay [.ref 171] h 0 0 (OPQ sh (b + 600) sX11_delay_0.2.2.2.2 h) := by
  refine OP_le (Nat.le_of_ble_eq_true rfl) (kX11_delay_0 SPt_mono [.ref 171] _ hI.2.1 ⟨gv_r (by decide) rfl, trivial⟩ hI.1 gov_n) ?_
  rintro v h' ⟨hG, hF, o, m, q, z, -⟩
  obtain ⟨e, re, rfl⟩ := int_ans m rfl q
  exact ⟨⟨e, rfl⟩, (INV_F hI hG hF (by decide +kernel)).mono (by omega), hF⟩
theorem loX11_lane {sh : List (Nat × Nat)} {b : Int} {h : aH} (hI : INV sh b h) (hb : b ≤ 320000) {x : Int} (rx : r32 x) : CLd SPt 310 mX11_lane [.ref 171, .int (I x)] h 0 0 (OPQ sh (b + 600) sX11_lane_0.2.2.2.2 h) := by
  refine OP_le (Nat.le_of_ble_eq_true rfl) (kX11_lane_0 SPt_mono [.ref 171, .int (I x)] _ hI.2.1 ⟨gv_r (by decide) rfl, ⟨_, rfl, i32_lo _, i32_hi _, trivial⟩, trivial⟩ hI.1 gov_n) ?_
  rintro v h' ⟨hG, hF, o, m, q, z, -⟩
  obtain ⟨e, re, rfl⟩ := int_ans m rfl q
  exact ⟨⟨e, rfl⟩, (INV_F hI hG hF (by decide +kernel)).mono (by omega), hF⟩
theorem loX11_strikes {sh : List (Nat × Nat)} {b : Int} {h : aH} (hI : INV sh b h) (hb : b ≤ 320000) : CLd SPt 310 mX11_strikes [.ref 171] h 0 0 (OPQ sh (b + 600) sX11_strikes_0.2.2.2.2 h) := by
  refine OP_le (Nat.le_of_ble_eq_true rfl) (kX11_strikes_0 SPt_mono [.ref 171] _ hI.2.1 ⟨gv_r (by decide) rfl, trivial⟩ hI.1 gov_n) ?_
  rintro v h' ⟨hG, hF, o, m, q, z, -⟩
  obtain ⟨e, re, rfl⟩ := int_ans m rfl q
  exact ⟨⟨e, rfl⟩, (INV_F hI hG hF (by decide +kernel)).mono (by omega), hF⟩
theorem loX11_latest {sh : List (Nat × Nat)} {b : Int} {h : aH} (hI : INV sh b h) (hb : b ≤ 320000) {x : Int} (rx : r32 x) : CLd SPt 310 mX11_latest [.ref 171, .int (I x)] h 0 0 (OPQ sh (b + 600) sX11_latest_0.2.2.2.2 h) := by
  refine OP_le (Nat.le_of_ble_eq_true rfl) (kX11_latest_0 SPt_mono [.ref 171, .int (I x)] _ hI.2.1 ⟨gv_r (by decide) rfl, ⟨_, rfl, i32_lo _, i32_hi _, trivial⟩, trivial⟩ hI.1 gov_n) ?_
  rintro v h' ⟨hG, hF, o, m, q, z, -⟩
  obtain ⟨e, re, rfl⟩ := int_ans m rfl q
  exact ⟨⟨e, rfl⟩, (INV_F hI hG hF (by decide +kernel)).mono (by omega), hF⟩
theorem loX11_lanes {sh : List (Nat × Nat)} {b : Int} {h : aH} (hI : INV sh b h) (hb : b ≤ 320000) {x : Int} (rx : r32 x) : CLd SPt 310 mX11_lanes [.ref 171, .int (I x)] h 0 0 (OPQ sh (b + 600) sX11_lanes_0.2.2.2.2 h) := by
  refine OP_le (Nat.le_of_ble_eq_true rfl) (kX11_lanes_0 SPt_mono [.ref 171, .int (I x)] _ hI.2.1 ⟨gv_r (by decide) rfl, ⟨_, rfl, i32_lo _, i32_hi _, trivial⟩, trivial⟩ hI.1 gov_n) ?_
  rintro v h' ⟨hG, hF, o, m, q, z, -⟩
  obtain ⟨e, re, rfl⟩ := int_ans m rfl q
  exact ⟨⟨e, rfl⟩, (INV_F hI hG hF (by decide +kernel)).mono (by omega), hF⟩
theorem loX11_safest {sh : List (Nat × Nat)} {b : Int} {h : aH} (hI : INV sh b h) (hb : b ≤ 320000) {x : Int} (rx : r32 x) : CLd SPt 310 mX11_safest [.ref 171, .int (I x)] h 0 0 (OPQ sh (b + 600) sX11_safest_0.2.2.2.2 h) := by
  refine OP_le (Nat.le_of_ble_eq_true rfl) (kX11_safest_0 SPt_mono [.ref 171, .int (I x)] _ hI.2.1 ⟨gv_r (by decide) rfl, ⟨_, rfl, i32_lo _, i32_hi _, trivial⟩, trivial⟩ hI.1 gov_n) ?_
  rintro v h' ⟨hG, hF, o, m, q, z, -⟩
  obtain ⟨e, re, rfl⟩ := int_ans m rfl q
  exact ⟨⟨e, rfl⟩, (INV_F hI hG hF (by decide +kernel)).mono (by omega), hF⟩
theorem loX11_late {sh : List (Nat × Nat)} {b : Int} {h : aH} (hI : INV sh b h) (hb : b ≤ 320000) {x : Int} (rx : r32 x) : CLd SPt 310 mX11_late [.ref 171, .int (I x)] h 0 0 (OPQ sh (b + 600) sX11_late_0.2.2.2.2 h) := by
  refine OP_le (Nat.le_of_ble_eq_true rfl) (kX11_late_0 SPt_mono [.ref 171, .int (I x)] _ hI.2.1 ⟨gv_r (by decide) rfl, ⟨_, rfl, i32_lo _, i32_hi _, trivial⟩, trivial⟩ hI.1 gov_n) ?_
  rintro v h' ⟨hG, hF, o, m, q, z, -⟩
  obtain ⟨e, re, rfl⟩ := int_ans m rfl q
  exact ⟨⟨e, rfl⟩, (INV_F hI hG hF (by decide +kernel)).mono (by omega), hF⟩
theorem loX11_comes {sh : List (Nat × Nat)} {b : Int} {h : aH} (hI : INV sh b h) (hb : b ≤ 320000) {x : Int} (rx : r32 x) : CLd SPt 310 mX11_comes [.ref 171, .int (I x)] h 0 0 (OPQ sh (b + 600) sX11_comes_0.2.2.2.2 h) := by
  refine OP_le (Nat.le_of_ble_eq_true rfl) (kX11_comes_0 SPt_mono [.ref 171, .int (I x)] _ hI.2.1 ⟨gv_r (by decide) rfl, ⟨_, rfl, i32_lo _, i32_hi _, trivial⟩, trivial⟩ hI.1 gov_n) ?_
  rintro v h' ⟨hG, hF, o, m, q, z, -⟩
  obtain ⟨e, re, rfl⟩ := int_ans m rfl q
  exact ⟨⟨e, rfl⟩, (INV_F hI hG hF (by decide +kernel)).mono (by omega), hF⟩
theorem loX11_fewest {sh : List (Nat × Nat)} {b : Int} {h : aH} (hI : INV sh b h) (hb : b ≤ 320000) {x : Int} (rx : r32 x) : CLd SPt 310 mX11_fewest [.ref 171, .int (I x)] h 0 0 (OPQ sh (b + 600) sX11_fewest_0.2.2.2.2 h) := by
  refine OP_le (Nat.le_of_ble_eq_true rfl) (kX11_fewest_0 SPt_mono [.ref 171, .int (I x)] _ hI.2.1 ⟨gv_r (by decide) rfl, ⟨_, rfl, i32_lo _, i32_hi _, trivial⟩, trivial⟩ hI.1 gov_n) ?_
  rintro v h' ⟨hG, hF, o, m, q, z, -⟩
  obtain ⟨e, re, rfl⟩ := int_ans m rfl q
  exact ⟨⟨e, rfl⟩, (INV_F hI hG hF (by decide +kernel)).mono (by omega), hF⟩
theorem loX11_survives {sh : List (Nat × Nat)} {b : Int} {h : aH} (hI : INV sh b h) (hb : b ≤ 320000) {x y : Int} (rx : r32 x) (ry : r32 y) : CLd SPt 310 mX11_survives [.ref 171, .int (I x), .int (I y)] h 0 0 (OPQ sh (b + 600) sX11_survives_0.2.2.2.2 h) := by
  refine OP_le (Nat.le_of_ble_eq_true rfl) (kX11_survives_0 SPt_mono [.ref 171, .int (I x), .int (I y)] _ hI.2.1 ⟨gv_r (by decide) rfl, ⟨_, rfl, i32_lo _, i32_hi _, trivial⟩, ⟨_, rfl, i32_lo _, i32_hi _, trivial⟩, trivial⟩ hI.1 gov_n) ?_
  rintro v h' ⟨hG, hF, o, m, q, z, -⟩
  obtain ⟨e, re, rfl⟩ := int_ans m rfl q
  exact ⟨⟨e, rfl⟩, (INV_F hI hG hF (by decide +kernel)).mono (by omega), hF⟩
theorem loX11_lives {sh : List (Nat × Nat)} {b : Int} {h : aH} (hI : INV sh b h) (hb : b ≤ 320000) {x : Int} (rx : r32 x) : CLd SPt 310 mX11_lives [.ref 171, .int (I x)] h 0 0 (OPQ sh (b + 600) sX11_lives_0.2.2.2.2 h) := by
  refine OP_le (Nat.le_of_ble_eq_true rfl) (kX11_lives_0 SPt_mono [.ref 171, .int (I x)] _ hI.2.1 ⟨gv_r (by decide) rfl, ⟨_, rfl, i32_lo _, i32_hi _, trivial⟩, trivial⟩ hI.1 gov_n) ?_
  rintro v h' ⟨hG, hF, o, m, q, z, -⟩
  obtain ⟨e, re, rfl⟩ := int_ans m rfl q
  exact ⟨⟨e, rfl⟩, (INV_F hI hG hF (by decide +kernel)).mono (by omega), hF⟩
theorem loX11_fast {sh : List (Nat × Nat)} {b : Int} {h : aH} (hI : INV sh b h) (hb : b ≤ 320000) {x : Int} (rx : r32 x) : CLd SPt 310 mX11_fast [.ref 171, .int (I x)] h 0 0 (OPQ sh (b + 600) sX11_fast_0.2.2.2.2 h) := by
  refine OP_le (Nat.le_of_ble_eq_true rfl) (kX11_fast_0 SPt_mono [.ref 171, .int (I x)] _ hI.2.1 ⟨gv_r (by decide) rfl, ⟨_, rfl, i32_lo _, i32_hi _, trivial⟩, trivial⟩ hI.1 gov_n) ?_
  rintro v h' ⟨hG, hF, o, m, q, z, -⟩
  obtain ⟨e, re, rfl⟩ := int_ans m rfl q
  exact ⟨⟨e, rfl⟩, (INV_F hI hG hF (by decide +kernel)).mono (by omega), hF⟩
theorem loX11_seen {sh : List (Nat × Nat)} {b : Int} {h : aH} (hI : INV sh b h) (hb : b ≤ 320000) {x y : Int} (rx : r32 x) (ry : r32 y) : CLd SPt 310 mX11_seen [.ref 171, .int (I x), .int (I y)] h 0 0 (OPQ sh (b + 600) sX11_seen_0.2.2.2.2 h) := by
  refine OP_le (Nat.le_of_ble_eq_true rfl) (kX11_seen_0 SPt_mono [.ref 171, .int (I x), .int (I y)] _ hI.2.1 ⟨gv_r (by decide) rfl, ⟨_, rfl, i32_lo _, i32_hi _, trivial⟩, ⟨_, rfl, i32_lo _, i32_hi _, trivial⟩, trivial⟩ hI.1 gov_n) ?_
  rintro v h' ⟨hG, hF, o, m, q, z, -⟩
  obtain ⟨e, re, rfl⟩ := int_ans m rfl q
  exact ⟨⟨e, rfl⟩, (INV_F hI hG hF (by decide +kernel)).mono (by omega), hF⟩
theorem loX11_forget {sh : List (Nat × Nat)} {b : Int} {h : aH} (hI : INV sh b h) (hb : b ≤ 320000) : CLd SPt 310 mX11_forget [.ref 171] h 0 0 (OPQ sh (b + 600) sX11_forget_0.2.2.2.2 h) := by
  refine OP_le (Nat.le_of_ble_eq_true rfl) (kX11_forget_0 SPt_mono [.ref 171] _ hI.2.1 ⟨gv_r (by decide) rfl, trivial⟩ hI.1 gov_n) ?_
  rintro v h' ⟨hG, hF, o, m, q, z, -⟩
  obtain ⟨e, re, rfl⟩ := int_ans m rfl q
  exact ⟨⟨e, rfl⟩, (INV_F hI hG hF (by decide +kernel)).mono (by omega), hF⟩
theorem loX11_unsure {sh : List (Nat × Nat)} {b : Int} {h : aH} (hI : INV sh b h) (hb : b ≤ 320000) : CLd SPt 310 mX11_unsure [.ref 171] h 0 0 (OPQ sh (b + 600) sX11_unsure_0.2.2.2.2 h) := by
  refine OP_le (Nat.le_of_ble_eq_true rfl) (kX11_unsure_0 SPt_mono [.ref 171] _ hI.2.1 ⟨gv_r (by decide) rfl, trivial⟩ hI.1 gov_n) ?_
  rintro v h' ⟨hG, hF, o, m, q, z, -⟩
  obtain ⟨e, re, rfl⟩ := int_ans m rfl q
  exact ⟨⟨e, rfl⟩, (INV_F hI hG hF (by decide +kernel)).mono (by omega), hF⟩
theorem loX11_boy {sh : List (Nat × Nat)} {b : Int} {h : aH} (hI : INV sh b h) (hb : b ≤ 320000) {x y : Int} (rx : r32 x) (ry : r32 y) : CLd SPt 310 mX11_boy [.ref 171, .int (I x), .int (I y)] h 0 0 (OPQ sh (b + 600) sX11_boy_0.2.2.2.2 h) := by
  refine OP_le (Nat.le_of_ble_eq_true rfl) (kX11_boy_0 SPt_mono [.ref 171, .int (I x), .int (I y)] _ hI.2.1 ⟨gv_r (by decide) rfl, ⟨_, rfl, i32_lo _, i32_hi _, trivial⟩, ⟨_, rfl, i32_lo _, i32_hi _, trivial⟩, trivial⟩ hI.1 gov_n) ?_
  rintro v h' ⟨hG, hF, o, m, q, z, -⟩
  obtain ⟨e, re, rfl⟩ := int_ans m rfl q
  exact ⟨⟨e, rfl⟩, (INV_F hI hG hF (by decide +kernel)).mono (by omega), hF⟩
theorem loX11_meets {sh : List (Nat × Nat)} {b : Int} {h : aH} (hI : INV sh b h) (hb : b ≤ 320000) {x : Int} (rx : r32 x) : CLd SPt 310 mX11_meets [.ref 171, .int (I x)] h 0 0 (OPQ sh (b + 600) sX11_meets_0.2.2.2.2 h) := by
  refine OP_le (Nat.le_of_ble_eq_true rfl) (kX11_meets_0 SPt_mono [.ref 171, .int (I x)] _ hI.2.1 ⟨gv_r (by decide) rfl, ⟨_, rfl, i32_lo _, i32_hi _, trivial⟩, trivial⟩ hI.1 gov_n) ?_
  rintro v h' ⟨hG, hF, o, m, q, z, -⟩
  obtain ⟨e, re, rfl⟩ := int_ans m rfl q
  exact ⟨⟨e, rfl⟩, (INV_F hI hG hF (by decide +kernel)).mono (by omega), hF⟩
theorem loX11_knows {sh : List (Nat × Nat)} {b : Int} {h : aH} (hI : INV sh b h) (hb : b ≤ 320000) {x y : Int} (rx : r32 x) (ry : r32 y) : CLd SPt 310 mX11_knows [.ref 171, .int (I x), .int (I y)] h 0 0 (OPQ sh (b + 600) sX11_knows_0.2.2.2.2 h) := by
  refine OP_le (Nat.le_of_ble_eq_true rfl) (kX11_knows_0 SPt_mono [.ref 171, .int (I x), .int (I y)] _ hI.2.1 ⟨gv_r (by decide) rfl, ⟨_, rfl, i32_lo _, i32_hi _, trivial⟩, ⟨_, rfl, i32_lo _, i32_hi _, trivial⟩, trivial⟩ hI.1 gov_n) ?_
  rintro v h' ⟨hG, hF, o, m, q, z, -⟩
  obtain ⟨e, re, rfl⟩ := int_ans m rfl q
  exact ⟨⟨e, rfl⟩, (INV_F hI hG hF (by decide +kernel)).mono (by omega), hF⟩
theorem loX11_chance {sh : List (Nat × Nat)} {b : Int} {h : aH} (hI : INV sh b h) (hb : b ≤ 320000) {x y z : Int} (rx : r32 x) (ry : r32 y) (rz : r32 z) : CLd SPt 310 mX11_chance [.ref 171, .int (I x), .int (I y), .int (I z)] h 0 0 (OPQ sh (b + 600) sX11_chance_0.2.2.2.2 h) := by
  refine OP_le (Nat.le_of_ble_eq_true rfl) (kX11_chance_0 SPt_mono [.ref 171, .int (I x), .int (I y), .int (I z)] _ hI.2.1 ⟨gv_r (by decide) rfl, ⟨_, rfl, i32_lo _, i32_hi _, trivial⟩, ⟨_, rfl, i32_lo _, i32_hi _, trivial⟩, ⟨_, rfl, i32_lo _, i32_hi _, trivial⟩, trivial⟩ hI.1 gov_n) ?_
  rintro v h' ⟨hG, hF, o, m, q, z, -⟩
  obtain ⟨e, re, rfl⟩ := int_ans m rfl q
  exact ⟨⟨e, rfl⟩, (INV_F hI hG hF (by decide +kernel)).mono (by omega), hF⟩
theorem loX11_voyages {sh : List (Nat × Nat)} {b : Int} {h : aH} (hI : INV sh b h) (hb : b ≤ 320000) {x y : Int} (rx : r32 x) (ry : r32 y) : CLd SPt 310 mX11_voyages [.ref 171, .int (I x), .int (I y)] h 0 0 (OPQ sh (b + 600) sX11_voyages_0.2.2.2.2 h) := by
  refine OP_le (Nat.le_of_ble_eq_true rfl) (kX11_voyages_0 SPt_mono [.ref 171, .int (I x), .int (I y)] _ hI.2.1 ⟨gv_r (by decide) rfl, ⟨_, rfl, i32_lo _, i32_hi _, trivial⟩, ⟨_, rfl, i32_lo _, i32_hi _, trivial⟩, trivial⟩ hI.1 gov_n) ?_
  rintro v h' ⟨hG, hF, o, m, q, z, -⟩
  obtain ⟨e, re, rfl⟩ := int_ans m rfl q
  exact ⟨⟨e, rfl⟩, (INV_F hI hG hF (by decide +kernel)).mono (by omega), hF⟩
theorem loX11_count {sh : List (Nat × Nat)} {b : Int} {h : aH} (hI : INV sh b h) (hb : b ≤ 320000) {x : Int} (rx : r32 x) : CLd SPt 310 mX11_count [.ref 171, .int (I x)] h 0 0 (OPQ sh (b + 600) sX11_count_0.2.2.2.2 h) := by
  refine OP_le (Nat.le_of_ble_eq_true rfl) (kX11_count_0 SPt_mono [.ref 171, .int (I x)] _ hI.2.1 ⟨gv_r (by decide) rfl, ⟨_, rfl, i32_lo _, i32_hi _, trivial⟩, trivial⟩ hI.1 gov_n) ?_
  rintro v h' ⟨hG, hF, o, m, q, z, -⟩
  obtain ⟨e, re, rfl⟩ := int_ans m rfl q
  exact ⟨⟨e, rfl⟩, (INV_F hI hG hF (by decide +kernel)).mono (by omega), hF⟩
theorem loX11_plan {sh : List (Nat × Nat)} {b : Int} {h : aH} (hI : INV sh b h) (hb : b ≤ 320000) {x : Int} (rx : r32 x) : CLd SPt 310 mX11_plan [.ref 171, .int (I x)] h 0 0 (OPQ sh (b + 600) [(0, 54, 0, 0), (0, 54, 1, 1), (0, 67, 0, 79), (0, 68, 0, 3), (0, 72, 0, 29), (0, 73, 0, 8), (0, 74, 0, 8), (1, 55, 0, 39)] h) := by
  have wb := hI.2.2.2.1.1
  rw [RC_0 (by omega)] at wb
  refine OP_le (Nat.le_of_ble_eq_true rfl) (ctX11_plan SPt_mono hI.1 hI.2.1 rx (by omega)) ?_
  rintro v h' ⟨hc, hG, hF, -⟩
  have he : ∃ e : Int, v = some (.int (I e)) := by
    rcases hc with ⟨-, e9, -⟩ | ⟨-, -, e9, -⟩ | ⟨-, -, e9, -⟩ <;> exact ⟨_, e9⟩
  exact ⟨he, (INV_F hI hG hF (by decide +kernel)).mono (by omega), hF⟩
theorem loX11_relay {sh : List (Nat × Nat)} {b : Int} {h : aH} (hI : INV sh b h) (hb : b ≤ 320000) {x : Int} (rx : r32 x) : CLd SPt 310 mX11_relay [.ref 171, .int (I x)] h 0 0 (OPQ sh (b + 600) [(0, 54, 0, 0), (0, 54, 1, 1), (1, 55, 0, 39)] h) := by
  refine OP_le (Nat.le_of_ble_eq_true rfl) (ctX11_relay SPt_mono hI.1 rx) ?_
  rintro v h' ⟨hc, hG, hF, -⟩
  have he : ∃ e : Int, v = some (.int (I e)) := by
    rcases hc with ⟨-, e9, -⟩ | ⟨-, -, e9, -⟩ | ⟨-, -, e9, -⟩ <;> exact ⟨_, e9⟩
  exact ⟨he, (INV_F hI hG hF (by decide +kernel)).mono (by omega), hF⟩
theorem loX11_word {sh : List (Nat × Nat)} {b : Int} {h : aH} (hI : INV sh b h) (hb : b ≤ 320000) {x y : Int} (rx : r32 x) (ry : r32 y) : CLd SPt 310 mX11_word [.ref 171, .int (I x), .int (I y)] h 0 0 (OPQ sh (b + 600) [(0, 54, 0, 0), (0, 54, 1, 1), (1, 54, 39, 39), (1, 54, 40, 40), (1, 55, 0, 39)] h) := by
  refine OP_le (Nat.le_of_ble_eq_true rfl) (ctX11_word SPt_mono hI.1 rx ry) ?_
  rintro v h' ⟨hc, hG, hF, -⟩
  have he : ∃ e : Int, v = some (.int (I e)) := by
    rcases hc with ⟨-, e9, -⟩ | ⟨-, e9, -⟩ <;> exact ⟨_, e9⟩
  exact ⟨he, (INV_F hI hG hF (by decide +kernel)).mono (by omega), hF⟩
theorem loX11_shares {sh : List (Nat × Nat)} {b : Int} {h : aH} (hI : INV sh b h) (hb : b ≤ 320000) {x : Int} (rx : r32 x) : CLd SPt 310 mX11_shares [.ref 171, .int (I x)] h 0 0 (OPQ sh (b + 600) [(0, 54, 0, 0), (0, 54, 1, 1), (0, 75, 0, 14408), (1, 55, 0, 39)] h) := by
  refine OP_le (Nat.le_of_ble_eq_true rfl) (ctX11_shares SPt_mono hI.1 rx hI.2.2.2.1) ?_
  rintro v h' ⟨hc, hG, hF, -⟩
  have he : ∃ e : Int, v = some (.int (I e)) := by
    rcases hc with ⟨-, e9, -⟩ | ⟨-, -, e9, -⟩ | ⟨-, -, e9, -⟩ <;> exact ⟨_, e9⟩
  exact ⟨he, (INV_F hI hG hF (by decide +kernel)).mono (by omega), hF⟩
theorem loX11_ordered {sh : List (Nat × Nat)} {b : Int} {h : aH} (hI : INV sh b h) (hb : b ≤ 320000) : CLd SPt 310 mX11_ordered [.ref 171] h 0 0 (OPQ sh (b + 600) [(0, 54, 0, 0), (0, 54, 1, 1), (0, 78, 0, 224), (0, 79, 0, 224), (1, 55, 0, 39)] h) := by
  refine OP_le (Nat.le_of_ble_eq_true rfl) (ctX11_ordered SPt_mono hI.1) ?_
  rintro v h' ⟨hc, hG, hF, -⟩
  have he : ∃ e : Int, v = some (.int (I e)) := by
    rcases hc with ⟨-, e9, -⟩ | ⟨-, e9, -⟩ <;> exact ⟨_, e9⟩
  exact ⟨he, (INV_F hI hG hF (by decide +kernel)).mono (by omega), hF⟩
theorem loX11_mutiny {sh : List (Nat × Nat)} {b : Int} {h : aH} (hI : INV sh b h) (hb : b ≤ 320000) {x y z : Int} (rx : r32 x) (ry : r32 y) (rz : r32 z) : CLd SPt 310 mX11_mutiny [.ref 171, .int (I x), .int (I y), .int (I z)] h 0 0 (OPQ sh (b + 600) [(0, 54, 0, 0), (0, 54, 1, 1), (1, 55, 0, 39)] h) := by
  refine OP_le (Nat.le_of_ble_eq_true rfl) (ctX11_mutiny SPt_mono hI.1 rx ry rz) ?_
  rintro v h' ⟨hc, hG, hF, -⟩
  have he : ∃ e : Int, v = some (.int (I e)) := by
    rcases hc with ⟨-, e9, -⟩ | ⟨-, e9, -⟩ <;> exact ⟨_, e9⟩
  exact ⟨he, (INV_F hI hG hF (by decide +kernel)).mono (by omega), hF⟩
theorem loX11_post {sh : List (Nat × Nat)} {b : Int} {h : aH} (hI : INV sh b h) (hb : b ≤ 320000) {x y : Int} (rx : r32 x) (ry : r32 y) : CLd SPt 310 mX11_post [.ref 171, .int (I x), .int (I y)] h 0 0 (OPQ sh (b + 600) sX11_post_0.2.2.2.2 h) := by
  refine OP_le (Nat.le_of_ble_eq_true rfl) (kX11_post_0 SPt_mono [.ref 171, .int (I x), .int (I y)] _ hI.2.1 ⟨gv_r (by decide) rfl, ⟨_, rfl, i32_lo _, i32_hi _, trivial⟩, ⟨_, rfl, i32_lo _, i32_hi _, trivial⟩, trivial⟩ hI.1 gov_n) ?_
  rintro v h' ⟨hG, hF, o, m, q, z, -⟩
  obtain ⟨e, re, rfl⟩ := int_ans m rfl q
  exact ⟨⟨e, rfl⟩, (INV_F hI hG hF (by decide +kernel)).mono (by omega), hF⟩
theorem loX11_rock {sh : List (Nat × Nat)} {b : Int} {h : aH} (hI : INV sh b h) (hb : b ≤ 320000) {x y : Int} (rx : r32 x) (ry : r32 y) : CLd SPt 310 mX11_rock [.ref 171, .int (I x), .int (I y)] h 0 0 (OPQ sh (b + 600) sX11_rock_0.2.2.2.2 h) := by
  refine OP_le (Nat.le_of_ble_eq_true rfl) (kX11_rock_0 SPt_mono [.ref 171, .int (I x), .int (I y)] _ hI.2.1 ⟨gv_r (by decide) rfl, ⟨_, rfl, i32_lo _, i32_hi _, trivial⟩, ⟨_, rfl, i32_lo _, i32_hi _, trivial⟩, trivial⟩ hI.1 gov_n) ?_
  rintro v h' ⟨hG, hF, o, m, q, z, -⟩
  obtain ⟨e, re, rfl⟩ := int_ans m rfl q
  exact ⟨⟨e, rfl⟩, (INV_F hI hG hF (by decide +kernel)).mono (by omega), hF⟩
theorem loX11_mess {sh : List (Nat × Nat)} {b : Int} {h : aH} (hI : INV sh b h) (hb : b ≤ 320000) {x y : Int} (rx : r32 x) (ry : r32 y) : CLd SPt 310 mX11_mess [.ref 171, .int (I x), .int (I y)] h 0 0 (OPQ sh (b + 600) sX11_mess_0.2.2.2.2 h) := by
  refine OP_le (Nat.le_of_ble_eq_true rfl) (kX11_mess_0 SPt_mono [.ref 171, .int (I x), .int (I y)] _ hI.2.1 ⟨gv_r (by decide) rfl, ⟨_, rfl, i32_lo _, i32_hi _, trivial⟩, ⟨_, rfl, i32_lo _, i32_hi _, trivial⟩, trivial⟩ hI.1 gov_n) ?_
  rintro v h' ⟨hG, hF, o, m, q, z, -⟩
  obtain ⟨e, re, rfl⟩ := int_ans m rfl q
  exact ⟨⟨e, rfl⟩, (INV_F hI hG hF (by decide +kernel)).mono (by omega), hF⟩
theorem loX11_way {sh : List (Nat × Nat)} {b : Int} {h : aH} (hI : INV sh b h) (hb : b ≤ 320000) {x y : Int} (rx : r32 x) (ry : r32 y) : CLd SPt 310 mX11_way [.ref 171, .int (I x), .int (I y)] h 0 0 (OPQ sh (b + 600) sX11_way_0.2.2.2.2 h) := by
  refine OP_le (Nat.le_of_ble_eq_true rfl) (kX11_way_0 SPt_mono [.ref 171, .int (I x), .int (I y)] _ hI.2.1 ⟨gv_r (by decide) rfl, ⟨_, rfl, i32_lo _, i32_hi _, trivial⟩, ⟨_, rfl, i32_lo _, i32_hi _, trivial⟩, trivial⟩ hI.1 gov_n) ?_
  rintro v h' ⟨hG, hF, o, m, q, z, -⟩
  obtain ⟨e, re, rfl⟩ := int_ans m rfl q
  exact ⟨⟨e, rfl⟩, (INV_F hI hG hF (by decide +kernel)).mono (by omega), hF⟩
theorem lng_ans {h : aH} {rv : Option Value} {o : List AV × OV × List (Nat × Int × Int)} {l : OT} (hm : o ∈ l) (hl : (l.all fun o => match o.1 with
  | [(1, 0, _, _)] => true
  | _ => false) = true) (g : gst gRL (fun _ => none) [] h o.1 rv.toList) : ∃ n : Int64, rv = some (.long n) := by
  have z := List.all_eq_true.mp hl o hm
  split at z
  · rename_i lo hi he
    rw [he] at g
    cases rv with
    | none => exact absurd g (fun z => z)
    | some v =>
      obtain ⟨⟨w, rfl, -⟩, -⟩ := g
      exact ⟨w, rfl⟩
  · cases z
theorem loX11_row {sh : List (Nat × Nat)} {b : Int} {h : aH} (hI : INV sh b h) (hb : b ≤ 320000) {x : Int} (rx : r32 x) : CLd SPt 310 mX11_row [.ref 171, .int (I x)] h 0 0 (fun rv h' => (∃ e : Int64, rv = some (.long e)) ∧ INV sh (b + 600) h' ∧ FRM gRL sX11_row_0.2.2.2.2 h h') := by
  refine OP_le (Nat.le_of_ble_eq_true rfl) (kX11_row_0 SPt_mono [.ref 171, .int (I x)] _ hI.2.1 ⟨gv_r (by decide) rfl, ⟨_, rfl, i32_lo _, i32_hi _, trivial⟩, trivial⟩ hI.1 gov_n) ?_
  rintro v h' ⟨hG, hF, o, m, q, z, -⟩
  exact ⟨lng_ans m rfl q, (INV_F hI hG hF (by decide +kernel)).mono (by omega), hF⟩
