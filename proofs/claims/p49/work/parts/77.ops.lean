/-! BETWEEN THE LAW'S CALLS -/
noncomputable def ivOk (M : MD) : Bool := awOk M && (xOk M && !(mHas M 0 54 29))
/-- what holds between calls -/
noncomputable def INV (sh : List (Nat × Nat)) (b : Int) (h : aH) : Prop := GD gE gRL sh h ∧ XI h ∧ (0 ≤ gi h 171 29 ∧ gi h 171 29 ≤ 15) ∧ AW b h
theorem INV.mono {sh : List (Nat × Nat)} {b c : Int} {h : aH} (hI : INV sh b h) (hb : b ≤ c) : INV sh c h := ⟨hI.1, hI.2.1, hI.2.2.1, hI.2.2.2.mono hb⟩
theorem INV_F {sh : List (Nat × Nat)} {b : Int} {h h' : aH} {M : MD} (hI : INV sh b h) (hG : GD gE gRL sh h') (hF : FRM gRL M h h') (hm : ivOk M = true) : INV sh b h' := by
  unfold ivOk at hm
  simp only [Bool.and_eq_true, Bool.not_eq_true'] at hm
  refine ⟨hG, xOk_ok hm.2.1 h h' hF hI.2.1, ?_, AW_F hF hm.1 hI.2.2.2⟩
  rw [FRM_gi hF (a := 171) (r := 54) rfl hm.2.2]
  exact hI.2.2.1
theorem INV_J {sh : List (Nat × Nat)} {b : Int} {h : aH} {a k : Nat} {v : Int64} (hI : INV sh b h) : INV sh b (sJ h a k v) := hI
noncomputable abbrev OPQ (sh : List (Nat × Nat)) (b : Int) (M : MD) (h : aH) : QT := fun rv h' => (∃ e : Int, rv = some (.int (I e))) ∧ INV sh b h' ∧ FRM gRL M h h'
theorem OP_le {d mid : Nat} {as : List Value} {h : aH} {Q Q' : QT} (hd : d ≤ 310) (hc : CLd SPt d mid as h 0 0 Q) (hq : ∀ rv h', Q rv h' → Q' rv h') : CLd SPt 310 mid as h 0 0 Q' := MONO_CLd SPt_mono 310 _ _ _ _ _ _ _ hq (CLd_le hd hc)
theorem loX10_delay {sh : List (Nat × Nat)} {b : Int} {h : aH} (hI : INV sh b h) (hb : b ≤ 320000) : CLd SPt 310 mX10_delay [.ref 0] h 0 0 (OPQ sh b sX10_delay_0.2.2.2.2 h) := by
  refine OP_le (Nat.le_of_ble_eq_true rfl) (kX10_delay_0 SPt_mono [.ref 0] _ hI.2.1 ⟨gv_r (by decide) rfl, trivial⟩ hI.1 gov_n) ?_
  rintro v h' ⟨hG, hF, o, m, q, z, -⟩
  obtain ⟨e, re, rfl⟩ := int_ans m rfl q
  exact ⟨⟨e, rfl⟩, (INV_F hI hG hF (by decide +kernel)).mono (by omega), hF⟩
theorem loX10_latest {sh : List (Nat × Nat)} {b : Int} {h : aH} (hI : INV sh b h) (hb : b ≤ 320000) {x : Int} (rx : r32 x) : CLd SPt 310 mX10_latest [.ref 0, .int (I x)] h 0 0 (OPQ sh b sX10_latest_0.2.2.2.2 h) := by
  refine OP_le (Nat.le_of_ble_eq_true rfl) (kX10_latest_0 SPt_mono [.ref 0, .int (I x)] _ hI.2.1 ⟨gv_r (by decide) rfl, ⟨_, rfl, i32_lo _, i32_hi _, trivial⟩, trivial⟩ hI.1 gov_n) ?_
  rintro v h' ⟨hG, hF, o, m, q, z, -⟩
  obtain ⟨e, re, rfl⟩ := int_ans m rfl q
  exact ⟨⟨e, rfl⟩, (INV_F hI hG hF (by decide +kernel)).mono (by omega), hF⟩
theorem loX10_fewest {sh : List (Nat × Nat)} {b : Int} {h : aH} (hI : INV sh b h) (hb : b ≤ 320000) {x : Int} (rx : r32 x) : CLd SPt 310 mX10_fewest [.ref 0, .int (I x)] h 0 0 (OPQ sh b sX10_fewest_0.2.2.2.2 h) := by
  refine OP_le (Nat.le_of_ble_eq_true rfl) (kX10_fewest_0 SPt_mono [.ref 0, .int (I x)] _ hI.2.1 ⟨gv_r (by decide) rfl, ⟨_, rfl, i32_lo _, i32_hi _, trivial⟩, trivial⟩ hI.1 gov_n) ?_
  rintro v h' ⟨hG, hF, o, m, q, z, -⟩
  obtain ⟨e, re, rfl⟩ := int_ans m rfl q
  exact ⟨⟨e, rfl⟩, (INV_F hI hG hF (by decide +kernel)).mono (by omega), hF⟩
theorem loX10_survives {sh : List (Nat × Nat)} {b : Int} {h : aH} (hI : INV sh b h) (hb : b ≤ 320000) {x y : Int} (rx : r32 x) (ry : r32 y) : CLd SPt 310 mX10_survives [.ref 0, .int (I x), .int (I y)] h 0 0 (OPQ sh b sX10_survives_0.2.2.2.2 h) := by
  refine OP_le (Nat.le_of_ble_eq_true rfl) (kX10_survives_0 SPt_mono [.ref 0, .int (I x), .int (I y)] _ hI.2.1 ⟨gv_r (by decide) rfl, ⟨_, rfl, i32_lo _, i32_hi _, trivial⟩, ⟨_, rfl, i32_lo _, i32_hi _, trivial⟩, trivial⟩ hI.1 gov_n) ?_
  rintro v h' ⟨hG, hF, o, m, q, z, -⟩
  obtain ⟨e, re, rfl⟩ := int_ans m rfl q
  exact ⟨⟨e, rfl⟩, (INV_F hI hG hF (by decide +kernel)).mono (by omega), hF⟩
theorem loX10_count {sh : List (Nat × Nat)} {b : Int} {h : aH} (hI : INV sh b h) (hb : b ≤ 320000) {x : Int} (rx : r32 x) : CLd SPt 310 mX10_count [.ref 0, .int (I x)] h 0 0 (OPQ sh b sX10_count_0.2.2.2.2 h) := by
  refine OP_le (Nat.le_of_ble_eq_true rfl) (kX10_count_0 SPt_mono [.ref 0, .int (I x)] _ hI.2.1 ⟨gv_r (by decide) rfl, ⟨_, rfl, i32_lo _, i32_hi _, trivial⟩, trivial⟩ hI.1 gov_n) ?_
  rintro v h' ⟨hG, hF, o, m, q, z, -⟩
  obtain ⟨e, re, rfl⟩ := int_ans m rfl q
  exact ⟨⟨e, rfl⟩, (INV_F hI hG hF (by decide +kernel)).mono (by omega), hF⟩
theorem loX11_delay {sh : List (Nat × Nat)} {b : Int} {h : aH} (hI : INV sh b h) (hb : b ≤ 320000) : CLd SPt 310 mX11_delay [.ref 171] h 0 0 (OPQ sh (b + 600) sX11_delay_0.2.2.2.2 h) := by
  refine OP_le (Nat.le_of_ble_eq_true rfl) (kX11_delay_0 SPt_mono [.ref 171] _ hI.2.1 ⟨gv_r (by decide) rfl, trivial⟩ hI.1 gov_n) ?_
  rintro v h' ⟨hG, hF, o, m, q, z, -⟩
  obtain ⟨e, re, rfl⟩ := int_ans m rfl q
  exact ⟨⟨e, rfl⟩, (INV_F hI hG hF (by decide +kernel)).mono (by omega), hF⟩
theorem loX11_latest {sh : List (Nat × Nat)} {b : Int} {h : aH} (hI : INV sh b h) (hb : b ≤ 320000) {x : Int} (rx : r32 x) : CLd SPt 310 mX11_latest [.ref 171, .int (I x)] h 0 0 (OPQ sh (b + 600) sX11_latest_0.2.2.2.2 h) := by
  refine OP_le (Nat.le_of_ble_eq_true rfl) (kX11_latest_0 SPt_mono [.ref 171, .int (I x)] _ hI.2.1 ⟨gv_r (by decide) rfl, ⟨_, rfl, i32_lo _, i32_hi _, trivial⟩, trivial⟩ hI.1 gov_n) ?_
  rintro v h' ⟨hG, hF, o, m, q, z, -⟩
  obtain ⟨e, re, rfl⟩ := int_ans m rfl q
  exact ⟨⟨e, rfl⟩, (INV_F hI hG hF (by decide +kernel)).mono (by omega), hF⟩
theorem loX11_fewest {sh : List (Nat × Nat)} {b : Int} {h : aH} (hI : INV sh b h) (hb : b ≤ 320000) {x : Int} (rx : r32 x) : CLd SPt 310 mX11_fewest [.ref 171, .int (I x)] h 0 0 (OPQ sh (b + 600) sX11_fewest_0.2.2.2.2 h) := by
  refine OP_le (Nat.le_of_ble_eq_true rfl) (kX11_fewest_0 SPt_mono [.ref 171, .int (I x)] _ hI.2.1 ⟨gv_r (by decide) rfl, ⟨_, rfl, i32_lo _, i32_hi _, trivial⟩, trivial⟩ hI.1 gov_n) ?_
  rintro v h' ⟨hG, hF, o, m, q, z, -⟩
  obtain ⟨e, re, rfl⟩ := int_ans m rfl q
  exact ⟨⟨e, rfl⟩, (INV_F hI hG hF (by decide +kernel)).mono (by omega), hF⟩
theorem loX11_survives {sh : List (Nat × Nat)} {b : Int} {h : aH} (hI : INV sh b h) (hb : b ≤ 320000) {x y : Int} (rx : r32 x) (ry : r32 y) : CLd SPt 310 mX11_survives [.ref 171, .int (I x), .int (I y)] h 0 0 (OPQ sh (b + 600) sX11_survives_0.2.2.2.2 h) := by
  refine OP_le (Nat.le_of_ble_eq_true rfl) (kX11_survives_0 SPt_mono [.ref 171, .int (I x), .int (I y)] _ hI.2.1 ⟨gv_r (by decide) rfl, ⟨_, rfl, i32_lo _, i32_hi _, trivial⟩, ⟨_, rfl, i32_lo _, i32_hi _, trivial⟩, trivial⟩ hI.1 gov_n) ?_
  rintro v h' ⟨hG, hF, o, m, q, z, -⟩
  obtain ⟨e, re, rfl⟩ := int_ans m rfl q
  exact ⟨⟨e, rfl⟩, (INV_F hI hG hF (by decide +kernel)).mono (by omega), hF⟩
theorem loX11_count {sh : List (Nat × Nat)} {b : Int} {h : aH} (hI : INV sh b h) (hb : b ≤ 320000) {x : Int} (rx : r32 x) : CLd SPt 310 mX11_count [.ref 171, .int (I x)] h 0 0 (OPQ sh (b + 600) sX11_count_0.2.2.2.2 h) := by
  refine OP_le (Nat.le_of_ble_eq_true rfl) (kX11_count_0 SPt_mono [.ref 171, .int (I x)] _ hI.2.1 ⟨gv_r (by decide) rfl, ⟨_, rfl, i32_lo _, i32_hi _, trivial⟩, trivial⟩ hI.1 gov_n) ?_
  rintro v h' ⟨hG, hF, o, m, q, z, -⟩
  obtain ⟨e, re, rfl⟩ := int_ans m rfl q
  exact ⟨⟨e, rfl⟩, (INV_F hI hG hF (by decide +kernel)).mono (by omega), hF⟩
theorem loX11_post {sh : List (Nat × Nat)} {b : Int} {h : aH} (hI : INV sh b h) (hb : b ≤ 320000) {x y : Int} (rx : r32 x) (ry : r32 y) : CLd SPt 310 mX11_post [.ref 171, .int (I x), .int (I y)] h 0 0 (OPQ sh (b + 600) sX11_post_0.2.2.2.2 h) := by
  refine OP_le (Nat.le_of_ble_eq_true rfl) (kX11_post_0 SPt_mono [.ref 171, .int (I x), .int (I y)] _ hI.2.1 ⟨gv_r (by decide) rfl, ⟨_, rfl, i32_lo _, i32_hi _, trivial⟩, ⟨_, rfl, i32_lo _, i32_hi _, trivial⟩, trivial⟩ hI.1 gov_n) ?_
  rintro v h' ⟨hG, hF, o, m, q, z, -⟩
  obtain ⟨e, re, rfl⟩ := int_ans m rfl q
  exact ⟨⟨e, rfl⟩, (INV_F hI hG hF (by decide +kernel)).mono (by omega), hF⟩
theorem loX11_rock {sh : List (Nat × Nat)} {b : Int} {h : aH} (hI : INV sh b h) (hb : b ≤ 320000) {x y : Int} (rx : r32 x) (ry : r32 y) : CLd SPt 310 mX11_rock [.ref 171, .int (I x), .int (I y)] h 0 0 (OPQ sh (b + 600) sX11_rock_0.2.2.2.2 h) := by
  refine OP_le (Nat.le_of_ble_eq_true rfl) (kX11_rock_0 SPt_mono [.ref 171, .int (I x), .int (I y)] _ hI.2.1 ⟨gv_r (by decide) rfl, ⟨_, rfl, i32_lo _, i32_hi _, trivial⟩, ⟨_, rfl, i32_lo _, i32_hi _, trivial⟩, trivial⟩ hI.1 gov_n) ?_
  rintro v h' ⟨hG, hF, o, m, q, z, -⟩
  obtain ⟨e, re, rfl⟩ := int_ans m rfl q
  exact ⟨⟨e, rfl⟩, (INV_F hI hG hF (by decide +kernel)).mono (by omega), hF⟩
theorem loX11_mess {sh : List (Nat × Nat)} {b : Int} {h : aH} (hI : INV sh b h) (hb : b ≤ 320000) {x y : Int} (rx : r32 x) (ry : r32 y) : CLd SPt 310 mX11_mess [.ref 171, .int (I x), .int (I y)] h 0 0 (OPQ sh (b + 600) sX11_mess_0.2.2.2.2 h) := by
  refine OP_le (Nat.le_of_ble_eq_true rfl) (kX11_mess_0 SPt_mono [.ref 171, .int (I x), .int (I y)] _ hI.2.1 ⟨gv_r (by decide) rfl, ⟨_, rfl, i32_lo _, i32_hi _, trivial⟩, ⟨_, rfl, i32_lo _, i32_hi _, trivial⟩, trivial⟩ hI.1 gov_n) ?_
  rintro v h' ⟨hG, hF, o, m, q, z, -⟩
  obtain ⟨e, re, rfl⟩ := int_ans m rfl q
  exact ⟨⟨e, rfl⟩, (INV_F hI hG hF (by decide +kernel)).mono (by omega), hF⟩
theorem loX11_way {sh : List (Nat × Nat)} {b : Int} {h : aH} (hI : INV sh b h) (hb : b ≤ 320000) {x y : Int} (rx : r32 x) (ry : r32 y) : CLd SPt 310 mX11_way [.ref 171, .int (I x), .int (I y)] h 0 0 (OPQ sh (b + 600) sX11_way_0.2.2.2.2 h) := by
  refine OP_le (Nat.le_of_ble_eq_true rfl) (kX11_way_0 SPt_mono [.ref 171, .int (I x), .int (I y)] _ hI.2.1 ⟨gv_r (by decide) rfl, ⟨_, rfl, i32_lo _, i32_hi _, trivial⟩, ⟨_, rfl, i32_lo _, i32_hi _, trivial⟩, trivial⟩ hI.1 gov_n) ?_
  rintro v h' ⟨hG, hF, o, m, q, z, -⟩
  obtain ⟨e, re, rfl⟩ := int_ans m rfl q
  exact ⟨⟨e, rfl⟩, (INV_F hI hG hF (by decide +kernel)).mono (by omega), hF⟩
