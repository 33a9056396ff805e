/-! PAIRS OF CALLS -/
/-- nothing more is held -/
def CR (_ : aH) : Prop := True
def crOk (_ : MD) : Bool := true
theorem CR_F {M : MD} {h h' : aH} (_ : FRM gRL M h h') (_ : crOk M = true) (_ : CR h) : CR h' := trivial
theorem CR_J {h : aH} {v : Int64} (_ : CR h) : CR (sJ h 201 0 v) := trivial
def crB (_ : cH) : Bool := true
theorem CR_0 {c : cH} {h : aH} (_ : REL c h) (_ : crB c = true) : CR h := trivial
abbrev PRQ (sh : List (Nat × Nat)) (b : Int) (m : Nat) (as : List Value) (cmp : Bool) : QT := fun rv h1 => ∃ e1 : Int, r32 e1 ∧ rv = some (.int (I e1)) ∧ GD gE gRL sh h1 ∧ CLd SPt 310 m as h1 0 0 (fun rv2 h2 => ∃ e2 : Int, r32 e2 ∧ rv2 = some (.int (I e2)) ∧ (cmp = true → e2 = e1) ∧ INV sh (b + 600) h2 ∧ CR h2)
theorem CLd_mono {d mid : Nat} {as : List Value} {h : aH} {Q Q' : QT} (hc : CLd SPt d mid as h 0 0 Q) (hq : ∀ rv h', Q rv h' → Q' rv h') : CLd SPt d mid as h 0 0 Q' := MONO_CLd SPt_mono d _ _ _ _ _ _ _ hq hc
theorem pr_sign {sh : List (Nat × Nat)} {b : Int} {h : aH} (hI : INV sh b h) (hC : CR h) (hb : b ≤ 320000) {x : Int} (rx : r32 x) : CLd SPt 310 mX10_sign [.ref 0, .int (I x)] h 0 0 (PRQ sh b mX11_sign [.ref 171, .int (I x)] false) := by
  refine CLd_mono (loX10_sign hI hb rx) ?_
  rintro v h1 ⟨⟨e1, rfl⟩, hI1, hF1⟩
  refine ⟨w32 e1, w32_r _, by rw [I_w], hI1.1, CLd_mono (loX11_sign hI1 hb rx) ?_⟩
  rintro v h2 ⟨⟨e2, rfl⟩, hI2, hF2⟩
  exact ⟨w32 e2, w32_r _, by rw [I_w], nofun, hI2, CR_F hF2 (by decide +kernel) (CR_F hF1 (by decide +kernel) hC)⟩
theorem pr_end {sh : List (Nat × Nat)} {b : Int} {h : aH} (hI : INV sh b h) (hC : CR h) (hb : b ≤ 320000) {x : Int} (rx : r32 x) : CLd SPt 310 mX10_end [.ref 0, .int (I x)] h 0 0 (PRQ sh b mX11_end [.ref 171, .int (I x)] false) := by
  refine CLd_mono (loX10_end hI hb rx) ?_
  rintro v h1 ⟨⟨e1, rfl⟩, hI1, hF1⟩
  refine ⟨w32 e1, w32_r _, by rw [I_w], hI1.1, CLd_mono (loX11_end hI1 hb rx) ?_⟩
  rintro v h2 ⟨⟨e2, rfl⟩, hI2, hF2⟩
  exact ⟨w32 e2, w32_r _, by rw [I_w], nofun, hI2, CR_F hF2 (by decide +kernel) (CR_F hF1 (by decide +kernel) hC)⟩
theorem pr_ship {sh : List (Nat × Nat)} {b : Int} {h : aH} (hI : INV sh b h) (hC : CR h) (hb : b ≤ 320000) : CLd SPt 310 mX10_ship [.ref 0] h 0 0 (PRQ sh b mX11_ship [.ref 171] false) := by
  refine CLd_mono (loX10_ship hI hb ) ?_
  rintro v h1 ⟨⟨e1, rfl⟩, hI1, hF1⟩
  refine ⟨w32 e1, w32_r _, by rw [I_w], hI1.1, CLd_mono (loX11_ship hI1 hb ) ?_⟩
  rintro v h2 ⟨⟨e2, rfl⟩, hI2, hF2⟩
  exact ⟨w32 e2, w32_r _, by rw [I_w], nofun, hI2, CR_F hF2 (by decide +kernel) (CR_F hF1 (by decide +kernel) hC)⟩
theorem pr_rocks {sh : List (Nat × Nat)} {b : Int} {h : aH} (hI : INV sh b h) (hC : CR h) (hb : b ≤ 320000) : CLd SPt 310 mX10_rocks [.ref 0] h 0 0 (PRQ sh b mX11_rocks [.ref 171] false) := by
  refine CLd_mono (loX10_rocks hI hb ) ?_
  rintro v h1 ⟨⟨e1, rfl⟩, hI1, hF1⟩
  refine ⟨w32 e1, w32_r _, by rw [I_w], hI1.1, CLd_mono (loX11_rocks hI1 hb ) ?_⟩
  rintro v h2 ⟨⟨e2, rfl⟩, hI2, hF2⟩
  exact ⟨w32 e2, w32_r _, by rw [I_w], nofun, hI2, CR_F hF2 (by decide +kernel) (CR_F hF1 (by decide +kernel) hC)⟩
theorem pr_messes {sh : List (Nat × Nat)} {b : Int} {h : aH} (hI : INV sh b h) (hC : CR h) (hb : b ≤ 320000) : CLd SPt 310 mX10_messes [.ref 0] h 0 0 (PRQ sh b mX11_messes [.ref 171] false) := by
  refine CLd_mono (loX10_messes hI hb ) ?_
  rintro v h1 ⟨⟨e1, rfl⟩, hI1, hF1⟩
  refine ⟨w32 e1, w32_r _, by rw [I_w], hI1.1, CLd_mono (loX11_messes hI1 hb ) ?_⟩
  rintro v h2 ⟨⟨e2, rfl⟩, hI2, hF2⟩
  exact ⟨w32 e2, w32_r _, by rw [I_w], nofun, hI2, CR_F hF2 (by decide +kernel) (CR_F hF1 (by decide +kernel) hC)⟩
theorem pr_rule {sh : List (Nat × Nat)} {b : Int} {h : aH} (hI : INV sh b h) (hC : CR h) (hb : b ≤ 320000) : CLd SPt 310 mX10_rule [.ref 0] h 0 0 (PRQ sh b mX11_rule [.ref 171] false) := by
  refine CLd_mono (loX10_rule hI hb ) ?_
  rintro v h1 ⟨⟨e1, rfl⟩, hI1, hF1⟩
  refine ⟨w32 e1, w32_r _, by rw [I_w], hI1.1, CLd_mono (loX11_rule hI1 hb ) ?_⟩
  rintro v h2 ⟨⟨e2, rfl⟩, hI2, hF2⟩
  exact ⟨w32 e2, w32_r _, by rw [I_w], nofun, hI2, CR_F hF2 (by decide +kernel) (CR_F hF1 (by decide +kernel) hC)⟩
theorem pr_sheet {sh : List (Nat × Nat)} {b : Int} {h : aH} (hI : INV sh b h) (hC : CR h) (hb : b ≤ 320000) {x y z u : Int} (rx : r32 x) (ry : r32 y) (rz : r32 z) (ru : r32 u) : CLd SPt 310 mX10_sheet [.ref 0, .int (I x), .int (I y), .int (I z), .int (I u)] h 0 0 (PRQ sh b mX11_sheet [.ref 171, .int (I x), .int (I y), .int (I z), .int (I u)] false) := by
  refine CLd_mono (loX10_sheet hI hb rx ry rz ru) ?_
  rintro v h1 ⟨⟨e1, rfl⟩, hI1, hF1⟩
  refine ⟨w32 e1, w32_r _, by rw [I_w], hI1.1, CLd_mono (loX11_sheet hI1 hb rx ry rz ru) ?_⟩
  rintro v h2 ⟨⟨e2, rfl⟩, hI2, hF2⟩
  exact ⟨w32 e2, w32_r _, by rw [I_w], nofun, hI2, CR_F hF2 (by decide +kernel) (CR_F hF1 (by decide +kernel) hC)⟩
theorem pr_delay {sh : List (Nat × Nat)} {b : Int} {h : aH} (hI : INV sh b h) (hC : CR h) (hb : b ≤ 320000) : CLd SPt 310 mX10_delay [.ref 0] h 0 0 (PRQ sh b mX11_delay [.ref 171] false) := by
  refine CLd_mono (loX10_delay hI hb ) ?_
  rintro v h1 ⟨⟨e1, rfl⟩, hI1, hF1⟩
  refine ⟨w32 e1, w32_r _, by rw [I_w], hI1.1, CLd_mono (loX11_delay hI1 hb ) ?_⟩
  rintro v h2 ⟨⟨e2, rfl⟩, hI2, hF2⟩
  exact ⟨w32 e2, w32_r _, by rw [I_w], nofun, hI2, CR_F hF2 (by decide +kernel) (CR_F hF1 (by decide +kernel) hC)⟩
theorem pr_order {sh : List (Nat × Nat)} {b : Int} {h : aH} (hI : INV sh b h) (hC : CR h) (hb : b ≤ 320000) {x : Int} (rx : r32 x) : CLd SPt 310 mX10_order [.ref 0, .int (I x)] h 0 0 (PRQ sh b mX11_order [.ref 171, .int (I x)] false) := by
  refine CLd_mono (loX10_order hI hb rx) ?_
  rintro v h1 ⟨⟨e1, rfl⟩, hI1, hF1⟩
  refine ⟨w32 e1, w32_r _, by rw [I_w], hI1.1, CLd_mono (loX11_order hI1 hb rx) ?_⟩
  rintro v h2 ⟨⟨e2, rfl⟩, hI2, hF2⟩
  exact ⟨w32 e2, w32_r _, by rw [I_w], nofun, hI2, CR_F hF2 (by decide +kernel) (CR_F hF1 (by decide +kernel) hC)⟩
theorem pr_pass {sh : List (Nat × Nat)} {b : Int} {h : aH} (hI : INV sh b h) (hC : CR h) (hb : b ≤ 320000) {x y z : Int} (rx : r32 x) (ry : r32 y) (rz : r32 z) : CLd SPt 310 mX10_pass [.ref 0, .int (I x), .int (I y), .int (I z)] h 0 0 (PRQ sh b mX11_pass [.ref 171, .int (I x), .int (I y), .int (I z)] false) := by
  refine CLd_mono (loX10_pass hI hb rx ry rz) ?_
  rintro v h1 ⟨⟨e1, rfl⟩, hI1, hF1⟩
  refine ⟨w32 e1, w32_r _, by rw [I_w], hI1.1, CLd_mono (loX11_pass hI1 hb rx ry rz) ?_⟩
  rintro v h2 ⟨⟨e2, rfl⟩, hI2, hF2⟩
  exact ⟨w32 e2, w32_r _, by rw [I_w], nofun, hI2, CR_F hF2 (by decide +kernel) (CR_F hF1 (by decide +kernel) hC)⟩
theorem pr_cook {sh : List (Nat × Nat)} {b : Int} {h : aH} (hI : INV sh b h) (hC : CR h) (hb : b ≤ 320000) {x y : Int} (rx : r32 x) (ry : r32 y) : CLd SPt 310 mX10_cook [.ref 0, .int (I x), .int (I y)] h 0 0 (PRQ sh b mX11_cook [.ref 171, .int (I x), .int (I y)] false) := by
  refine CLd_mono (loX10_cook hI hb rx ry) ?_
  rintro v h1 ⟨⟨e1, rfl⟩, hI1, hF1⟩
  refine ⟨w32 e1, w32_r _, by rw [I_w], hI1.1, CLd_mono (loX11_cook hI1 hb rx ry) ?_⟩
  rintro v h2 ⟨⟨e2, rfl⟩, hI2, hF2⟩
  exact ⟨w32 e2, w32_r _, by rw [I_w], nofun, hI2, CR_F hF2 (by decide +kernel) (CR_F hF1 (by decide +kernel) hC)⟩
theorem pr_steps {sh : List (Nat × Nat)} {b : Int} {h : aH} (hI : INV sh b h) (hC : CR h) (hb : b ≤ 320000) {x : Int} (rx : r32 x) : CLd SPt 310 mX10_steps [.ref 0, .int (I x)] h 0 0 (PRQ sh b mX11_steps [.ref 171, .int (I x)] false) := by
  refine CLd_mono (loX10_steps hI hb rx) ?_
  rintro v h1 ⟨⟨e1, rfl⟩, hI1, hF1⟩
  refine ⟨w32 e1, w32_r _, by rw [I_w], hI1.1, CLd_mono (loX11_steps hI1 hb rx) ?_⟩
  rintro v h2 ⟨⟨e2, rfl⟩, hI2, hF2⟩
  exact ⟨w32 e2, w32_r _, by rw [I_w], nofun, hI2, CR_F hF2 (by decide +kernel) (CR_F hF1 (by decide +kernel) hC)⟩
theorem pr_voyage {sh : List (Nat × Nat)} {b : Int} {h : aH} (hI : INV sh b h) (hC : CR h) (hb : b ≤ 320000) : CLd SPt 310 mX10_voyage [.ref 0] h 0 0 (PRQ sh b mX11_voyage [.ref 171] false) := by
  refine CLd_mono (loX10_voyage hI hb ) ?_
  rintro v h1 ⟨⟨e1, rfl⟩, hI1, hF1⟩
  refine ⟨w32 e1, w32_r _, by rw [I_w], hI1.1, CLd_mono (loX11_voyage hI1 hb ) ?_⟩
  rintro v h2 ⟨⟨e2, rfl⟩, hI2, hF2⟩
  exact ⟨w32 e2, w32_r _, by rw [I_w], nofun, hI2, CR_F hF2 (by decide +kernel) (CR_F hF1 (by decide +kernel) hC)⟩
theorem pr_undo {sh : List (Nat × Nat)} {b : Int} {h : aH} (hI : INV sh b h) (hC : CR h) (hb : b ≤ 320000) : CLd SPt 310 mX10_undo [.ref 0] h 0 0 (PRQ sh b mX11_undo [.ref 171] false) := by
  refine CLd_mono (loX10_undo hI hb ) ?_
  rintro v h1 ⟨⟨e1, rfl⟩, hI1, hF1⟩
  refine ⟨w32 e1, w32_r _, by rw [I_w], hI1.1, CLd_mono (loX11_undo hI1 hb ) ?_⟩
  rintro v h2 ⟨⟨e2, rfl⟩, hI2, hF2⟩
  exact ⟨w32 e2, w32_r _, by rw [I_w], nofun, hI2, CR_F hF2 (by decide +kernel) (CR_F hF1 (by decide +kernel) hC)⟩
theorem pr_lane {sh : List (Nat × Nat)} {b : Int} {h : aH} (hI : INV sh b h) (hC : CR h) (hb : b ≤ 320000) {x : Int} (rx : r32 x) : CLd SPt 310 mX10_lane [.ref 0, .int (I x)] h 0 0 (PRQ sh b mX11_lane [.ref 171, .int (I x)] false) := by
  refine CLd_mono (loX10_lane hI hb rx) ?_
  rintro v h1 ⟨⟨e1, rfl⟩, hI1, hF1⟩
  refine ⟨w32 e1, w32_r _, by rw [I_w], hI1.1, CLd_mono (loX11_lane hI1 hb rx) ?_⟩
  rintro v h2 ⟨⟨e2, rfl⟩, hI2, hF2⟩
  exact ⟨w32 e2, w32_r _, by rw [I_w], nofun, hI2, CR_F hF2 (by decide +kernel) (CR_F hF1 (by decide +kernel) hC)⟩
theorem pr_strikes {sh : List (Nat × Nat)} {b : Int} {h : aH} (hI : INV sh b h) (hC : CR h) (hb : b ≤ 320000) : CLd SPt 310 mX10_strikes [.ref 0] h 0 0 (PRQ sh b mX11_strikes [.ref 171] false) := by
  refine CLd_mono (loX10_strikes hI hb ) ?_
  rintro v h1 ⟨⟨e1, rfl⟩, hI1, hF1⟩
  refine ⟨w32 e1, w32_r _, by rw [I_w], hI1.1, CLd_mono (loX11_strikes hI1 hb ) ?_⟩
  rintro v h2 ⟨⟨e2, rfl⟩, hI2, hF2⟩
  exact ⟨w32 e2, w32_r _, by rw [I_w], nofun, hI2, CR_F hF2 (by decide +kernel) (CR_F hF1 (by decide +kernel) hC)⟩
theorem pr_clears {sh : List (Nat × Nat)} {b : Int} {h : aH} (hI : INV sh b h) (hC : CR h) (hb : b ≤ 320000) : CLd SPt 310 mX10_clears [.ref 0] h 0 0 (PRQ sh b mX11_clears [.ref 171] false) := by
  refine CLd_mono (loX10_clears hI hb ) ?_
  rintro v h1 ⟨⟨e1, rfl⟩, hI1, hF1⟩
  refine ⟨w32 e1, w32_r _, by rw [I_w], hI1.1, CLd_mono (loX11_clears hI1 hb ) ?_⟩
  rintro v h2 ⟨⟨e2, rfl⟩, hI2, hF2⟩
  exact ⟨w32 e2, w32_r _, by rw [I_w], nofun, hI2, CR_F hF2 (by decide +kernel) (CR_F hF1 (by decide +kernel) hC)⟩
theorem pr_plan {sh : List (Nat × Nat)} {b : Int} {h : aH} (hI : INV sh b h) (hC : CR h) (hb : b ≤ 320000) {x : Int} (rx : r32 x) : CLd SPt 310 mX10_plan [.ref 0, .int (I x)] h 0 0 (PRQ sh b mX11_plan [.ref 171, .int (I x)] false) := by
  refine CLd_mono (loX10_plan hI hb rx) ?_
  rintro v h1 ⟨⟨e1, rfl⟩, hI1, hF1⟩
  refine ⟨w32 e1, w32_r _, by rw [I_w], hI1.1, CLd_mono (loX11_plan hI1 hb rx) ?_⟩
  rintro v h2 ⟨⟨e2, rfl⟩, hI2, hF2⟩
  exact ⟨w32 e2, w32_r _, by rw [I_w], nofun, hI2, CR_F hF2 (by decide +kernel) (CR_F hF1 (by decide +kernel) hC)⟩
theorem pr_latest {sh : List (Nat × Nat)} {b : Int} {h : aH} (hI : INV sh b h) (hC : CR h) (hb : b ≤ 320000) {x : Int} (rx : r32 x) : CLd SPt 310 mX10_latest [.ref 0, .int (I x)] h 0 0 (PRQ sh b mX11_latest [.ref 171, .int (I x)] false) := by
  refine CLd_mono (loX10_latest hI hb rx) ?_
  rintro v h1 ⟨⟨e1, rfl⟩, hI1, hF1⟩
  refine ⟨w32 e1, w32_r _, by rw [I_w], hI1.1, CLd_mono (loX11_latest hI1 hb rx) ?_⟩
  rintro v h2 ⟨⟨e2, rfl⟩, hI2, hF2⟩
  exact ⟨w32 e2, w32_r _, by rw [I_w], nofun, hI2, CR_F hF2 (by decide +kernel) (CR_F hF1 (by decide +kernel) hC)⟩
theorem pr_lanes {sh : List (Nat × Nat)} {b : Int} {h : aH} (hI : INV sh b h) (hC : CR h) (hb : b ≤ 320000) {x : Int} (rx : r32 x) : CLd SPt 310 mX10_lanes [.ref 0, .int (I x)] h 0 0 (PRQ sh b mX11_lanes [.ref 171, .int (I x)] false) := by
  refine CLd_mono (loX10_lanes hI hb rx) ?_
  rintro v h1 ⟨⟨e1, rfl⟩, hI1, hF1⟩
  refine ⟨w32 e1, w32_r _, by rw [I_w], hI1.1, CLd_mono (loX11_lanes hI1 hb rx) ?_⟩
  rintro v h2 ⟨⟨e2, rfl⟩, hI2, hF2⟩
  exact ⟨w32 e2, w32_r _, by rw [I_w], nofun, hI2, CR_F hF2 (by decide +kernel) (CR_F hF1 (by decide +kernel) hC)⟩
theorem pr_safest {sh : List (Nat × Nat)} {b : Int} {h : aH} (hI : INV sh b h) (hC : CR h) (hb : b ≤ 320000) {x : Int} (rx : r32 x) : CLd SPt 310 mX10_safest [.ref 0, .int (I x)] h 0 0 (PRQ sh b mX11_safest [.ref 171, .int (I x)] false) := by
  refine CLd_mono (loX10_safest hI hb rx) ?_
  rintro v h1 ⟨⟨e1, rfl⟩, hI1, hF1⟩
  refine ⟨w32 e1, w32_r _, by rw [I_w], hI1.1, CLd_mono (loX11_safest hI1 hb rx) ?_⟩
  rintro v h2 ⟨⟨e2, rfl⟩, hI2, hF2⟩
  exact ⟨w32 e2, w32_r _, by rw [I_w], nofun, hI2, CR_F hF2 (by decide +kernel) (CR_F hF1 (by decide +kernel) hC)⟩
theorem pr_late {sh : List (Nat × Nat)} {b : Int} {h : aH} (hI : INV sh b h) (hC : CR h) (hb : b ≤ 320000) {x : Int} (rx : r32 x) : CLd SPt 310 mX10_late [.ref 0, .int (I x)] h 0 0 (PRQ sh b mX11_late [.ref 171, .int (I x)] false) := by
  refine CLd_mono (loX10_late hI hb rx) ?_
  rintro v h1 ⟨⟨e1, rfl⟩, hI1, hF1⟩
  refine ⟨w32 e1, w32_r _, by rw [I_w], hI1.1, CLd_mono (loX11_late hI1 hb rx) ?_⟩
  rintro v h2 ⟨⟨e2, rfl⟩, hI2, hF2⟩
  exact ⟨w32 e2, w32_r _, by rw [I_w], nofun, hI2, CR_F hF2 (by decide +kernel) (CR_F hF1 (by decide +kernel) hC)⟩
theorem pr_comes {sh : List (Nat × Nat)} {b : Int} {h : aH} (hI : INV sh b h) (hC : CR h) (hb : b ≤ 320000) {x : Int} (rx : r32 x) : CLd SPt 310 mX10_comes [.ref 0, .int (I x)] h 0 0 (PRQ sh b mX11_comes [.ref 171, .int (I x)] false) := by
  refine CLd_mono (loX10_comes hI hb rx) ?_
  rintro v h1 ⟨⟨e1, rfl⟩, hI1, hF1⟩
  refine ⟨w32 e1, w32_r _, by rw [I_w], hI1.1, CLd_mono (loX11_comes hI1 hb rx) ?_⟩
  rintro v h2 ⟨⟨e2, rfl⟩, hI2, hF2⟩
  exact ⟨w32 e2, w32_r _, by rw [I_w], nofun, hI2, CR_F hF2 (by decide +kernel) (CR_F hF1 (by decide +kernel) hC)⟩
theorem pr_relay {sh : List (Nat × Nat)} {b : Int} {h : aH} (hI : INV sh b h) (hC : CR h) (hb : b ≤ 320000) {x : Int} (rx : r32 x) : CLd SPt 310 mX10_relay [.ref 0, .int (I x)] h 0 0 (PRQ sh b mX11_relay [.ref 171, .int (I x)] false) := by
  refine CLd_mono (loX10_relay hI hb rx) ?_
  rintro v h1 ⟨⟨e1, rfl⟩, hI1, hF1⟩
  refine ⟨w32 e1, w32_r _, by rw [I_w], hI1.1, CLd_mono (loX11_relay hI1 hb rx) ?_⟩
  rintro v h2 ⟨⟨e2, rfl⟩, hI2, hF2⟩
  exact ⟨w32 e2, w32_r _, by rw [I_w], nofun, hI2, CR_F hF2 (by decide +kernel) (CR_F hF1 (by decide +kernel) hC)⟩
theorem pr_fewest {sh : List (Nat × Nat)} {b : Int} {h : aH} (hI : INV sh b h) (hC : CR h) (hb : b ≤ 320000) {x : Int} (rx : r32 x) : CLd SPt 310 mX10_fewest [.ref 0, .int (I x)] h 0 0 (PRQ sh b mX11_fewest [.ref 171, .int (I x)] false) := by
  refine CLd_mono (loX10_fewest hI hb rx) ?_
  rintro v h1 ⟨⟨e1, rfl⟩, hI1, hF1⟩
  refine ⟨w32 e1, w32_r _, by rw [I_w], hI1.1, CLd_mono (loX11_fewest hI1 hb rx) ?_⟩
  rintro v h2 ⟨⟨e2, rfl⟩, hI2, hF2⟩
  exact ⟨w32 e2, w32_r _, by rw [I_w], nofun, hI2, CR_F hF2 (by decide +kernel) (CR_F hF1 (by decide +kernel) hC)⟩
theorem pr_word {sh : List (Nat × Nat)} {b : Int} {h : aH} (hI : INV sh b h) (hC : CR h) (hb : b ≤ 320000) {x y : Int} (rx : r32 x) (ry : r32 y) : CLd SPt 310 mX10_word [.ref 0, .int (I x), .int (I y)] h 0 0 (PRQ sh b mX11_word [.ref 171, .int (I x), .int (I y)] false) := by
  refine CLd_mono (loX10_word hI hb rx ry) ?_
  rintro v h1 ⟨⟨e1, rfl⟩, hI1, hF1⟩
  refine ⟨w32 e1, w32_r _, by rw [I_w], hI1.1, CLd_mono (loX11_word hI1 hb rx ry) ?_⟩
  rintro v h2 ⟨⟨e2, rfl⟩, hI2, hF2⟩
  exact ⟨w32 e2, w32_r _, by rw [I_w], nofun, hI2, CR_F hF2 (by decide +kernel) (CR_F hF1 (by decide +kernel) hC)⟩
theorem pr_survives {sh : List (Nat × Nat)} {b : Int} {h : aH} (hI : INV sh b h) (hC : CR h) (hb : b ≤ 320000) {x y : Int} (rx : r32 x) (ry : r32 y) : CLd SPt 310 mX10_survives [.ref 0, .int (I x), .int (I y)] h 0 0 (PRQ sh b mX11_survives [.ref 171, .int (I x), .int (I y)] false) := by
  refine CLd_mono (loX10_survives hI hb rx ry) ?_
  rintro v h1 ⟨⟨e1, rfl⟩, hI1, hF1⟩
  refine ⟨w32 e1, w32_r _, by rw [I_w], hI1.1, CLd_mono (loX11_survives hI1 hb rx ry) ?_⟩
  rintro v h2 ⟨⟨e2, rfl⟩, hI2, hF2⟩
  exact ⟨w32 e2, w32_r _, by rw [I_w], nofun, hI2, CR_F hF2 (by decide +kernel) (CR_F hF1 (by decide +kernel) hC)⟩
theorem pr_lives {sh : List (Nat × Nat)} {b : Int} {h : aH} (hI : INV sh b h) (hC : CR h) (hb : b ≤ 320000) {x : Int} (rx : r32 x) : CLd SPt 310 mX10_lives [.ref 0, .int (I x)] h 0 0 (PRQ sh b mX11_lives [.ref 171, .int (I x)] false) := by
  refine CLd_mono (loX10_lives hI hb rx) ?_
  rintro v h1 ⟨⟨e1, rfl⟩, hI1, hF1⟩
  refine ⟨w32 e1, w32_r _, by rw [I_w], hI1.1, CLd_mono (loX11_lives hI1 hb rx) ?_⟩
  rintro v h2 ⟨⟨e2, rfl⟩, hI2, hF2⟩
  exact ⟨w32 e2, w32_r _, by rw [I_w], nofun, hI2, CR_F hF2 (by decide +kernel) (CR_F hF1 (by decide +kernel) hC)⟩
theorem pr_shares {sh : List (Nat × Nat)} {b : Int} {h : aH} (hI : INV sh b h) (hC : CR h) (hb : b ≤ 320000) {x : Int} (rx : r32 x) : CLd SPt 310 mX10_shares [.ref 0, .int (I x)] h 0 0 (PRQ sh b mX11_shares [.ref 171, .int (I x)] false) := by
  refine CLd_mono (loX10_shares hI hb rx) ?_
  rintro v h1 ⟨⟨e1, rfl⟩, hI1, hF1⟩
  refine ⟨w32 e1, w32_r _, by rw [I_w], hI1.1, CLd_mono (loX11_shares hI1 hb rx) ?_⟩
  rintro v h2 ⟨⟨e2, rfl⟩, hI2, hF2⟩
  exact ⟨w32 e2, w32_r _, by rw [I_w], nofun, hI2, CR_F hF2 (by decide +kernel) (CR_F hF1 (by decide +kernel) hC)⟩
theorem pr_fast {sh : List (Nat × Nat)} {b : Int} {h : aH} (hI : INV sh b h) (hC : CR h) (hb : b ≤ 320000) {x : Int} (rx : r32 x) : CLd SPt 310 mX10_fast [.ref 0, .int (I x)] h 0 0 (PRQ sh b mX11_fast [.ref 171, .int (I x)] false) := by
  refine CLd_mono (loX10_fast hI hb rx) ?_
  rintro v h1 ⟨⟨e1, rfl⟩, hI1, hF1⟩
  refine ⟨w32 e1, w32_r _, by rw [I_w], hI1.1, CLd_mono (loX11_fast hI1 hb rx) ?_⟩
  rintro v h2 ⟨⟨e2, rfl⟩, hI2, hF2⟩
  exact ⟨w32 e2, w32_r _, by rw [I_w], nofun, hI2, CR_F hF2 (by decide +kernel) (CR_F hF1 (by decide +kernel) hC)⟩
theorem pr_seen {sh : List (Nat × Nat)} {b : Int} {h : aH} (hI : INV sh b h) (hC : CR h) (hb : b ≤ 320000) {x y : Int} (rx : r32 x) (ry : r32 y) : CLd SPt 310 mX10_seen [.ref 0, .int (I x), .int (I y)] h 0 0 (PRQ sh b mX11_seen [.ref 171, .int (I x), .int (I y)] false) := by
  refine CLd_mono (loX10_seen hI hb rx ry) ?_
  rintro v h1 ⟨⟨e1, rfl⟩, hI1, hF1⟩
  refine ⟨w32 e1, w32_r _, by rw [I_w], hI1.1, CLd_mono (loX11_seen hI1 hb rx ry) ?_⟩
  rintro v h2 ⟨⟨e2, rfl⟩, hI2, hF2⟩
  exact ⟨w32 e2, w32_r _, by rw [I_w], nofun, hI2, CR_F hF2 (by decide +kernel) (CR_F hF1 (by decide +kernel) hC)⟩
theorem pr_forget {sh : List (Nat × Nat)} {b : Int} {h : aH} (hI : INV sh b h) (hC : CR h) (hb : b ≤ 320000) : CLd SPt 310 mX10_forget [.ref 0] h 0 0 (PRQ sh b mX11_forget [.ref 171] false) := by
  refine CLd_mono (loX10_forget hI hb ) ?_
  rintro v h1 ⟨⟨e1, rfl⟩, hI1, hF1⟩
  refine ⟨w32 e1, w32_r _, by rw [I_w], hI1.1, CLd_mono (loX11_forget hI1 hb ) ?_⟩
  rintro v h2 ⟨⟨e2, rfl⟩, hI2, hF2⟩
  exact ⟨w32 e2, w32_r _, by rw [I_w], nofun, hI2, CR_F hF2 (by decide +kernel) (CR_F hF1 (by decide +kernel) hC)⟩
theorem pr_ordered {sh : List (Nat × Nat)} {b : Int} {h : aH} (hI : INV sh b h) (hC : CR h) (hb : b ≤ 320000) : CLd SPt 310 mX10_ordered [.ref 0] h 0 0 (PRQ sh b mX11_ordered [.ref 171] false) := by
  refine CLd_mono (loX10_ordered hI hb ) ?_
  rintro v h1 ⟨⟨e1, rfl⟩, hI1, hF1⟩
  refine ⟨w32 e1, w32_r _, by rw [I_w], hI1.1, CLd_mono (loX11_ordered hI1 hb ) ?_⟩
  rintro v h2 ⟨⟨e2, rfl⟩, hI2, hF2⟩
  exact ⟨w32 e2, w32_r _, by rw [I_w], nofun, hI2, CR_F hF2 (by decide +kernel) (CR_F hF1 (by decide +kernel) hC)⟩
theorem pr_unsure {sh : List (Nat × Nat)} {b : Int} {h : aH} (hI : INV sh b h) (hC : CR h) (hb : b ≤ 320000) : CLd SPt 310 mX10_unsure [.ref 0] h 0 0 (PRQ sh b mX11_unsure [.ref 171] false) := by
  refine CLd_mono (loX10_unsure hI hb ) ?_
  rintro v h1 ⟨⟨e1, rfl⟩, hI1, hF1⟩
  refine ⟨w32 e1, w32_r _, by rw [I_w], hI1.1, CLd_mono (loX11_unsure hI1 hb ) ?_⟩
  rintro v h2 ⟨⟨e2, rfl⟩, hI2, hF2⟩
  exact ⟨w32 e2, w32_r _, by rw [I_w], nofun, hI2, CR_F hF2 (by decide +kernel) (CR_F hF1 (by decide +kernel) hC)⟩
theorem pr_boy {sh : List (Nat × Nat)} {b : Int} {h : aH} (hI : INV sh b h) (hC : CR h) (hb : b ≤ 320000) {x y : Int} (rx : r32 x) (ry : r32 y) : CLd SPt 310 mX10_boy [.ref 0, .int (I x), .int (I y)] h 0 0 (PRQ sh b mX11_boy [.ref 171, .int (I x), .int (I y)] false) := by
  refine CLd_mono (loX10_boy hI hb rx ry) ?_
  rintro v h1 ⟨⟨e1, rfl⟩, hI1, hF1⟩
  refine ⟨w32 e1, w32_r _, by rw [I_w], hI1.1, CLd_mono (loX11_boy hI1 hb rx ry) ?_⟩
  rintro v h2 ⟨⟨e2, rfl⟩, hI2, hF2⟩
  exact ⟨w32 e2, w32_r _, by rw [I_w], nofun, hI2, CR_F hF2 (by decide +kernel) (CR_F hF1 (by decide +kernel) hC)⟩
theorem pr_meets {sh : List (Nat × Nat)} {b : Int} {h : aH} (hI : INV sh b h) (hC : CR h) (hb : b ≤ 320000) {x : Int} (rx : r32 x) : CLd SPt 310 mX10_meets [.ref 0, .int (I x)] h 0 0 (PRQ sh b mX11_meets [.ref 171, .int (I x)] false) := by
  refine CLd_mono (loX10_meets hI hb rx) ?_
  rintro v h1 ⟨⟨e1, rfl⟩, hI1, hF1⟩
  refine ⟨w32 e1, w32_r _, by rw [I_w], hI1.1, CLd_mono (loX11_meets hI1 hb rx) ?_⟩
  rintro v h2 ⟨⟨e2, rfl⟩, hI2, hF2⟩
  exact ⟨w32 e2, w32_r _, by rw [I_w], nofun, hI2, CR_F hF2 (by decide +kernel) (CR_F hF1 (by decide +kernel) hC)⟩
theorem pr_knows {sh : List (Nat × Nat)} {b : Int} {h : aH} (hI : INV sh b h) (hC : CR h) (hb : b ≤ 320000) {x y : Int} (rx : r32 x) (ry : r32 y) : CLd SPt 310 mX10_knows [.ref 0, .int (I x), .int (I y)] h 0 0 (PRQ sh b mX11_knows [.ref 171, .int (I x), .int (I y)] false) := by
  refine CLd_mono (loX10_knows hI hb rx ry) ?_
  rintro v h1 ⟨⟨e1, rfl⟩, hI1, hF1⟩
  refine ⟨w32 e1, w32_r _, by rw [I_w], hI1.1, CLd_mono (loX11_knows hI1 hb rx ry) ?_⟩
  rintro v h2 ⟨⟨e2, rfl⟩, hI2, hF2⟩
  exact ⟨w32 e2, w32_r _, by rw [I_w], nofun, hI2, CR_F hF2 (by decide +kernel) (CR_F hF1 (by decide +kernel) hC)⟩
theorem pr_mutiny {sh : List (Nat × Nat)} {b : Int} {h : aH} (hI : INV sh b h) (hC : CR h) (hb : b ≤ 320000) {x y z : Int} (rx : r32 x) (ry : r32 y) (rz : r32 z) : CLd SPt 310 mX10_mutiny [.ref 0, .int (I x), .int (I y), .int (I z)] h 0 0 (PRQ sh b mX11_mutiny [.ref 171, .int (I x), .int (I y), .int (I z)] false) := by
  refine CLd_mono (loX10_mutiny hI hb rx ry rz) ?_
  rintro v h1 ⟨⟨e1, rfl⟩, hI1, hF1⟩
  refine ⟨w32 e1, w32_r _, by rw [I_w], hI1.1, CLd_mono (loX11_mutiny hI1 hb rx ry rz) ?_⟩
  rintro v h2 ⟨⟨e2, rfl⟩, hI2, hF2⟩
  exact ⟨w32 e2, w32_r _, by rw [I_w], nofun, hI2, CR_F hF2 (by decide +kernel) (CR_F hF1 (by decide +kernel) hC)⟩
theorem pr_chance {sh : List (Nat × Nat)} {b : Int} {h : aH} (hI : INV sh b h) (hC : CR h) (hb : b ≤ 320000) {x y z : Int} (rx : r32 x) (ry : r32 y) (rz : r32 z) : CLd SPt 310 mX10_chance [.ref 0, .int (I x), .int (I y), .int (I z)] h 0 0 (PRQ sh b mX11_chance [.ref 171, .int (I x), .int (I y), .int (I z)] true) := by
  refine CLd_mono (loX10_chanceF hI hb rx ry rz) ?_
  rintro v h1 ⟨rfl, hI1, hF1⟩
  refine ⟨_, w32_r _, by rw [I_w], hI1.1, CLd_mono (loX11_chanceF hI1 hb rx ry rz) ?_⟩
  rintro v h2 ⟨rfl, hI2, hF2⟩
  exact ⟨_, w32_r _, by rw [I_w], fun _ => rfl, hI2, CR_F hF2 (by decide +kernel) (CR_F hF1 (by decide +kernel) hC)⟩
theorem pr_voyages {sh : List (Nat × Nat)} {b : Int} {h : aH} (hI : INV sh b h) (hC : CR h) (hb : b ≤ 320000) {x y : Int} (rx : r32 x) (ry : r32 y) : CLd SPt 310 mX10_voyages [.ref 0, .int (I x), .int (I y)] h 0 0 (PRQ sh b mX11_voyages [.ref 171, .int (I x), .int (I y)] false) := by
  refine CLd_mono (loX10_voyages hI hb rx ry) ?_
  rintro v h1 ⟨⟨e1, rfl⟩, hI1, hF1⟩
  refine ⟨w32 e1, w32_r _, by rw [I_w], hI1.1, CLd_mono (loX11_voyages hI1 hb rx ry) ?_⟩
  rintro v h2 ⟨⟨e2, rfl⟩, hI2, hF2⟩
  exact ⟨w32 e2, w32_r _, by rw [I_w], nofun, hI2, CR_F hF2 (by decide +kernel) (CR_F hF1 (by decide +kernel) hC)⟩
theorem pr_keep {sh : List (Nat × Nat)} {b : Int} {h : aH} (hI : INV sh b h) (hC : CR h) (hb : b ≤ 320000) {x : Int} (rx : r32 x) : CLd SPt 310 mX10_keep [.ref 0, .int (I x)] h 0 0 (PRQ sh b mX11_keep [.ref 171, .int (I x)] false) := by
  refine CLd_mono (loX10_keep hI hb rx) ?_
  rintro v h1 ⟨⟨e1, rfl⟩, hI1, hF1⟩
  refine ⟨w32 e1, w32_r _, by rw [I_w], hI1.1, CLd_mono (loX11_keep hI1 hb rx) ?_⟩
  rintro v h2 ⟨rfl, hI2, hF2⟩
  exact ⟨w32 _, w32_r _, by rw [I_w], nofun, hI2, CR_F hF2 (by decide +kernel) (CR_F hF1 (by decide +kernel) hC)⟩
theorem pr_again {sh : List (Nat × Nat)} {b : Int} {h : aH} (hI : INV sh b h) (hC : CR h) (hb : b ≤ 320000) {x : Int} (rx : r32 x) : CLd SPt 310 mX10_again [.ref 0, .int (I x)] h 0 0 (PRQ sh b mX11_again [.ref 171, .int (I x)] false) := by
  refine CLd_mono (loX10_again hI hb rx) ?_
  rintro v h1 ⟨⟨e1, rfl⟩, hI1, hF1⟩
  refine ⟨w32 e1, w32_r _, by rw [I_w], hI1.1, CLd_mono (loX11_again hI1 hb rx) ?_⟩
  rintro v h2 ⟨⟨e2, rfl⟩, hI2, hF2⟩
  exact ⟨w32 e2, w32_r _, by rw [I_w], nofun, hI2, CR_F hF2 (by decide +kernel) (CR_F hF1 (by decide +kernel) hC)⟩
theorem pr_count {sh : List (Nat × Nat)} {b : Int} {h : aH} (hI : INV sh b h) (hC : CR h) (hb : b ≤ 320000) {x : Int} (rx : r32 x) : CLd SPt 310 mX10_count [.ref 0, .int (I x)] h 0 0 (PRQ sh b mX11_count [.ref 171, .int (I x)] false) := by
  refine CLd_mono (loX10_count hI hb rx) ?_
  rintro v h1 ⟨⟨e1, rfl⟩, hI1, hF1⟩
  refine ⟨w32 e1, w32_r _, by rw [I_w], hI1.1, CLd_mono (loX11_count hI1 hb rx) ?_⟩
  rintro v h2 ⟨⟨e2, rfl⟩, hI2, hF2⟩
  exact ⟨w32 e2, w32_r _, by rw [I_w], nofun, hI2, CR_F hF2 (by decide +kernel) (CR_F hF1 (by decide +kernel) hC)⟩
