/-! PAIRS OF CALLS -/
noncomputable def SR (h : aH) : Prop := gi h 133 0 = gi h 171 42 ∧ ∀ k : Nat, k ≤ 24 → gi h 134 k = snF (gi h 193) (gi h 194) k (gi h 171 42).toNat
noncomputable def SROk (M : MD) : Bool := !(mHas M 0 47 0) && !(mHas M 0 54 42) && (M.all fun q => !(Nat.beq q.1 0 && Nat.beq q.2.1 48)) && (M.all fun q => !(Nat.beq q.1 0 && Nat.beq q.2.1 76)) && (M.all fun q => !(Nat.beq q.1 0 && Nat.beq q.2.1 77))
theorem SR_F {M : MD} {h h' : aH} (hF : FRM gRL M h h') (hm : SROk M = true) (hc : SR h) : SR h' := by
  simp only [SROk, Bool.and_eq_true] at hm
  have m0 := hm.1.1.1.1
  have m1 := hm.1.1.1.2
  have m2 := hm.1.1.2
  have m3 := hm.1.2
  have m4 := hm.2
  refine ⟨?_, fun k hk => ?_⟩
  · rw [FRM_gi hF (a := 133) (r := 47) rfl (mfn m0), FRM_gi hF (a := 171) (r := 54) rfl (mfn m1)]
    exact hc.1
  · have e1 : gi h' 193 = gi h 193 := funext fun j => FRM_gi hF (a := 193) (r := 76) rfl (mHas_non m3 j)
    have e2 : gi h' 194 = gi h 194 := funext fun j => FRM_gi hF (a := 194) (r := 77) rfl (mHas_non m4 j)
    rw [FRM_gi hF (a := 134) (r := 48) rfl (mHas_non m2 k), FRM_gi hF (a := 171) (r := 54) rfl (mfn m1), e1, e2]
    exact hc.2 k hk
theorem SR_J {h : aH} {v : Int64} (hc : SR h) : SR (sJ h 201 0 v) := hc
noncomputable def SRB (c : cH) : Bool := decide (rI c.2.2.1 133 0 = 0) && decide (rI c.2.2.1 171 42 = 0) && (List.range 25).all fun k => decide (rI c.2.2.1 134 k = -1)
theorem SR_0 {c : cH} {h : aH} (hr : REL c h) (hb : SRB c = true) : SR h := by
  simp only [SRB, Bool.and_eq_true, decide_eq_true_eq] at hb
  obtain ⟨⟨b1, b2⟩, b3⟩ := hb
  refine ⟨?_, fun k hk => ?_⟩
  · rw [gi_c hr, gi_c hr, b1, b2]
  · rw [gi_c hr 134 k, gi_c hr 171 42, b2, of_decide_eq_true (List.all_eq_true.mp b3 k (List.mem_range.mpr (by omega)))]
    rfl
/-- what is held beside INV -/
noncomputable def CR (h : aH) : Prop := PT h ∧ SR h
noncomputable def crOk (M : MD) : Bool := PTOk M && SROk M
noncomputable def crB (c : cH) : Bool := PTB c && SRB c
theorem CR_0 {c : cH} {h : aH} (hr : REL c h) (hb : crB c = true) : CR h := by
  simp only [crB, Bool.and_eq_true] at hb
  exact ⟨PT_0 hr hb.1, SR_0 hr hb.2⟩
theorem CR_F {M : MD} {h h' : aH} (hF : FRM gRL M h h') (hm : crOk M = true) (hc : CR h) : CR h' := by
  simp only [crOk, Bool.and_eq_true] at hm
  exact ⟨PT_F hF hm.1 hc.1, SR_F hF hm.2 hc.2⟩
theorem CR_J {h : aH} {v : Int64} (hc : CR h) : CR (sJ h 201 0 v) := ⟨PT_J hc.1, SR_J hc.2⟩
noncomputable abbrev PRQ (sh : List (Nat × Nat)) (b : Int) (m : Nat) (as : List Value) (cmp : Bool) : QT := fun rv h1 => ∃ e1 : Int, r32 e1 ∧ rv = some (.int (I e1)) ∧ GD gE gRL sh h1 ∧ CLd SPt 310 m as h1 0 0 (fun rv2 h2 => ∃ e2 : Int, r32 e2 ∧ rv2 = some (.int (I e2)) ∧ (cmp = true → e2 = e1) ∧ INV sh (b + 600) h2 ∧ CR h2)
theorem CLd_mono {d mid : Nat} {as : List Value} {h : aH} {Q Q' : QT} (hc : CLd SPt d mid as h 0 0 Q) (hq : ∀ rv h', Q rv h' → Q' rv h') : CLd SPt d mid as h 0 0 Q' := MONO_CLd SPt_mono d _ _ _ _ _ _ _ hq hc
theorem pr_sign {sh : List (Nat × Nat)} {b : Int} {h : aH} (hI : INV sh b h) (hC : CR h) (hb : b ≤ 320000) {x : Int} (rx : r32 x) : CLd SPt 310 mX10_sign [.ref 0, .int (I x)] h 0 0 (PRQ sh b mX11_sign [.ref 171, .int (I x)] false) := by
  refine CLd_mono (loX10_sign hI hb rx) ?_
  rintro v h1 ⟨⟨e1, rfl⟩, hI1, hF1⟩
  refine ⟨w32 e1, w32_r _, by rw [I_w], hI1.1, CLd_mono (loX11_sign hI1 hb rx) ?_⟩
  rintro v h2 ⟨⟨e2, rfl⟩, hI2, hF2⟩
  exact ⟨w32 e2, w32_r _, by rw [I_w], nofun, hI2, CR_F hF2 (by decide +kernel) (CR_F hF1 (by decide +kernel) hC)⟩
theorem pr_end {sh : List (Nat × Nat)} {b : Int} {h : aH} (hI : INV sh b h) (hC : CR h) (hb : b ≤ 320000) {x : Int} (rx : r32 x) : CLd SPt 310 mX10_end [.ref 0, .int (I x)] h 0 0 (PRQ sh b mX11_end [.ref 171, .int (I x)] false) := by
  refine CLd_mono (loX10_end hI hb rx) ?_
  rintro v h1 ⟨⟨e1, rfl⟩, hI1, hF1⟩
  refine ⟨w32 e1, w32_r _, by rw [I_w], hI1.1, CLd_mono (loX11_end hI1 hb rx) ?_⟩
  rintro v h2 ⟨⟨e2, rfl⟩, hI2, hF2⟩
  exact ⟨w32 e2, w32_r _, by rw [I_w], nofun, hI2, CR_F hF2 (by decide +kernel) (CR_F hF1 (by decide +kernel) hC)⟩
theorem pr_ship {sh : List (Nat × Nat)} {b : Int} {h : aH} (hI : INV sh b h) (hC : CR h) (hb : b ≤ 320000) : CLd SPt 310 mX10_ship [.ref 0] h 0 0 (PRQ sh b mX11_ship [.ref 171] false) := by
  refine CLd_mono (loX10_ship hI hb ) ?_
  rintro v h1 ⟨⟨e1, rfl⟩, hI1, hF1⟩
  refine ⟨w32 e1, w32_r _, by rw [I_w], hI1.1, CLd_mono (loX11_ship hI1 hb ) ?_⟩
  rintro v h2 ⟨⟨e2, rfl⟩, hI2, hF2⟩
  exact ⟨w32 e2, w32_r _, by rw [I_w], nofun, hI2, CR_F hF2 (by decide +kernel) (CR_F hF1 (by decide +kernel) hC)⟩
theorem pr_rocks {sh : List (Nat × Nat)} {b : Int} {h : aH} (hI : INV sh b h) (hC : CR h) (hb : b ≤ 320000) : CLd SPt 310 mX10_rocks [.ref 0] h 0 0 (PRQ sh b mX11_rocks [.ref 171] false) := by
  refine CLd_mono (loX10_rocks hI hb ) ?_
  rintro v h1 ⟨⟨e1, rfl⟩, hI1, hF1⟩
  refine ⟨w32 e1, w32_r _, by rw [I_w], hI1.1, CLd_mono (loX11_rocks hI1 hb ) ?_⟩
  rintro v h2 ⟨⟨e2, rfl⟩, hI2, hF2⟩
  exact ⟨w32 e2, w32_r _, by rw [I_w], nofun, hI2, CR_F hF2 (by decide +kernel) (CR_F hF1 (by decide +kernel) hC)⟩
theorem pr_messes {sh : List (Nat × Nat)} {b : Int} {h : aH} (hI : INV sh b h) (hC : CR h) (hb : b ≤ 320000) : CLd SPt 310 mX10_messes [.ref 0] h 0 0 (PRQ sh b mX11_messes [.ref 171] false) := by
  refine CLd_mono (loX10_messes hI hb ) ?_
  rintro v h1 ⟨⟨e1, rfl⟩, hI1, hF1⟩
  refine ⟨w32 e1, w32_r _, by rw [I_w], hI1.1, CLd_mono (loX11_messes hI1 hb ) ?_⟩
  rintro v h2 ⟨⟨e2, rfl⟩, hI2, hF2⟩
  exact ⟨w32 e2, w32_r _, by rw [I_w], nofun, hI2, CR_F hF2 (by decide +kernel) (CR_F hF1 (by decide +kernel) hC)⟩
theorem pr_rule {sh : List (Nat × Nat)} {b : Int} {h : aH} (hI : INV sh b h) (hC : CR h) (hb : b ≤ 320000) : CLd SPt 310 mX10_rule [.ref 0] h 0 0 (PRQ sh b mX11_rule [.ref 171] false) := by
  refine CLd_mono (loX10_rule hI hb ) ?_
  rintro v h1 ⟨⟨e1, rfl⟩, hI1, hF1⟩
  refine ⟨w32 e1, w32_r _, by rw [I_w], hI1.1, CLd_mono (loX11_rule hI1 hb ) ?_⟩
  rintro v h2 ⟨⟨e2, rfl⟩, hI2, hF2⟩
  exact ⟨w32 e2, w32_r _, by rw [I_w], nofun, hI2, CR_F hF2 (by decide +kernel) (CR_F hF1 (by decide +kernel) hC)⟩
theorem pr_sheet {sh : List (Nat × Nat)} {b : Int} {h : aH} (hI : INV sh b h) (hC : CR h) (hb : b ≤ 320000) {x y z u : Int} (rx : r32 x) (ry : r32 y) (rz : r32 z) (ru : r32 u) : CLd SPt 310 mX10_sheet [.ref 0, .int (I x), .int (I y), .int (I z), .int (I u)] h 0 0 (PRQ sh b mX11_sheet [.ref 171, .int (I x), .int (I y), .int (I z), .int (I u)] false) := by
  refine CLd_mono (loX10_sheet hI hb rx ry rz ru) ?_
  rintro v h1 ⟨⟨e1, rfl⟩, hI1, hF1⟩
  refine ⟨w32 e1, w32_r _, by rw [I_w], hI1.1, CLd_mono (loX11_sheet hI1 hb rx ry rz ru) ?_⟩
  rintro v h2 ⟨⟨e2, rfl⟩, hI2, hF2⟩
  exact ⟨w32 e2, w32_r _, by rw [I_w], nofun, hI2, CR_F hF2 (by decide +kernel) (CR_F hF1 (by decide +kernel) hC)⟩
theorem pr_delay {sh : List (Nat × Nat)} {b : Int} {h : aH} (hI : INV sh b h) (hC : CR h) (hb : b ≤ 320000) : CLd SPt 310 mX10_delay [.ref 0] h 0 0 (PRQ sh b mX11_delay [.ref 171] false) := by
  refine CLd_mono (loX10_delay hI hb ) ?_
  rintro v h1 ⟨⟨e1, rfl⟩, hI1, hF1⟩
  refine ⟨w32 e1, w32_r _, by rw [I_w], hI1.1, CLd_mono (loX11_delay hI1 hb ) ?_⟩
  rintro v h2 ⟨⟨e2, rfl⟩, hI2, hF2⟩
  exact ⟨w32 e2, w32_r _, by rw [I_w], nofun, hI2, CR_F hF2 (by decide +kernel) (CR_F hF1 (by decide +kernel) hC)⟩
theorem pr_order {sh : List (Nat × Nat)} {b : Int} {h : aH} (hI : INV sh b h) (hC : CR h) (hb : b ≤ 320000) {x : Int} (rx : r32 x) : CLd SPt 310 mX10_order [.ref 0, .int (I x)] h 0 0 (PRQ sh b mX11_order [.ref 171, .int (I x)] false) := by
  refine CLd_mono (loX10_order hI hb rx) ?_
  rintro v h1 ⟨⟨e1, rfl⟩, hI1, hF1⟩
  refine ⟨w32 e1, w32_r _, by rw [I_w], hI1.1, CLd_mono (loX11_order hI1 hb rx) ?_⟩
  rintro v h2 ⟨⟨e2, rfl⟩, hI2, hF2⟩
  exact ⟨w32 e2, w32_r _, by rw [I_w], nofun, hI2, CR_F hF2 (by decide +kernel) (CR_F hF1 (by decide +kernel) hC)⟩
theorem pr_pass {sh : List (Nat × Nat)} {b : Int} {h : aH} (hI : INV sh b h) (hC : CR h) (hb : b ≤ 320000) {x y z : Int} (rx : r32 x) (ry : r32 y) (rz : r32 z) : CLd SPt 310 mX10_pass [.ref 0, .int (I x), .int (I y), .int (I z)] h 0 0 (PRQ sh b mX11_pass [.ref 171, .int (I x), .int (I y), .int (I z)] false) := by
  refine CLd_mono (loX10_pass hI hb rx ry rz) ?_
  rintro v h1 ⟨⟨e1, rfl⟩, hI1, hF1⟩
  refine ⟨w32 e1, w32_r _, by rw [I_w], hI1.1, CLd_mono (loX11_pass hI1 hb rx ry rz) ?_⟩
  rintro v h2 ⟨⟨e2, rfl⟩, hI2, hF2⟩
  exact ⟨w32 e2, w32_r _, by rw [I_w], nofun, hI2, CR_F hF2 (by decide +kernel) (CR_F hF1 (by decide +kernel) hC)⟩
theorem pr_cook {sh : List (Nat × Nat)} {b : Int} {h : aH} (hI : INV sh b h) (hC : CR h) (hb : b ≤ 320000) {x y : Int} (rx : r32 x) (ry : r32 y) : CLd SPt 310 mX10_cook [.ref 0, .int (I x), .int (I y)] h 0 0 (PRQ sh b mX11_cook [.ref 171, .int (I x), .int (I y)] false) := by
  refine CLd_mono (loX10_cook hI hb rx ry) ?_
  rintro v h1 ⟨⟨e1, rfl⟩, hI1, hF1⟩
  refine ⟨w32 e1, w32_r _, by rw [I_w], hI1.1, CLd_mono (loX11_cook hI1 hb rx ry) ?_⟩
  rintro v h2 ⟨⟨e2, rfl⟩, hI2, hF2⟩
  exact ⟨w32 e2, w32_r _, by rw [I_w], nofun, hI2, CR_F hF2 (by decide +kernel) (CR_F hF1 (by decide +kernel) hC)⟩
theorem pr_steps {sh : List (Nat × Nat)} {b : Int} {h : aH} (hI : INV sh b h) (hC : CR h) (hb : b ≤ 320000) {x : Int} (rx : r32 x) : CLd SPt 310 mX10_steps [.ref 0, .int (I x)] h 0 0 (PRQ sh b mX11_steps [.ref 171, .int (I x)] false) := by
  refine CLd_mono (loX10_steps hI hb rx) ?_
  rintro v h1 ⟨⟨e1, rfl⟩, hI1, hF1⟩
  refine ⟨w32 e1, w32_r _, by rw [I_w], hI1.1, CLd_mono (loX11_steps hI1 hb rx) ?_⟩
  rintro v h2 ⟨⟨e2, rfl⟩, hI2, hF2⟩
  exact ⟨w32 e2, w32_r _, by rw [I_w], nofun, hI2, CR_F hF2 (by decide +kernel) (CR_F hF1 (by decide +kernel) hC)⟩
theorem pr_voyage {sh : List (Nat × Nat)} {b : Int} {h : aH} (hI : INV sh b h) (hC : CR h) (hb : b ≤ 320000) : CLd SPt 310 mX10_voyage [.ref 0] h 0 0 (PRQ sh b mX11_voyage [.ref 171] false) := by
  refine CLd_mono (loX10_voyage hI hb ) ?_
  rintro v h1 ⟨⟨e1, rfl⟩, hI1, hF1⟩
  refine ⟨w32 e1, w32_r _, by rw [I_w], hI1.1, CLd_mono (loX11_voyage hI1 hb ) ?_⟩
  rintro v h2 ⟨⟨e2, rfl⟩, hI2, hF2⟩
  exact ⟨w32 e2, w32_r _, by rw [I_w], nofun, hI2, CR_F hF2 (by decide +kernel) (CR_F hF1 (by decide +kernel) hC)⟩
theorem pr_undo {sh : List (Nat × Nat)} {b : Int} {h : aH} (hI : INV sh b h) (hC : CR h) (hb : b ≤ 320000) : CLd SPt 310 mX10_undo [.ref 0] h 0 0 (PRQ sh b mX11_undo [.ref 171] false) := by
  refine CLd_mono (loX10_undo hI hb ) ?_
  rintro v h1 ⟨⟨e1, rfl⟩, hI1, hF1⟩
  refine ⟨w32 e1, w32_r _, by rw [I_w], hI1.1, CLd_mono (loX11_undo hI1 hb ) ?_⟩
  rintro v h2 ⟨⟨e2, rfl⟩, hI2, hF2⟩
  exact ⟨w32 e2, w32_r _, by rw [I_w], nofun, hI2, CR_F hF2 (by decide +kernel) (CR_F hF1 (by decide +kernel) hC)⟩
theorem pr_lane {sh : List (Nat × Nat)} {b : Int} {h : aH} (hI : INV sh b h) (hC : CR h) (hb : b ≤ 320000) {x : Int} (rx : r32 x) : CLd SPt 310 mX10_lane [.ref 0, .int (I x)] h 0 0 (PRQ sh b mX11_lane [.ref 171, .int (I x)] false) := by
  refine CLd_mono (loX10_lane hI hb rx) ?_
  rintro v h1 ⟨⟨e1, rfl⟩, hI1, hF1⟩
  refine ⟨w32 e1, w32_r _, by rw [I_w], hI1.1, CLd_mono (loX11_lane hI1 hb rx) ?_⟩
  rintro v h2 ⟨⟨e2, rfl⟩, hI2, hF2⟩
  exact ⟨w32 e2, w32_r _, by rw [I_w], nofun, hI2, CR_F hF2 (by decide +kernel) (CR_F hF1 (by decide +kernel) hC)⟩
theorem pr_strikes {sh : List (Nat × Nat)} {b : Int} {h : aH} (hI : INV sh b h) (hC : CR h) (hb : b ≤ 320000) : CLd SPt 310 mX10_strikes [.ref 0] h 0 0 (PRQ sh b mX11_strikes [.ref 171] false) := by
  refine CLd_mono (loX10_strikes hI hb ) ?_
  rintro v h1 ⟨⟨e1, rfl⟩, hI1, hF1⟩
  refine ⟨w32 e1, w32_r _, by rw [I_w], hI1.1, CLd_mono (loX11_strikes hI1 hb ) ?_⟩
  rintro v h2 ⟨⟨e2, rfl⟩, hI2, hF2⟩
  exact ⟨w32 e2, w32_r _, by rw [I_w], nofun, hI2, CR_F hF2 (by decide +kernel) (CR_F hF1 (by decide +kernel) hC)⟩
theorem pr_clears {sh : List (Nat × Nat)} {b : Int} {h : aH} (hI : INV sh b h) (hC : CR h) (hb : b ≤ 320000) : CLd SPt 310 mX10_clears [.ref 0] h 0 0 (PRQ sh b mX11_clears [.ref 171] false) := by
  refine CLd_mono (loX10_clears hI hb ) ?_
  rintro v h1 ⟨⟨e1, rfl⟩, hI1, hF1⟩
  refine ⟨w32 e1, w32_r _, by rw [I_w], hI1.1, CLd_mono (loX11_clears hI1 hb ) ?_⟩
  rintro v h2 ⟨⟨e2, rfl⟩, hI2, hF2⟩
  exact ⟨w32 e2, w32_r _, by rw [I_w], nofun, hI2, CR_F hF2 (by decide +kernel) (CR_F hF1 (by decide +kernel) hC)⟩
theorem pr_plan {sh : List (Nat × Nat)} {b : Int} {h : aH} (hI : INV sh b h) (hC : CR h) (hb : b ≤ 320000) {x : Int} (rx : r32 x) : CLd SPt 310 mX10_plan [.ref 0, .int (I x)] h 0 0 (PRQ sh b mX11_plan [.ref 171, .int (I x)] false) := by
  refine CLd_mono (loX10_plan hI hb rx) ?_
  rintro v h1 ⟨⟨e1, rfl⟩, hI1, hF1⟩
  refine ⟨w32 e1, w32_r _, by rw [I_w], hI1.1, CLd_mono (loX11_plan hI1 hb rx) ?_⟩
  rintro v h2 ⟨⟨e2, rfl⟩, hI2, hF2⟩
  exact ⟨w32 e2, w32_r _, by rw [I_w], nofun, hI2, CR_F hF2 (by decide +kernel) (CR_F hF1 (by decide +kernel) hC)⟩
theorem pr_latest {sh : List (Nat × Nat)} {b : Int} {h : aH} (hI : INV sh b h) (hC : CR h) (hb : b ≤ 320000) {x : Int} (rx : r32 x) : CLd SPt 310 mX10_latest [.ref 0, .int (I x)] h 0 0 (PRQ sh b mX11_latest [.ref 171, .int (I x)] false) := by
  refine CLd_mono (loX10_latest hI hb rx) ?_
  rintro v h1 ⟨⟨e1, rfl⟩, hI1, hF1⟩
  refine ⟨w32 e1, w32_r _, by rw [I_w], hI1.1, CLd_mono (loX11_latest hI1 hb rx) ?_⟩
  rintro v h2 ⟨⟨e2, rfl⟩, hI2, hF2⟩
  exact ⟨w32 e2, w32_r _, by rw [I_w], nofun, hI2, CR_F hF2 (by decide +kernel) (CR_F hF1 (by decide +kernel) hC)⟩
theorem pr_lanes {sh : List (Nat × Nat)} {b : Int} {h : aH} (hI : INV sh b h) (hC : CR h) (hb : b ≤ 320000) {x : Int} (rx : r32 x) : CLd SPt 310 mX10_lanes [.ref 0, .int (I x)] h 0 0 (PRQ sh b mX11_lanes [.ref 171, .int (I x)] false) := by
  refine CLd_mono (loX10_lanes hI hb rx) ?_
  rintro v h1 ⟨⟨e1, rfl⟩, hI1, hF1⟩
  refine ⟨w32 e1, w32_r _, by rw [I_w], hI1.1, CLd_mono (loX11_lanes hI1 hb rx) ?_⟩
  rintro v h2 ⟨⟨e2, rfl⟩, hI2, hF2⟩
  exact ⟨w32 e2, w32_r _, by rw [I_w], nofun, hI2, CR_F hF2 (by decide +kernel) (CR_F hF1 (by decide +kernel) hC)⟩
theorem pr_safest {sh : List (Nat × Nat)} {b : Int} {h : aH} (hI : INV sh b h) (hC : CR h) (hb : b ≤ 320000) {x : Int} (rx : r32 x) : CLd SPt 310 mX10_safest [.ref 0, .int (I x)] h 0 0 (PRQ sh b mX11_safest [.ref 171, .int (I x)] false) := by
  refine CLd_mono (loX10_safest hI hb rx) ?_
  rintro v h1 ⟨⟨e1, rfl⟩, hI1, hF1⟩
  refine ⟨w32 e1, w32_r _, by rw [I_w], hI1.1, CLd_mono (loX11_safest hI1 hb rx) ?_⟩
  rintro v h2 ⟨⟨e2, rfl⟩, hI2, hF2⟩
  exact ⟨w32 e2, w32_r _, by rw [I_w], nofun, hI2, CR_F hF2 (by decide +kernel) (CR_F hF1 (by decide +kernel) hC)⟩
theorem pr_late {sh : List (Nat × Nat)} {b : Int} {h : aH} (hI : INV sh b h) (hC : CR h) (hb : b ≤ 320000) {x : Int} (rx : r32 x) : CLd SPt 310 mX10_late [.ref 0, .int (I x)] h 0 0 (PRQ sh b mX11_late [.ref 171, .int (I x)] false) := by
  refine CLd_mono (loX10_late hI hb rx) ?_
  rintro v h1 ⟨⟨e1, rfl⟩, hI1, hF1⟩
  refine ⟨w32 e1, w32_r _, by rw [I_w], hI1.1, CLd_mono (loX11_late hI1 hb rx) ?_⟩
  rintro v h2 ⟨⟨e2, rfl⟩, hI2, hF2⟩
  exact ⟨w32 e2, w32_r _, by rw [I_w], nofun, hI2, CR_F hF2 (by decide +kernel) (CR_F hF1 (by decide +kernel) hC)⟩
theorem pr_comes {sh : List (Nat × Nat)} {b : Int} {h : aH} (hI : INV sh b h) (hC : CR h) (hb : b ≤ 320000) {x : Int} (rx : r32 x) : CLd SPt 310 mX10_comes [.ref 0, .int (I x)] h 0 0 (PRQ sh b mX11_comes [.ref 171, .int (I x)] false) := by
  refine CLd_mono (loX10_comes hI hb rx) ?_
  rintro v h1 ⟨⟨e1, rfl⟩, hI1, hF1⟩
  refine ⟨w32 e1, w32_r _, by rw [I_w], hI1.1, CLd_mono (loX11_comes hI1 hb rx) ?_⟩
  rintro v h2 ⟨⟨e2, rfl⟩, hI2, hF2⟩
  exact ⟨w32 e2, w32_r _, by rw [I_w], nofun, hI2, CR_F hF2 (by decide +kernel) (CR_F hF1 (by decide +kernel) hC)⟩
theorem pr_relay {sh : List (Nat × Nat)} {b : Int} {h : aH} (hI : INV sh b h) (hC : CR h) (hb : b ≤ 320000) {x : Int} (rx : r32 x) : CLd SPt 310 mX10_relay [.ref 0, .int (I x)] h 0 0 (PRQ sh b mX11_relay [.ref 171, .int (I x)] false) := by
  refine CLd_mono (loX10_relay hI hb rx) ?_
  rintro v h1 ⟨⟨e1, rfl⟩, hI1, hF1⟩
  refine ⟨w32 e1, w32_r _, by rw [I_w], hI1.1, CLd_mono (loX11_relay hI1 hb rx) ?_⟩
  rintro v h2 ⟨⟨e2, rfl⟩, hI2, hF2⟩
  exact ⟨w32 e2, w32_r _, by rw [I_w], nofun, hI2, CR_F hF2 (by decide +kernel) (CR_F hF1 (by decide +kernel) hC)⟩
theorem pr_fewest {sh : List (Nat × Nat)} {b : Int} {h : aH} (hI : INV sh b h) (hC : CR h) (hb : b ≤ 320000) {x : Int} (rx : r32 x) : CLd SPt 310 mX10_fewest [.ref 0, .int (I x)] h 0 0 (PRQ sh b mX11_fewest [.ref 171, .int (I x)] false) := by
  refine CLd_mono (loX10_fewest hI hb rx) ?_
  rintro v h1 ⟨⟨e1, rfl⟩, hI1, hF1⟩
  refine ⟨w32 e1, w32_r _, by rw [I_w], hI1.1, CLd_mono (loX11_fewest hI1 hb rx) ?_⟩
  rintro v h2 ⟨⟨e2, rfl⟩, hI2, hF2⟩
  exact ⟨w32 e2, w32_r _, by rw [I_w], nofun, hI2, CR_F hF2 (by decide +kernel) (CR_F hF1 (by decide +kernel) hC)⟩
theorem pr_word {sh : List (Nat × Nat)} {b : Int} {h : aH} (hI : INV sh b h) (hC : CR h) (hb : b ≤ 320000) {x y : Int} (rx : r32 x) (ry : r32 y) : CLd SPt 310 mX10_word [.ref 0, .int (I x), .int (I y)] h 0 0 (PRQ sh b mX11_word [.ref 171, .int (I x), .int (I y)] false) := by
  refine CLd_mono (loX10_word hI hb rx ry) ?_
  rintro v h1 ⟨⟨e1, rfl⟩, hI1, hF1⟩
  refine ⟨w32 e1, w32_r _, by rw [I_w], hI1.1, CLd_mono (loX11_word hI1 hb rx ry) ?_⟩
  rintro v h2 ⟨⟨e2, rfl⟩, hI2, hF2⟩
  exact ⟨w32 e2, w32_r _, by rw [I_w], nofun, hI2, CR_F hF2 (by decide +kernel) (CR_F hF1 (by decide +kernel) hC)⟩
theorem pr_survives {sh : List (Nat × Nat)} {b : Int} {h : aH} (hI : INV sh b h) (hC : CR h) (hb : b ≤ 320000) {x y : Int} (rx : r32 x) (ry : r32 y) : CLd SPt 310 mX10_survives [.ref 0, .int (I x), .int (I y)] h 0 0 (PRQ sh b mX11_survives [.ref 171, .int (I x), .int (I y)] false) := by
  refine CLd_mono (loX10_survives hI hb rx ry) ?_
  rintro v h1 ⟨⟨e1, rfl⟩, hI1, hF1⟩
  refine ⟨w32 e1, w32_r _, by rw [I_w], hI1.1, CLd_mono (loX11_survives hI1 hb rx ry) ?_⟩
  rintro v h2 ⟨⟨e2, rfl⟩, hI2, hF2⟩
  exact ⟨w32 e2, w32_r _, by rw [I_w], nofun, hI2, CR_F hF2 (by decide +kernel) (CR_F hF1 (by decide +kernel) hC)⟩
theorem pr_lives {sh : List (Nat × Nat)} {b : Int} {h : aH} (hI : INV sh b h) (hC : CR h) (hb : b ≤ 320000) {x : Int} (rx : r32 x) : CLd SPt 310 mX10_lives [.ref 0, .int (I x)] h 0 0 (PRQ sh b mX11_lives [.ref 171, .int (I x)] false) := by
  refine CLd_mono (loX10_lives hI hb rx) ?_
  rintro v h1 ⟨⟨e1, rfl⟩, hI1, hF1⟩
  refine ⟨w32 e1, w32_r _, by rw [I_w], hI1.1, CLd_mono (loX11_lives hI1 hb rx) ?_⟩
  rintro v h2 ⟨⟨e2, rfl⟩, hI2, hF2⟩
  exact ⟨w32 e2, w32_r _, by rw [I_w], nofun, hI2, CR_F hF2 (by decide +kernel) (CR_F hF1 (by decide +kernel) hC)⟩
theorem pr_shares {sh : List (Nat × Nat)} {b : Int} {h : aH} (hI : INV sh b h) (hC : CR h) (hb : b ≤ 320000) {x : Int} (rx : r32 x) : CLd SPt 310 mX10_shares [.ref 0, .int (I x)] h 0 0 (PRQ sh b mX11_shares [.ref 171, .int (I x)] false) := by
  refine CLd_mono (loX10_shares hI hb rx) ?_
  rintro v h1 ⟨⟨e1, rfl⟩, hI1, hF1⟩
  refine ⟨w32 e1, w32_r _, by rw [I_w], hI1.1, CLd_mono (loX11_shares hI1 hb rx) ?_⟩
  rintro v h2 ⟨⟨e2, rfl⟩, hI2, hF2⟩
  exact ⟨w32 e2, w32_r _, by rw [I_w], nofun, hI2, CR_F hF2 (by decide +kernel) (CR_F hF1 (by decide +kernel) hC)⟩
theorem pr_fast {sh : List (Nat × Nat)} {b : Int} {h : aH} (hI : INV sh b h) (hC : CR h) (hb : b ≤ 320000) {x : Int} (rx : r32 x) : CLd SPt 310 mX10_fast [.ref 0, .int (I x)] h 0 0 (PRQ sh b mX11_fast [.ref 171, .int (I x)] false) := by
  refine CLd_mono (loX10_fast hI hb rx) ?_
  rintro v h1 ⟨⟨e1, rfl⟩, hI1, hF1⟩
  refine ⟨w32 e1, w32_r _, by rw [I_w], hI1.1, CLd_mono (loX11_fast hI1 hb rx) ?_⟩
  rintro v h2 ⟨⟨e2, rfl⟩, hI2, hF2⟩
  exact ⟨w32 e2, w32_r _, by rw [I_w], nofun, hI2, CR_F hF2 (by decide +kernel) (CR_F hF1 (by decide +kernel) hC)⟩
theorem pr_seen {sh : List (Nat × Nat)} {b : Int} {h : aH} (hI : INV sh b h) (hC : CR h) (hb : b ≤ 320000) {x y : Int} (rx : r32 x) (ry : r32 y) : CLd SPt 310 mX10_seen [.ref 0, .int (I x), .int (I y)] h 0 0 (PRQ sh b mX11_seen [.ref 171, .int (I x), .int (I y)] false) := by
  refine OP_le (Nat.le_of_ble_eq_true rfl) (ctX10_seen SPt_mono hI.1 rx ry) ?_
  rintro v h1 ⟨rfl, hG1, hF1, s1, s2⟩
  have hI1 : INV sh b h1 := INV_F hI hG1 hF1 (by decide +kernel)
  refine ⟨_, w32_r _, by rw [I_w], hI1.1, OP_le (Nat.le_of_ble_eq_true rfl) (ctX11_seenF SPt_mono hG1 rx ry) ?_⟩
  rintro v h2 ⟨rfl, hG2, hF2, t1, t2⟩
  have hI2 : INV sh (b + 600) h2 := (INV_F hI1 hG2 hF2 (by decide +kernel)).mono (by omega)
  have e1 : gi h1 193 = gi h 193 := funext fun j => FRM_gi hF1 (a := 193) (r := 76) rfl (mHas_non (by decide) j)
  have e2 : gi h1 194 = gi h 194 := funext fun j => FRM_gi hF1 (a := 194) (r := 77) rfl (mHas_non (by decide) j)
  have e3 : gi h1 171 42 = gi h 171 42 := FRM_gi hF1 (r := 54) rfl (by decide)
  have e4 : gi h2 133 0 = gi h1 133 0 := FRM_gi hF2 (r := 47) rfl (by decide)
  have e5 : ∀ j, gi h2 134 j = gi h1 134 j := fun j => FRM_gi hF2 (r := 48) rfl (mHas_non (by decide) j)
  obtain ⟨c1, c2⟩ := hC.2
  rw [e1, e2, e3] at t1 t2 ⊢
  have ea : seA (snF (gi h 193) (gi h 194) x (gi h 171 42).toNat) (gi h 171 42) x y = seA (gi h 134 x.toNat) (gi h 133 0) x y := by
    by_cases q : (0 ≤ x ∧ x ≤ 24) ∧ 0 ≤ y ∧ y ≤ 8
    · rw [c2 x.toNat (by omega), c1, tn_c q.1.1]
    · unfold seA; rw [if_neg q, if_neg q]
  have eb : seB (snF (gi h 193) (gi h 194) x (gi h 171 42).toNat) (gi h 171 42) x y ↔ seB (gi h 134 x.toNat) (gi h 133 0) x y := by
    by_cases q : (0 ≤ x ∧ x ≤ 24) ∧ 0 ≤ y ∧ y ≤ 8
    · rw [c2 x.toNat (by omega), c1, tn_c q.1.1]
    · exact ⟨fun z => absurd z.1 q, fun z => absurd z.1 q⟩
  have gc := gri 0 12 hI.1 (a := 171) (r := 54) (k := 42) rfl rfl
  have sr : SR h2 := by
    by_cases q : seB (gi h 134 x.toNat) (gi h 133 0) x y
    · obtain ⟨u1, u2, u3⟩ := s1 q
      obtain ⟨w1, w2, w3, w4, w5⟩ := t1 (eb.mpr q)
      refine ⟨by rw [e4, u1, w1, c1], fun k hk => ?_⟩
      rw [e5, w1, show (gi h 171 42 + 1).toNat = (gi h 171 42).toNat + 1 by omega]
      show _ = if gi h2 193 (gi h 171 42).toNat = (k : Int) then gi h2 194 (gi h 171 42).toNat else snF (gi h2 193) (gi h2 194) k (gi h 171 42).toNat
      rw [w2, w3]
      by_cases z : k = x.toNat
      · rw [if_pos (by have := q.1.1; omega), z, u2]
      · rw [if_neg (by have := q.1.1; omega), u3 k z, c2 k hk]
        exact (snF_ext fun i hi => ⟨w4 i (by omega), w5 i (by omega)⟩).symm
    · rw [s2 q] at e4 e5
      obtain ⟨w1, w2, w3⟩ := t2 (fun z => q (eb.mp z))
      refine ⟨by rw [e4, w1, c1], fun k hk => ?_⟩
      rw [e5, w1, w2, w3]
      exact c2 k hk
  exact ⟨_, w32_r _, by rw [I_w], nofun, hI2, ⟨PT_F hF2 (by decide +kernel) (PT_F hF1 (by decide +kernel) hC.1), sr⟩⟩
theorem pr_forget {sh : List (Nat × Nat)} {b : Int} {h : aH} (hI : INV sh b h) (hC : CR h) (hb : b ≤ 320000) : CLd SPt 310 mX10_forget [.ref 0] h 0 0 (PRQ sh b mX11_forget [.ref 171] false) := by
  refine OP_le (Nat.le_of_ble_eq_true rfl) (ctX10_forget SPt_mono hI.1 hI.2.1) ?_
  rintro v h1 ⟨rfl, hG1, hF1, s1, s2⟩
  have hI1 : INV sh b h1 := INV_F hI hG1 hF1 (by decide +kernel)
  refine ⟨_, w32_r _, by rw [I_w], hI1.1, OP_le (Nat.le_of_ble_eq_true rfl) (ctX11_forget SPt_mono hG1) ?_⟩
  rintro v h2 ⟨rfl, hG2, hF2, t1⟩
  have hI2 : INV sh (b + 600) h2 := (INV_F hI1 hG2 hF2 (by decide +kernel)).mono (by omega)
  have e3 : gi h1 171 42 = gi h 171 42 := FRM_gi hF1 (r := 54) rfl (by decide)
  have e4 : gi h2 133 0 = gi h1 133 0 := FRM_gi hF2 (r := 47) rfl (by decide)
  have e5 : ∀ j, gi h2 134 j = gi h1 134 j := fun j => FRM_gi hF2 (r := 48) rfl (mHas_non (by decide) j)
  have sr : SR h2 := ⟨by rw [e4, s1, t1], fun k hk => by rw [e5, s2 k (by omega), t1]; rfl⟩
  exact ⟨_, w32_r _, by rw [I_w], nofun, hI2, ⟨PT_F hF2 (by decide +kernel) (PT_F hF1 (by decide +kernel) hC.1), sr⟩⟩
theorem pr_ordered {sh : List (Nat × Nat)} {b : Int} {h : aH} (hI : INV sh b h) (hC : CR h) (hb : b ≤ 320000) : CLd SPt 310 mX10_ordered [.ref 0] h 0 0 (PRQ sh b mX11_ordered [.ref 171] false) := by
  refine CLd_mono (loX10_ordered hI hb ) ?_
  rintro v h1 ⟨⟨e1, rfl⟩, hI1, hF1⟩
  refine ⟨w32 e1, w32_r _, by rw [I_w], hI1.1, CLd_mono (loX11_ordered hI1 hb ) ?_⟩
  rintro v h2 ⟨⟨e2, rfl⟩, hI2, hF2⟩
  exact ⟨w32 e2, w32_r _, by rw [I_w], nofun, hI2, CR_F hF2 (by decide +kernel) (CR_F hF1 (by decide +kernel) hC)⟩
theorem pr_unsure {sh : List (Nat × Nat)} {b : Int} {h : aH} (hI : INV sh b h) (hC : CR h) (hb : b ≤ 320000) : CLd SPt 310 mX10_unsure [.ref 0] h 0 0 (PRQ sh b mX11_unsure [.ref 171] true) := by
  refine OP_le (Nat.le_of_ble_eq_true rfl) (ctX10_unsure SPt_mono hI.1 hC.1) ?_
  rintro v h1 ⟨hc, hG1, hF1⟩
  have hI1 : INV sh b h1 := INV_F hI hG1 hF1 (by decide +kernel)
  have ev : v = some (.int (I (if gi h 133 0 = 0 then -2 else if (uF (pcF (fun k : Int => gi h 134 k.toNat) (lcF (gi h 134) 24))) 0 = 0 then -2 else (bsF (uF (pcF (fun k : Int => gi h 134 k.toNat) (lcF (gi h 134) 24))) (lcF (gi h 134) 24).toNat).1))) := by
    rcases hc with ⟨c, e, -⟩ | ⟨c, z, e, -⟩ | ⟨c, z, e, -⟩
    · rw [if_pos c]; exact e
    · rw [if_neg c, if_pos z]; exact e
    · rw [if_neg c, if_neg z]; exact e
  subst ev
  refine ⟨_, w32_r _, by rw [I_w], hI1.1, OP_le (Nat.le_of_ble_eq_true rfl) (ctX11_unsureF SPt_mono hI1.1) ?_⟩
  rintro v h2 ⟨hd, hG2, hF2, -⟩
  have hI2 : INV sh (b + 600) h2 := (INV_F hI1 hG2 hF2 (by decide +kernel)).mono (by omega)
  have e1 : gi h1 193 = gi h 193 := funext fun j => FRM_gi hF1 (a := 193) (r := 76) rfl (mHas_non (by decide) j)
  have e2 : gi h1 194 = gi h 194 := funext fun j => FRM_gi hF1 (a := 194) (r := 77) rfl (mHas_non (by decide) j)
  have e3 : gi h1 171 42 = gi h 171 42 := FRM_gi hF1 (r := 54) rfl (by decide)
  obtain ⟨c1, c2⟩ := hC.2
  rw [e1, e2, e3] at hd
  have gn := gri 0 12 hI.1 (a := 171) (r := 54) (k := 42) rfl rfl
  have lb := lcF_b (gi h 134) 24
  have ev : v = some (.int (I (if gi h 133 0 = 0 then -2 else if (uF (pcF (fun k : Int => gi h 134 k.toNat) (lcF (gi h 134) 24))) 0 = 0 then -2 else (bsF (uF (pcF (fun k : Int => gi h 134 k.toNat) (lcF (gi h 134) 24))) (lcF (gi h 134) 24).toNat).1))) := by
    rcases hd with ⟨c, e, -⟩ | ⟨c, z, e, -⟩ | ⟨c, z, e, -⟩
    · rw [if_pos (c1.trans c)]; exact e
    · obtain ⟨u1, u2, u3⟩ := uns_eq hI.1 c2 c
      rw [u1] at z
      rw [if_neg (by omega), if_pos (Classical.byContradiction fun y => z (u2.mpr y))]; exact e
    · obtain ⟨u1, u2, u3⟩ := uns_eq hI.1 c2 c
      rw [u1] at z e
      rw [if_neg (by omega), if_neg (u2.mp z), ← u3 _ (by omega)]; exact e
  subst ev
  exact ⟨_, w32_r _, by rw [I_w], fun _ => rfl, hI2, ⟨PT_F hF2 (by decide +kernel) (PT_F hF1 (by decide +kernel) hC.1), SR_F hF2 (by decide +kernel) (SR_F hF1 (by decide +kernel) hC.2)⟩⟩
theorem pr_boy {sh : List (Nat × Nat)} {b : Int} {h : aH} (hI : INV sh b h) (hC : CR h) (hb : b ≤ 320000) {x y : Int} (rx : r32 x) (ry : r32 y) : CLd SPt 310 mX10_boy [.ref 0, .int (I x), .int (I y)] h 0 0 (PRQ sh b mX11_boy [.ref 171, .int (I x), .int (I y)] false) := by
  refine CLd_mono (loX10_boy hI hb rx ry) ?_
  rintro v h1 ⟨⟨e1, rfl⟩, hI1, hF1⟩
  refine ⟨w32 e1, w32_r _, by rw [I_w], hI1.1, CLd_mono (loX11_boy hI1 hb rx ry) ?_⟩
  rintro v h2 ⟨⟨e2, rfl⟩, hI2, hF2⟩
  exact ⟨w32 e2, w32_r _, by rw [I_w], nofun, hI2, CR_F hF2 (by decide +kernel) (CR_F hF1 (by decide +kernel) hC)⟩
theorem pr_meets {sh : List (Nat × Nat)} {b : Int} {h : aH} (hI : INV sh b h) (hC : CR h) (hb : b ≤ 320000) {x : Int} (rx : r32 x) : CLd SPt 310 mX10_meets [.ref 0, .int (I x)] h 0 0 (PRQ sh b mX11_meets [.ref 171, .int (I x)] false) := by
  refine CLd_mono (loX10_meets hI hb rx) ?_
  rintro v h1 ⟨⟨e1, rfl⟩, hI1, hF1⟩
  refine ⟨w32 e1, w32_r _, by rw [I_w], hI1.1, CLd_mono (loX11_meets hI1 hb rx) ?_⟩
  rintro v h2 ⟨⟨e2, rfl⟩, hI2, hF2⟩
  exact ⟨w32 e2, w32_r _, by rw [I_w], nofun, hI2, CR_F hF2 (by decide +kernel) (CR_F hF1 (by decide +kernel) hC)⟩
theorem pr_knows {sh : List (Nat × Nat)} {b : Int} {h : aH} (hI : INV sh b h) (hC : CR h) (hb : b ≤ 320000) {x y : Int} (rx : r32 x) (ry : r32 y) : CLd SPt 310 mX10_knows [.ref 0, .int (I x), .int (I y)] h 0 0 (PRQ sh b mX11_knows [.ref 171, .int (I x), .int (I y)] false) := by
  refine CLd_mono (loX10_knows hI hb rx ry) ?_
  rintro v h1 ⟨⟨e1, rfl⟩, hI1, hF1⟩
  refine ⟨w32 e1, w32_r _, by rw [I_w], hI1.1, CLd_mono (loX11_knows hI1 hb rx ry) ?_⟩
  rintro v h2 ⟨⟨e2, rfl⟩, hI2, hF2⟩
  exact ⟨w32 e2, w32_r _, by rw [I_w], nofun, hI2, CR_F hF2 (by decide +kernel) (CR_F hF1 (by decide +kernel) hC)⟩
theorem pr_mutiny {sh : List (Nat × Nat)} {b : Int} {h : aH} (hI : INV sh b h) (hC : CR h) (hb : b ≤ 320000) {x y z : Int} (rx : r32 x) (ry : r32 y) (rz : r32 z) : CLd SPt 310 mX10_mutiny [.ref 0, .int (I x), .int (I y), .int (I z)] h 0 0 (PRQ sh b mX11_mutiny [.ref 171, .int (I x), .int (I y), .int (I z)] false) := by
  refine CLd_mono (loX10_mutiny hI hb rx ry rz) ?_
  rintro v h1 ⟨⟨e1, rfl⟩, hI1, hF1⟩
  refine ⟨w32 e1, w32_r _, by rw [I_w], hI1.1, CLd_mono (loX11_mutiny hI1 hb rx ry rz) ?_⟩
  rintro v h2 ⟨⟨e2, rfl⟩, hI2, hF2⟩
  exact ⟨w32 e2, w32_r _, by rw [I_w], nofun, hI2, CR_F hF2 (by decide +kernel) (CR_F hF1 (by decide +kernel) hC)⟩
theorem pr_chance {sh : List (Nat × Nat)} {b : Int} {h : aH} (hI : INV sh b h) (hC : CR h) (hb : b ≤ 320000) {x y z : Int} (rx : r32 x) (ry : r32 y) (rz : r32 z) : CLd SPt 310 mX10_chance [.ref 0, .int (I x), .int (I y), .int (I z)] h 0 0 (PRQ sh b mX11_chance [.ref 171, .int (I x), .int (I y), .int (I z)] false) := by
  refine CLd_mono (loX10_chance hI hb rx ry rz) ?_
  rintro v h1 ⟨⟨e1, rfl⟩, hI1, hF1⟩
  refine ⟨w32 e1, w32_r _, by rw [I_w], hI1.1, CLd_mono (loX11_chance hI1 hb rx ry rz) ?_⟩
  rintro v h2 ⟨⟨e2, rfl⟩, hI2, hF2⟩
  exact ⟨w32 e2, w32_r _, by rw [I_w], nofun, hI2, CR_F hF2 (by decide +kernel) (CR_F hF1 (by decide +kernel) hC)⟩
theorem pr_voyages {sh : List (Nat × Nat)} {b : Int} {h : aH} (hI : INV sh b h) (hC : CR h) (hb : b ≤ 320000) {x y : Int} (rx : r32 x) (ry : r32 y) : CLd SPt 310 mX10_voyages [.ref 0, .int (I x), .int (I y)] h 0 0 (PRQ sh b mX11_voyages [.ref 171, .int (I x), .int (I y)] false) := by
  refine CLd_mono (loX10_voyages hI hb rx ry) ?_
  rintro v h1 ⟨⟨e1, rfl⟩, hI1, hF1⟩
  refine ⟨w32 e1, w32_r _, by rw [I_w], hI1.1, CLd_mono (loX11_voyages hI1 hb rx ry) ?_⟩
  rintro v h2 ⟨⟨e2, rfl⟩, hI2, hF2⟩
  exact ⟨w32 e2, w32_r _, by rw [I_w], nofun, hI2, CR_F hF2 (by decide +kernel) (CR_F hF1 (by decide +kernel) hC)⟩
theorem pr_keep {sh : List (Nat × Nat)} {b : Int} {h : aH} (hI : INV sh b h) (hC : CR h) (hb : b ≤ 320000) {x : Int} (rx : r32 x) : CLd SPt 310 mX10_keep [.ref 0, .int (I x)] h 0 0 (PRQ sh b mX11_keep [.ref 171, .int (I x)] false) := by
  refine CLd_mono (loX10_keep hI hb rx) ?_
  rintro v h1 ⟨⟨e1, rfl⟩, hI1, hF1⟩
  refine ⟨w32 e1, w32_r _, by rw [I_w], hI1.1, CLd_mono (loX11_keep hI1 hb rx) ?_⟩
  rintro v h2 ⟨rfl, hI2, hF2⟩
  exact ⟨w32 _, w32_r _, by rw [I_w], nofun, hI2, CR_F hF2 (by decide +kernel) (CR_F hF1 (by decide +kernel) hC)⟩
theorem pr_again {sh : List (Nat × Nat)} {b : Int} {h : aH} (hI : INV sh b h) (hC : CR h) (hb : b ≤ 320000) {x : Int} (rx : r32 x) : CLd SPt 310 mX10_again [.ref 0, .int (I x)] h 0 0 (PRQ sh b mX11_again [.ref 171, .int (I x)] false) := by
  refine CLd_mono (loX10_again hI hb rx) ?_
  rintro v h1 ⟨⟨e1, rfl⟩, hI1, hF1⟩
  refine ⟨w32 e1, w32_r _, by rw [I_w], hI1.1, CLd_mono (loX11_again hI1 hb rx) ?_⟩
  rintro v h2 ⟨⟨e2, rfl⟩, hI2, hF2⟩
  exact ⟨w32 e2, w32_r _, by rw [I_w], nofun, hI2, CR_F hF2 (by decide +kernel) (CR_F hF1 (by decide +kernel) hC)⟩
theorem pr_count {sh : List (Nat × Nat)} {b : Int} {h : aH} (hI : INV sh b h) (hC : CR h) (hb : b ≤ 320000) {x : Int} (rx : r32 x) : CLd SPt 310 mX10_count [.ref 0, .int (I x)] h 0 0 (PRQ sh b mX11_count [.ref 171, .int (I x)] false) := by
  refine CLd_mono (loX10_count hI hb rx) ?_
  rintro v h1 ⟨⟨e1, rfl⟩, hI1, hF1⟩
  refine ⟨w32 e1, w32_r _, by rw [I_w], hI1.1, CLd_mono (loX11_count hI1 hb rx) ?_⟩
  rintro v h2 ⟨⟨e2, rfl⟩, hI2, hF2⟩
  exact ⟨w32 e2, w32_r _, by rw [I_w], nofun, hI2, CR_F hF2 (by decide +kernel) (CR_F hF1 (by decide +kernel) hC)⟩
