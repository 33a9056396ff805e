/-! PAIRS OF CALLS -/
noncomputable def TS (h : aH) : Prop := gi h 1 1 = gi h 171 17
noncomputable def TSOk (M : MD) : Bool := !(mHas M 0 1 1) && !(mHas M 0 54 17)
theorem TS_F {M : MD} {h h' : aH} (hF : FRM gRL M h h') (hm : TSOk M = true) (hc : TS h) : TS h' := by
  simp only [TSOk, Bool.and_eq_true] at hm
  have m0 := hm.1
  have m1 := hm.2
  show gi h' 1 1 = gi h' 171 17
  rw [FRM_gi hF (a := 1) (r := 1) rfl (mfn m0), FRM_gi hF (a := 171) (r := 54) rfl (mfn m1)]
  exact hc
theorem TS_J {h : aH} {v : Int64} (hc : TS h) : TS (sJ h 201 0 v) := hc
noncomputable def TSB (c : cH) : Bool := decide (rI c.2.2.1 1 1 = rI c.2.2.1 171 17)
theorem TS_0 {c : cH} {h : aH} (hr : REL c h) (hb : TSB c = true) : TS h := by
  show gi h 1 1 = gi h 171 17
  rw [gi_c hr, gi_c hr, of_decide_eq_true hb]
noncomputable def TX (h : aH) : Prop := ∀ j : Nat, (j : Int) < gi h 1 1 → gi h 2 j = gi h 180 j
noncomputable def TXOk (M : MD) : Bool := !(mHas M 0 1 1) && (M.all fun q => !(Nat.beq q.1 0 && Nat.beq q.2.1 2)) && (M.all fun q => !(Nat.beq q.1 0 && Nat.beq q.2.1 63))
theorem TX_F {M : MD} {h h' : aH} (hF : FRM gRL M h h') (hm : TXOk M = true) (hc : TX h) : TX h' := by
  simp only [TXOk, Bool.and_eq_true] at hm
  have m0 := hm.1.1
  have m1 := hm.1.2
  have m2 := hm.2
  intro j hj
  rw [FRM_gi hF (a := 1) (r := 1) rfl (mfn m0)] at hj
  rw [FRM_gi hF (a := 2) (r := 2) rfl (mHas_non m1 j), FRM_gi hF (a := 180) (r := 63) rfl (mHas_non m2 j)]
  exact hc j hj
theorem TX_J {h : aH} {v : Int64} (hc : TX h) : TX (sJ h 201 0 v) := hc
noncomputable def TXB (c : cH) : Bool := decide (rI c.2.2.1 1 1 = 0)
theorem TX_0 {c : cH} {h : aH} (hr : REL c h) (hb : TXB c = true) : TX h := by
  intro j hj
  rw [gi_c hr, of_decide_eq_true hb] at hj
  exact absurd hj (by show ¬ (j : Int) < 0; omega)
noncomputable def SHR (h : aH) : Prop := ∃ s t : Nat, SW h s t ∧ gi h s 0 = gi h 171 3 ∧ gi h s 1 = gi h 171 4 ∧ gi h s 2 = gi h 171 5 ∧ pstL h s (gi h 171 4).toNat = mpL h (gi h 171 4).toNat
noncomputable def SHROk (M : MD) : Bool := (M.all fun q => !(Nat.beq q.1 0 && Nat.beq q.2.1 5)) && (M.all fun q => !(Nat.beq q.1 0 && Nat.beq q.2.1 6)) && (M.all fun q => !(Nat.beq q.1 0 && Nat.beq q.2.1 7)) && !(mHas M 0 54 3) && !(mHas M 0 54 4) && !(mHas M 0 54 5) && (M.all fun q => !(Nat.beq q.1 0 && Nat.beq q.2.1 56)) && (M.all fun q => !(Nat.beq q.1 0 && Nat.beq q.2.1 57)) && !(mHas M 2 0 2) && !(mHas M 2 0 3)
theorem SHR_F {M : MD} {h h' : aH} (hF : FRM gRL M h h') (hm : SHROk M = true) (hc : SHR h) : SHR h' := by
  simp only [SHROk, Bool.and_eq_true] at hm
  have m0 := hm.1.1.1.1.1.1.1.1.1
  have m1 := hm.1.1.1.1.1.1.1.1.2
  have m2 := hm.1.1.1.1.1.1.1.2
  have m3 := hm.1.1.1.1.1.1.2
  have m4 := hm.1.1.1.1.1.2
  have m5 := hm.1.1.1.1.2
  have m6 := hm.1.1.1.2
  have m7 := hm.1.1.2
  have m8 := hm.1.2
  have m9 := hm.2
  obtain ⟨s, t, hw, c0, c1, c2, c3⟩ := hc
  have h5 : s = 5 ∨ s = 8 := by have := hw.1; omega
  have n3 : gi h' 171 3 = gi h 171 3 := FRM_gi hF (a := 171) (r := 54) rfl (mfn m3)
  have n4 : gi h' 171 4 = gi h 171 4 := FRM_gi hF (a := 171) (r := 54) rfl (mfn m4)
  have n5 : gi h' 171 5 = gi h 171 5 := FRM_gi hF (a := 171) (r := 54) rfl (mfn m5)
  refine ⟨s, t, ⟨hw.1, (FRM_aR hF (r := 0) rfl (mfn m8)).trans hw.2.1, (FRM_aR hF (r := 0) rfl (mfn m9)).trans hw.2.2⟩, ?_, ?_, ?_, ?_⟩
  · rw [FRM_gi hF (ss_r h5).1 (mHas_non m0 0), n3]; exact c0
  · rw [FRM_gi hF (ss_r h5).1 (mHas_non m0 1), n4]; exact c1
  · rw [FRM_gi hF (ss_r h5).1 (mHas_non m0 2), n5]; exact c2
  · rw [n4, pstL_eq fun j hj => ⟨FRM_gi hF (ss_r h5).2.1 (mHas_non m1 j), FRM_gi hF (ss_r h5).2.2 (mHas_non m2 j)⟩, mpL_eq fun j hj => ⟨FRM_gi hF (a := 173) (r := 56) rfl (mHas_non m6 j), FRM_gi hF (a := 174) (r := 57) rfl (mHas_non m7 j)⟩]
    exact c3
theorem SHR_J {h : aH} {v : Int64} (hc : SHR h) : SHR (sJ h 201 0 v) := hc
noncomputable def SHRB (c : cH) : Bool := decide (rR c.2.2.2 0 2 = some 5 ∧ rR c.2.2.2 0 3 = some 8 ∧ rI c.2.2.1 5 0 = rI c.2.2.1 171 3 ∧ rI c.2.2.1 5 1 = rI c.2.2.1 171 4 ∧ rI c.2.2.1 5 2 = rI c.2.2.1 171 5 ∧ rI c.2.2.1 171 4 = 0)
theorem SHR_0 {c : cH} {h : aH} (hr : REL c h) (hb : SHRB c = true) : SHR h := by
  obtain ⟨b1, b2, b3, b4, b5, b6⟩ := of_decide_eq_true hb
  refine ⟨5, 8, ⟨Or.inl ⟨rfl, rfl⟩, (hr.2.2.2.2.1 0 2).trans b1, (hr.2.2.2.2.1 0 3).trans b2⟩, ?_, ?_, ?_, ?_⟩
  · rw [gi_c hr, gi_c hr, b3]
  · rw [gi_c hr, gi_c hr, b4]
  · rw [gi_c hr, gi_c hr, b5]
  · rw [show gi h 171 4 = 0 by rw [gi_c hr, b6]; rfl]
    show pstL h 5 0 = mpL h 0
    unfold pstL mpL
    rw [List.range_zero, List.map_nil, List.map_nil]
noncomputable def MC (h : aH) : Prop := gi h 0 9 = gi h 171 7
noncomputable def MCOk (M : MD) : Bool := !(mHas M 0 0 9) && !(mHas M 0 54 7)
theorem MC_F {M : MD} {h h' : aH} (hF : FRM gRL M h h') (hm : MCOk M = true) (hc : MC h) : MC h' := by
  simp only [MCOk, Bool.and_eq_true] at hm
  have m0 := hm.1
  have m1 := hm.2
  show gi h' 0 9 = gi h' 171 7
  rw [FRM_gi hF (a := 0) (r := 0) rfl (mfn m0), FRM_gi hF (a := 171) (r := 54) rfl (mfn m1)]
  exact hc
theorem MC_J {h : aH} {v : Int64} (hc : MC h) : MC (sJ h 201 0 v) := hc
noncomputable def MCB (c : cH) : Bool := decide (rI c.2.2.1 0 9 = rI c.2.2.1 171 7)
theorem MC_0 {c : cH} {h : aH} (hr : REL c h) (hb : MCB c = true) : MC h := by
  show gi h 0 9 = gi h 171 7
  rw [gi_c hr, gi_c hr, of_decide_eq_true hb]
noncomputable def RK (h : aH) : Prop := gi h 19 0 = gi h 171 6 ∧ ∀ j : Nat, (j : Int) < gi h 19 0 → gi h 20 j = gi h 175 j ∧ gi h 21 j = gi h 176 j
noncomputable def RKOk (M : MD) : Bool := (M.all fun q => !(Nat.beq q.1 0 && Nat.beq q.2.1 13)) && (M.all fun q => !(Nat.beq q.1 0 && Nat.beq q.2.1 14)) && (M.all fun q => !(Nat.beq q.1 0 && Nat.beq q.2.1 15)) && !(mHas M 0 54 6) && (M.all fun q => !(Nat.beq q.1 0 && Nat.beq q.2.1 58)) && (M.all fun q => !(Nat.beq q.1 0 && Nat.beq q.2.1 59))
theorem RK_F {M : MD} {h h' : aH} (hF : FRM gRL M h h') (hm : RKOk M = true) (hc : RK h) : RK h' := by
  simp only [RKOk, Bool.and_eq_true] at hm
  have m0 := hm.1.1.1.1.1
  have m1 := hm.1.1.1.1.2
  have m2 := hm.1.1.1.2
  have m3 := hm.1.1.2
  have m4 := hm.1.2
  have m5 := hm.2
  have n0 : gi h' 19 0 = gi h 19 0 := FRM_gi hF (a := 19) (r := 13) rfl (mHas_non m0 0)
  refine ⟨by rw [n0, FRM_gi hF (a := 171) (r := 54) rfl (mfn m3)]; exact hc.1, fun j hj => ?_⟩
  rw [n0] at hj
  rw [FRM_gi hF (a := 20) (r := 14) rfl (mHas_non m1 j), FRM_gi hF (a := 21) (r := 15) rfl (mHas_non m2 j), FRM_gi hF (a := 175) (r := 58) rfl (mHas_non m4 j), FRM_gi hF (a := 176) (r := 59) rfl (mHas_non m5 j)]
  exact hc.2 j hj
theorem RK_J {h : aH} {v : Int64} (hc : RK h) : RK (sJ h 201 0 v) := hc
noncomputable def RKB (c : cH) : Bool := decide (rI c.2.2.1 19 0 = 0 ∧ rI c.2.2.1 171 6 = 0)
theorem RK_0 {c : cH} {h : aH} (hr : REL c h) (hb : RKB c = true) : RK h := by
  obtain ⟨b1, b2⟩ := of_decide_eq_true hb
  have e1 : gi h 19 0 = 0 := by rw [gi_c hr, b1]; rfl
  refine ⟨by rw [e1, gi_c hr, b2]; rfl, fun j hj => ?_⟩
  rw [e1] at hj
  omega
noncomputable def RU (h : aH) : Prop := ∃ u v : Nat, LW h u v ∧ gi h u 1 = gi h 171 25 ∧ (cdL h u (gi h u 1).toNat).map rcC = (List.range (gi h 171 25).toNat).map (gi h 182) ∧ (∀ x ∈ cdL h u (gi h u 1).toNat, cdP x) ∧ (0 < gi h u 1 → dls ((cdL h u (gi h u 1).toNat).map rcC) = 1)
noncomputable def RUOk (M : MD) : Bool := !(mHas M 0 8 1) && (M.all fun q => !(Nat.beq q.1 0 && Nat.beq q.2.1 9)) && !(mHas M 0 54 25) && (M.all fun q => !(Nat.beq q.1 0 && Nat.beq q.2.1 65)) && !(mHas M 2 0 4) && !(mHas M 2 0 5)
theorem RU_F {M : MD} {h h' : aH} (hF : FRM gRL M h h') (hm : RUOk M = true) (hc : RU h) : RU h' := by
  simp only [RUOk, Bool.and_eq_true] at hm
  have m0 := hm.1.1.1.1.1
  have m1 := hm.1.1.1.1.2
  have m2 := hm.1.1.1.2
  have m3 := hm.1.1.2
  have m4 := hm.1.2
  have m5 := hm.2
  obtain ⟨u, v, hw, c0, c1, c2, c3⟩ := hc
  have h5 : u = 11 ∨ u = 14 := by have := hw.1; omega
  have n25 : gi h' 171 25 = gi h 171 25 := FRM_gi hF (a := 171) (r := 54) rfl (mfn m2)
  have nu : gi h' u 1 = gi h u 1 := FRM_gi hF (su_r h5).1 (mfn m0)
  have nl : cdL h' u (gi h' u 1).toNat = cdL h u (gi h u 1).toNat := by rw [nu]; exact cdL_e fun j hj => FRM_gi hF (su_r h5).2 (mHas_non m1 j)
  refine ⟨u, v, ⟨hw.1, (FRM_aR hF (r := 0) rfl (mfn m4)).trans hw.2.1, (FRM_aR hF (r := 0) rfl (mfn m5)).trans hw.2.2⟩, by rw [nu, n25]; exact c0, ?_, by rw [nl]; exact c2, by rw [nl, nu]; exact c3⟩
  rw [nl, n25, show gi h' 182 = gi h 182 from funext fun j => FRM_gi hF (a := 182) (r := 65) rfl (mHas_non m3 j)]
  exact c1
theorem RU_J {h : aH} {v : Int64} (hc : RU h) : RU (sJ h 201 0 v) := hc
noncomputable def RUB (c : cH) : Bool := decide (rR c.2.2.2 0 4 = some 11 ∧ rR c.2.2.2 0 5 = some 14 ∧ rI c.2.2.1 11 1 = 0 ∧ rI c.2.2.1 171 25 = 0)
theorem RU_0 {c : cH} {h : aH} (hr : REL c h) (hb : RUB c = true) : RU h := by
  obtain ⟨b1, b2, b3, b4⟩ := of_decide_eq_true hb
  have e1 : gi h 11 1 = 0 := by rw [gi_c hr, b3]; rfl
  have e2 : gi h 171 25 = 0 := by rw [gi_c hr, b4]; rfl
  refine ⟨11, 14, ⟨Or.inl ⟨rfl, rfl⟩, (hr.2.2.2.2.1 0 4).trans b1, (hr.2.2.2.2.1 0 5).trans b2⟩, by rw [e1, e2], ?_, ?_, fun z => absurd z (by omega)⟩
  · rw [e1, e2]
    rfl
  · rw [e1]
    exact fun x hx => absurd hx List.not_mem_nil
noncomputable def EA (h : aH) : Prop := ∀ m : Nat, (m : Int) < gi h 0 9 → gi h 22 m = gi h 177 m
noncomputable def EAOk (M : MD) : Bool := !(mHas M 0 0 9) && (M.all fun q => !(Nat.beq q.1 0 && Nat.beq q.2.1 16)) && (M.all fun q => !(Nat.beq q.1 0 && Nat.beq q.2.1 60))
theorem EA_F {M : MD} {h h' : aH} (hF : FRM gRL M h h') (hm : EAOk M = true) (hc : EA h) : EA h' := by
  simp only [EAOk, Bool.and_eq_true] at hm
  have m0 := hm.1.1
  have m1 := hm.1.2
  have m2 := hm.2
  intro m hm
  rw [FRM_gi hF (a := 0) (r := 0) rfl (mfn m0)] at hm
  rw [FRM_gi hF (a := 22) (r := 16) rfl (mHas_non m1 m), FRM_gi hF (a := 177) (r := 60) rfl (mHas_non m2 m)]
  exact hc m hm
theorem EA_J {h : aH} {v : Int64} (hc : EA h) : EA (sJ h 201 0 v) := hc
noncomputable def EAB (c : cH) : Bool := decide (rI c.2.2.1 0 9 = 0)
theorem EA_0 {c : cH} {h : aH} (hr : REL c h) (hb : EAB c = true) : EA h := by
  intro m hm
  rw [gi_c hr, of_decide_eq_true hb] at hm
  exact absurd hm (by show ¬ (m : Int) < 0; omega)
theorem STA_J {h : aH} {v : Int64} (hc : STA h) : STA (sJ h 201 0 v) := hc
noncomputable def STAB (c : cH) : Bool := decide (rI c.2.2.1 0 9 = 0) && decide (rI c.2.2.1 23 0 = 0) && decide (rI c.2.2.1 23 1 = 4) && decide (rI c.2.2.1 23 2 = 0) && decide (rI c.2.2.1 23 3 = -1) && decide (rI c.2.2.1 23 4 = 0) && decide (rI c.2.2.1 178 0 = 0) && decide (rI c.2.2.1 178 1 = 4) && decide (rI c.2.2.1 178 2 = 0) && decide (rI c.2.2.1 178 3 = 0) && decide (rI c.2.2.1 178 4 = -1) && decide (rI c.2.2.1 33 2 = 0) && decide (rI c.2.2.1 171 29 = 0) && decide (rI c.2.2.1 171 8 = 0) && ((List.range 3).all fun i => decide (rI c.2.2.1 36 i = 0 ∧ rI c.2.2.1 198 i = 0))
theorem STA_0 {c : cH} {h : aH} (hr : REL c h) (hb : STAB c = true) : STA h := by
  simp only [STAB, Bool.and_eq_true, decide_eq_true_eq] at hb
  have b0 := hb.1.1.1.1.1.1.1.1.1.1.1.1.1.1
  have b1 := hb.1.1.1.1.1.1.1.1.1.1.1.1.1.2
  have b2 := hb.1.1.1.1.1.1.1.1.1.1.1.1.2
  have b3 := hb.1.1.1.1.1.1.1.1.1.1.1.2
  have b4 := hb.1.1.1.1.1.1.1.1.1.1.2
  have b5 := hb.1.1.1.1.1.1.1.1.1.2
  have b6 := hb.1.1.1.1.1.1.1.1.2
  have b7 := hb.1.1.1.1.1.1.1.2
  have b8 := hb.1.1.1.1.1.1.2
  have b9 := hb.1.1.1.1.1.2
  have b10 := hb.1.1.1.1.2
  have b11 := hb.1.1.1.2
  have b12 := hb.1.1.2
  have b13 := hb.1.2
  have b14 := hb.2
  have e0 : gi h 0 9 = 0 := by rw [gi_c hr, b0]; rfl
  have e1 : gi h 23 0 = 0 := by rw [gi_c hr, b1]; rfl
  have e2 : gi h 23 1 = 4 := by rw [gi_c hr, b2]; rfl
  have e3 : gi h 23 2 = 0 := by rw [gi_c hr, b3]; rfl
  have e4 : gi h 23 3 = -1 := by rw [gi_c hr, b4]; rfl
  have e5 : gi h 23 4 = 0 := by rw [gi_c hr, b5]; rfl
  have e6 : gi h 178 0 = 0 := by rw [gi_c hr, b6]; rfl
  have e7 : gi h 178 1 = 4 := by rw [gi_c hr, b7]; rfl
  have e8 : gi h 178 2 = 0 := by rw [gi_c hr, b8]; rfl
  have e9 : gi h 178 3 = 0 := by rw [gi_c hr, b9]; rfl
  have e10 : gi h 178 4 = -1 := by rw [gi_c hr, b10]; rfl
  have e11 : gi h 33 2 = 0 := by rw [gi_c hr, b11]; rfl
  have e12 : gi h 171 29 = 0 := by rw [gi_c hr, b12]; rfl
  have e13 : gi h 171 8 = 0 := by rw [gi_c hr, b13]; rfl
  have ek : ∀ i : Nat, i < 3 → gi h 36 i = 0 ∧ gi h 198 i = 0 := fun i hi => by
    have z := of_decide_eq_true (all_r b14 hi)
    exact ⟨by rw [gi_c hr, z.1]; rfl, by rw [gi_c hr, z.2]; rfl⟩
  have ew : wl (RC h 178 0) = [] := by
    rw [wl_RC (by omega), e9]
    rfl
  have r0 : ∀ k, k < 57 → RC h 178 0 k = gi h 178 k := fun k hk => RC_0 hk
  refine ⟨⟨OKW_0 ew (by show RC h 178 0 4 ≤ RC h 178 0 0; rw [r0 4 (by omega), r0 0 (by omega)]; omega), ?_, ?_, ?_, ?_, ?_, fun m hm => ?_⟩, ?_, fun i hi => ⟨⟨fun z => ?_, fun z => ?_⟩, fun z => ?_⟩, ?_, fun i hi z => ?_⟩
  · show gi h 23 0 = RC h 178 0 0; rw [r0 0 (by omega)]; omega
  · show gi h 23 1 = RC h 178 0 1; rw [r0 1 (by omega)]; omega
  · show gi h 23 2 = RC h 178 0 2; rw [r0 2 (by omega)]; omega
  · show gi h 23 3 = RC h 178 0 4; rw [r0 4 (by omega)]; omega
  · show kO h 23 (gi h 23 4).toNat = srt (wl (RC h 178 0))
    rw [ew, e5]
    rfl
  · rw [e0] at hm; omega
  · rw [PL_nil e11, UL_nil e12]
    trivial
  · have := (ek i hi).1; omega
  · have := (ek i hi).2; omega
  · have := (ek i hi).1; omega
  · omega
  · have := (ek i hi).2; omega
noncomputable def SR (h : aH) : Prop := gi h 133 0 = gi h 171 42 ∧ ∀ k : Nat, k ≤ 24 → gi h 134 k = snF (gi h 193) (gi h 194) k (gi h 171 42).toNat
noncomputable def SROk (M : MD) : Bool := !(mHas M 0 47 0) && !(mHas M 0 54 42) && (M.all fun q => !(Nat.beq q.1 0 && Nat.beq q.2.1 48)) && (M.all fun q => !(Nat.beq q.1 0 && Nat.beq q.2.1 76)) && (M.all fun q => !(Nat.beq q.1 0 && Nat.beq q.2.1 77))
theorem SR_F {M : MD} {h h' : aH} (hF : FRM gRL M h h') (hm : SROk M = true) (hc : SR h) : SR h' := by
  simp only [SROk, Bool.and_eq_true] at hm
  have m0 := hm.1.1.1.1
  have m1 := hm.1.1.1.2
  have m2 := hm.1.1.2
  have m3 := hm.1.2
  have m4 := hm.2
  refine ⟨?_, fun k hk => ?_⟩
  · rw [FRM_gi hF (a := 133) (r := 47) rfl (mfn m0), FRM_gi hF (a := 171) (r := 54) rfl (mfn m1)]
    exact hc.1
  · have e1 : gi h' 193 = gi h 193 := funext fun j => FRM_gi hF (a := 193) (r := 76) rfl (mHas_non m3 j)
    have e2 : gi h' 194 = gi h 194 := funext fun j => FRM_gi hF (a := 194) (r := 77) rfl (mHas_non m4 j)
    rw [FRM_gi hF (a := 134) (r := 48) rfl (mHas_non m2 k), FRM_gi hF (a := 171) (r := 54) rfl (mfn m1), e1, e2]
    exact hc.2 k hk
theorem SR_J {h : aH} {v : Int64} (hc : SR h) : SR (sJ h 201 0 v) := hc
noncomputable def SRB (c : cH) : Bool := decide (rI c.2.2.1 133 0 = 0) && decide (rI c.2.2.1 171 42 = 0) && (List.range 25).all fun k => decide (rI c.2.2.1 134 k = -1)
theorem SR_0 {c : cH} {h : aH} (hr : REL c h) (hb : SRB c = true) : SR h := by
  simp only [SRB, Bool.and_eq_true, decide_eq_true_eq] at hb
  obtain ⟨⟨b1, b2⟩, b3⟩ := hb
  refine ⟨?_, fun k hk => ?_⟩
  · rw [gi_c hr, gi_c hr, b1, b2]
  · rw [gi_c hr 134 k, gi_c hr 171 42, b2, of_decide_eq_true (List.all_eq_true.mp b3 k (List.mem_range.mpr (by omega)))]
    rfl
noncomputable def PRI (h : aH) : Prop := ∀ i j : Nat, i < j → (j : Int) < gi h 171 4 → gi h 173 i < gi h 173 j
noncomputable def PROk (M : MD) : Bool := !(mHas M 0 54 4) && (M.all fun q => !(Nat.beq q.1 0 && Nat.beq q.2.1 56))
theorem PRI_F {M : MD} {h h' : aH} (hF : FRM gRL M h h') (hm : PROk M = true) (hc : PRI h) : PRI h' := by
  simp only [PROk, Bool.and_eq_true] at hm
  have m0 := hm.1
  have m1 := hm.2
  intro i j a b9
  rw [FRM_gi hF (a := 171) (r := 54) rfl (mfn m0)] at b9
  rw [FRM_gi hF (a := 173) (r := 56) rfl (mHas_non m1 i), FRM_gi hF (a := 173) (r := 56) rfl (mHas_non m1 j)]
  exact hc i j a b9
theorem PRI_J {h : aH} {v : Int64} (hc : PRI h) : PRI (sJ h 201 0 v) := hc
noncomputable def PRB (c : cH) : Bool := decide (rI c.2.2.1 171 4 = 0)
theorem PRI_0 {c : cH} {h : aH} (hr : REL c h) (hb : PRB c = true) : PRI h := by
  have b1 := of_decide_eq_true hb
  intro i j a b9
  rw [gi_c hr, b1] at b9
  exact absurd b9 (by show ¬ ((j : Int) < 0); omega)
noncomputable def RWD (h h2 : aH) : Prop := (crow h2 = crow h ∧ mrow h2 = mrow h) ∨ crow h2 = mrow h2
noncomputable def RWS (h : aH) : Prop := crow h = mrow h
noncomputable def RWOk (M : MD) : Bool := !(mHas M 0 3 1) && (M.all fun q => !(Nat.beq q.1 1 && Nat.beq q.2.1 4)) && !(mHas M 0 54 1) && (M.all fun q => !(Nat.beq q.1 1 && Nat.beq q.2.1 55))
theorem RWS_e {h h' : aH} (c : crow h' = crow h) (m : mrow h' = mrow h) (hc : RWS h) : RWS h' := by
  show crow h' = mrow h'
  rw [c, m]
  exact hc
theorem RWS_F {M : MD} {h h' : aH} (hF : FRM gRL M h h') (hm : RWOk M = true) (hc : RWS h) : RWS h' := by
  simp only [RWOk, Bool.and_eq_true] at hm
  exact RWS_e (crow_F hF (mfn hm.1.1.1) hm.1.1.2) (mrow_F hF (mfn hm.1.2) hm.2) hc
theorem RWS_J {h : aH} {v : Int64} (hc : RWS h) : RWS (sJ h 201 0 v) := RWS_e (crow_J (by decide)) (mrow_J (by decide)) hc
noncomputable def RWB (c : cH) : Bool := decide (rI c.2.2.1 3 1 = 0 ∧ rI c.2.2.1 171 1 = 0)
theorem RWS_0 {c : cH} {h : aH} (hr : REL c h) (hb : RWB c = true) : RWS h := by
  obtain ⟨b1, b2⟩ := of_decide_eq_true hb
  show crow h = mrow h
  rw [crow_0 (by rw [gi_c hr, b1]; rfl), mrow_0 (by rw [gi_c hr, b2]; rfl)]
theorem RWS_of {h h2 : aH} (r : RWD h h2) (hc : RWS h) : RWS h2 := by
  rcases r with ⟨a, b⟩ | r
  · exact RWS_e a b hc
  · exact r
/-- what is held beside INV -/
noncomputable def CR (h : aH) : Prop := PT h ∧ TS h ∧ TX h ∧ SHR h ∧ MC h ∧ RK h ∧ RU h ∧ EA h ∧ STA h ∧ SR h ∧ PRI h ∧ RWS h
noncomputable def crOk (M : MD) : Bool := PTOk M && TSOk M && TXOk M && SHROk M && MCOk M && RKOk M && RUOk M && EAOk M && STAOk M && SROk M && PROk M && RWOk M
noncomputable def crB (c : cH) : Bool := PTB c && TSB c && TXB c && SHRB c && MCB c && RKB c && RUB c && EAB c && STAB c && SRB c && PRB c && RWB c
theorem CR_0 {c : cH} {h : aH} (hr : REL c h) (hb : crB c = true) : CR h := by
  simp only [crB, Bool.and_eq_true] at hb
  exact ⟨PT_0 hr hb.1.1.1.1.1.1.1.1.1.1.1, TS_0 hr hb.1.1.1.1.1.1.1.1.1.1.2, TX_0 hr hb.1.1.1.1.1.1.1.1.1.2, SHR_0 hr hb.1.1.1.1.1.1.1.1.2, MC_0 hr hb.1.1.1.1.1.1.1.2, RK_0 hr hb.1.1.1.1.1.1.2, RU_0 hr hb.1.1.1.1.1.2, EA_0 hr hb.1.1.1.1.2, STA_0 hr hb.1.1.1.2, SR_0 hr hb.1.1.2, PRI_0 hr hb.1.2, RWS_0 hr hb.2⟩
theorem CR_F {M : MD} {h h' : aH} (hF : FRM gRL M h h') (hm : crOk M = true) (hc : CR h) : CR h' := by
  simp only [crOk, Bool.and_eq_true] at hm
  exact ⟨PT_F hF hm.1.1.1.1.1.1.1.1.1.1.1 hc.1, TS_F hF hm.1.1.1.1.1.1.1.1.1.1.2 hc.2.1, TX_F hF hm.1.1.1.1.1.1.1.1.1.2 hc.2.2.1, SHR_F hF hm.1.1.1.1.1.1.1.1.2 hc.2.2.2.1, MC_F hF hm.1.1.1.1.1.1.1.2 hc.2.2.2.2.1, RK_F hF hm.1.1.1.1.1.1.2 hc.2.2.2.2.2.1, RU_F hF hm.1.1.1.1.1.2 hc.2.2.2.2.2.2.1, EA_F hF hm.1.1.1.1.2 hc.2.2.2.2.2.2.2.1, STA_F hF hm.1.1.1.2 hc.2.2.2.2.2.2.2.2.1, SR_F hF hm.1.1.2 hc.2.2.2.2.2.2.2.2.2.1, PRI_F hF hm.1.2 hc.2.2.2.2.2.2.2.2.2.2.1, RWS_F hF hm.2 hc.2.2.2.2.2.2.2.2.2.2.2⟩
theorem CR_J {h : aH} {v : Int64} (hc : CR h) : CR (sJ h 201 0 v) := ⟨PT_J hc.1, TS_J hc.2.1, TX_J hc.2.2.1, SHR_J hc.2.2.2.1, MC_J hc.2.2.2.2.1, RK_J hc.2.2.2.2.2.1, RU_J hc.2.2.2.2.2.2.1, EA_J hc.2.2.2.2.2.2.2.1, STA_J hc.2.2.2.2.2.2.2.2.1, SR_J hc.2.2.2.2.2.2.2.2.2.1, PRI_J hc.2.2.2.2.2.2.2.2.2.2.1, RWS_J hc.2.2.2.2.2.2.2.2.2.2.2⟩
noncomputable abbrev PRQ (sh : List (Nat × Nat)) (b : Int) (m : Nat) (as : List Value) (cmp : Bool) : QT := fun rv h1 => ∃ e1 : Int, r32 e1 ∧ rv = some (.int (I e1)) ∧ GD gE gRL sh h1 ∧ CLd SPt 310 m as h1 0 0 (fun rv2 h2 => ∃ e2 : Int, r32 e2 ∧ rv2 = some (.int (I e2)) ∧ (cmp = true → e2 = e1) ∧ INV sh (b + 600) h2 ∧ CR h2)
theorem CLd_mono {d mid : Nat} {as : List Value} {h : aH} {Q Q' : QT} (hc : CLd SPt d mid as h 0 0 Q) (hq : ∀ rv h', Q rv h' → Q' rv h') : CLd SPt d mid as h 0 0 Q' := MONO_CLd SPt_mono d _ _ _ _ _ _ _ hq hc
theorem pr_sign {sh : List (Nat × Nat)} {b : Int} {h : aH} (hI : INV sh b h) (hC : CR h) (hb : b ≤ 320000) {x : Int} (rx : r32 x) : CLd SPt 310 mX10_sign [.ref 0, .int (I x)] h 0 0 (PRQ sh b mX11_sign [.ref 171, .int (I x)] false) := by
  refine OP_le (Nat.le_of_ble_eq_true rfl) (ctX10_sign SPt_mono hI.1 rx) ?_
  rintro v h1 ⟨rfl, hG1, hF1, s1, s2⟩
  have hI1 : INV sh b h1 := INV_F hI hG1 hF1 (by decide +kernel)
  refine ⟨_, w32_r _, by rw [I_w], hI1.1, OP_le (Nat.le_of_ble_eq_true rfl) (ctX11_sign SPt_mono hG1 rx) ?_⟩
  rintro v h2 ⟨rfl, hG2, hF2, t1, t2⟩
  have hI2 : INV sh (b + 600) h2 := (INV_F hI1 hG2 hF2 (by decide +kernel)).mono (by omega)
  have e3 : gi h1 171 17 = gi h 171 17 := FRM_gi hF1 (r := 54) rfl (by decide)
  have e4 : gi h2 1 1 = gi h1 1 1 := FRM_gi hF2 (r := 1) rfl (by decide)
  have ts : gi h 1 1 = gi h 171 17 := hC.2.1
  have e5 : ∀ j, gi h2 2 j = gi h1 2 j := fun j => FRM_gi hF2 (r := 2) rfl (mHas_non (by decide) j)
  have e6 : ∀ j, gi h1 180 j = gi h 180 j := fun j => FRM_gi hF1 (r := 63) rfl (mHas_non (by decide) j)
  have tx : TX h2 := by
    intro j hj
    rw [e4, s1] at hj
    rw [e5, s2, t2, e3, ← ts]
    unfold sgT
    by_cases c : gi h 1 1 ≤ 76 ∧ gi h 1 1 ≤ j ∧ (j : Int) < gi h 1 1 + 4
    · have n0 := gri 0 80 hI.1 (a := 1) (r := 1) (k := 1) rfl rfl
      rw [if_pos c, if_pos c]
    · rw [if_neg c, if_neg c, e6]
      exact hC.2.2.1 j (by split at hj <;> omega)
  exact ⟨_, w32_r _, by rw [I_w], nofun, hI2, ⟨PT_F hF2 (by decide +kernel) (PT_F hF1 (by decide +kernel) hC.1), (by show gi h2 1 1 = gi h2 171 17; rw [e4, s1, t1, e3, ts]), tx, SHR_F hF2 (by decide +kernel) (SHR_F hF1 (by decide +kernel) hC.2.2.2.1), MC_F hF2 (by decide +kernel) (MC_F hF1 (by decide +kernel) hC.2.2.2.2.1), RK_F hF2 (by decide +kernel) (RK_F hF1 (by decide +kernel) hC.2.2.2.2.2.1), RU_F hF2 (by decide +kernel) (RU_F hF1 (by decide +kernel) hC.2.2.2.2.2.2.1), EA_F hF2 (by decide +kernel) (EA_F hF1 (by decide +kernel) hC.2.2.2.2.2.2.2.1), STA_F hF2 (by decide +kernel) (STA_F hF1 (by decide +kernel) hC.2.2.2.2.2.2.2.2.1), SR_F hF2 (by decide +kernel) (SR_F hF1 (by decide +kernel) hC.2.2.2.2.2.2.2.2.2.1), PRI_F hF2 (by decide +kernel) (PRI_F hF1 (by decide +kernel) hC.2.2.2.2.2.2.2.2.2.2.1), RWS_F hF2 (by decide +kernel) (RWS_F hF1 (by decide +kernel) hC.2.2.2.2.2.2.2.2.2.2.2)⟩⟩
theorem pr_end {sh : List (Nat × Nat)} {b : Int} {h : aH} (hI : INV sh b h) (hC : CR h) (hb : b ≤ 320000) {x : Int} (rx : r32 x) : CLd SPt 310 mX10_end [.ref 0, .int (I x)] h 0 0 (PRQ sh b mX11_end [.ref 171, .int (I x)] false) := by
  refine OP_le (Nat.le_of_ble_eq_true rfl) (ctX10_end SPt_mono hI.1 rx) ?_
  rintro v h1 ⟨rfl, hG1, hF1, s1⟩
  have hI1 : INV sh b h1 := INV_F hI hG1 hF1 (by decide +kernel)
  refine ⟨_, w32_r _, by rw [I_w], hI1.1, OP_le (Nat.le_of_ble_eq_true rfl) (ctX11_end SPt_mono hG1 rx) ?_⟩
  rintro v h2 ⟨rfl, hG2, hF2, t1⟩
  have hI2 : INV sh (b + 600) h2 := (INV_F hI1 hG2 hF2 (by decide +kernel)).mono (by omega)
  have e3 : gi h1 171 17 = gi h 171 17 := FRM_gi hF1 (r := 54) rfl (by decide)
  have e4 : gi h2 1 1 = gi h1 1 1 := FRM_gi hF2 (r := 1) rfl (by decide)
  have ts : gi h 1 1 = gi h 171 17 := hC.2.1
  have e5 : ∀ j, gi h2 2 j = gi h 2 j := fun j => (FRM_gi hF2 (r := 2) rfl (mHas_non (by decide) j)).trans (FRM_gi hF1 (r := 2) rfl (mHas_non (by decide) j))
  have e6 : ∀ j, gi h2 180 j = gi h 180 j := fun j => (FRM_gi hF2 (r := 63) rfl (mHas_non (by decide) j)).trans (FRM_gi hF1 (r := 63) rfl (mHas_non (by decide) j))
  have tx : TX h2 := by
    intro j hj
    rw [e4, s1] at hj
    rw [e5, e6]
    exact hC.2.2.1 j (by split at hj <;> omega)
  exact ⟨_, w32_r _, by rw [I_w], nofun, hI2, ⟨PT_F hF2 (by decide +kernel) (PT_F hF1 (by decide +kernel) hC.1), (by show gi h2 1 1 = gi h2 171 17; rw [e4, s1, t1, e3, ts]), tx, SHR_F hF2 (by decide +kernel) (SHR_F hF1 (by decide +kernel) hC.2.2.2.1), MC_F hF2 (by decide +kernel) (MC_F hF1 (by decide +kernel) hC.2.2.2.2.1), RK_F hF2 (by decide +kernel) (RK_F hF1 (by decide +kernel) hC.2.2.2.2.2.1), RU_F hF2 (by decide +kernel) (RU_F hF1 (by decide +kernel) hC.2.2.2.2.2.2.1), EA_F hF2 (by decide +kernel) (EA_F hF1 (by decide +kernel) hC.2.2.2.2.2.2.2.1), STA_F hF2 (by decide +kernel) (STA_F hF1 (by decide +kernel) hC.2.2.2.2.2.2.2.2.1), SR_F hF2 (by decide +kernel) (SR_F hF1 (by decide +kernel) hC.2.2.2.2.2.2.2.2.2.1), PRI_F hF2 (by decide +kernel) (PRI_F hF1 (by decide +kernel) hC.2.2.2.2.2.2.2.2.2.2.1), RWS_F hF2 (by decide +kernel) (RWS_F hF1 (by decide +kernel) hC.2.2.2.2.2.2.2.2.2.2.2)⟩⟩
theorem pr_ship {sh : List (Nat × Nat)} {b : Int} {h : aH} (hI : INV sh b h) (hC : CR h) (hb : b ≤ 320000) : CLd SPt 310 mX10_ship [.ref 0] h 0 0 (PRQ sh b mX11_ship [.ref 171] false) := by
  obtain ⟨s, t, hw, c0, c1, c2, c3⟩ := hC.2.2.2.1
  have h5 : s = 5 ∨ s = 8 := by have := hw.1; omega
  have hL : 2 ≤ gi h s 0 ∧ gi h s 0 ≤ 40 := by rw [c0]; exact gri 2 40 hI.1 (a := 171) (r := 54) (k := 3) rfl rfl
  refine OP_le (Nat.le_of_ble_eq_true rfl) (ctX10_ship SPt_mono hI.1 hC.1 hw) ?_
  rintro v h1 ⟨rfl, hG1, hF1, t1, s1, s2⟩
  have hI1 : INV sh b h1 := INV_F hI hG1 hF1 (by decide +kernel)
  refine ⟨_, w32_r _, by rw [I_w], hI1.1, OP_le (Nat.le_of_ble_eq_true rfl) (ctX11_shipF SPt_mono hI1.1) ?_⟩
  rintro v h2 ⟨hd, hG2, hF2, -, t2⟩
  have hI2 : INV sh (b + 600) h2 := (INV_F hI1 hG2 hF2 (by decide +kernel)).mono (by omega)
  have e17 : gi h1 171 17 = gi h 1 1 := (FRM_gi hF1 (r := 54) rfl (by decide)).trans hC.2.1.symm
  have e180 : gi h1 180 = gi h 180 := funext fun j => FRM_gi hF1 (r := 63) rfl (mHas_non (by decide) j)
  rw [e17, e180, ← txF_eq hC.2.2.1] at hd
  have e4 : gi h2 1 1 = gi h1 1 1 := FRM_gi hF2 (r := 1) rfl (by decide)
  have ev : v = some (.int (I (if (fltF (gi h 1 1) 43 (shF (txF (gi h 2) (min (gi h 1 1) 43))).2.1) = 0 then (((shF (txF (gi h 2) (min (gi h 1 1) 43))).2.2).length : Nat) else (fltF (gi h 1 1) 43 (shF (txF (gi h 2) (min (gi h 1 1) 43))).2.1)))) := by
    rcases hd with ⟨c, e, -⟩ | ⟨c, e, -⟩
    · rw [if_neg (by omega)]; exact e
    · rw [if_pos c]; exact e
  subst ev
  have h5t : t = 5 ∨ t = 8 := by have := hw.1; omega
  have r2 : aR h2 0 2 = aR h1 0 2 := FRM_aR hF2 (r := 0) rfl (by decide)
  have r3 : aR h2 0 3 = aR h1 0 3 := FRM_aR hF2 (r := 0) rfl (by decide)
  have k0 : ∀ {a r k : Nat}, gRL[a]? = some r → r = 5 ∨ r = 6 ∨ r = 7 → gi h2 a k = gi h1 a k := fun hr h9 => FRM_gi hF2 hr (by rcases h9 with rfl | rfl | rfl <;> exact mHas_non (by decide) _)
  have sr : SHR h2 := by
    rcases hd with ⟨c, -, d0, d1, d2, d3⟩ | ⟨c, -, d0, d1, d2, d3⟩
    · obtain ⟨q1, q2, q3⟩ := s1 (by omega)
      have f3 : gi h1 171 3 = gi h 171 3 := FRM_gi hF1 (r := 54) rfl (by decide)
      have f4 : gi h1 171 4 = gi h 171 4 := FRM_gi hF1 (r := 54) rfl (by decide)
      have f5 : gi h1 171 5 = gi h 171 5 := FRM_gi hF1 (r := 54) rfl (by decide)
      refine ⟨s, t, ⟨hw.1, r2.trans q1, r3.trans q2⟩, ?_, ?_, ?_, ?_⟩
      · rw [k0 (ss_r h5).1 (by omega), q3 _ _ (by omega) (by omega), d0, f3]; exact c0
      · rw [k0 (ss_r h5).1 (by omega), q3 _ _ (by omega) (by omega), d1, f4]; exact c1
      · rw [k0 (ss_r h5).1 (by omega), q3 _ _ (by omega) (by omega), d2, f5]; exact c2
      · rw [d1, f4, pstL_eq (h := h) fun j hj => ⟨(k0 (ss_r h5).2.1 (by omega)).trans (q3 _ _ (by omega) (by omega)), (k0 (ss_r h5).2.2 (by omega)).trans (q3 _ _ (by omega) (by omega))⟩, mpL_eq (h := h) fun j hj => ⟨(d3 j).1.trans (FRM_gi hF1 (a := 173) (r := 56) rfl (mHas_non (by decide) j)), (d3 j).2.trans (FRM_gi hF1 (a := 174) (r := 57) rfl (mHas_non (by decide) j))⟩]
        exact c3
    · obtain ⟨q1, q2, q3, q4, q5, q6⟩ := s2 c
      refine ⟨t, s, ⟨by have := hw.1; omega, r2.trans q1, r3.trans q2⟩, ?_, ?_, ?_, ?_⟩
      · rw [k0 (ss_r h5t).1 (by omega), q3, d0]
      · rw [k0 (ss_r h5t).1 (by omega), q4, d1]
      · rw [k0 (ss_r h5t).1 (by omega), q5, d2]
      · rw [d1, Int.toNat_natCast, d3, pstL_eq (h := h1) fun j hj => ⟨k0 (ss_r h5t).2.1 (by omega), k0 (ss_r h5t).2.2 (by omega)⟩]
        exact q6
  have pr1 : PRI h1 := PRI_F hF1 (by decide +kernel) hC.2.2.2.2.2.2.2.2.2.2.1
  have pr9 : PRI h2 := by
    rcases hd with ⟨c, -, d0, d1, d2, d3⟩ | ⟨c, -, d0, d1, d2, d3⟩
    · intro i j a b9
      rw [d1] at b9
      rw [(d3 i).1, (d3 j).1]
      exact pr1 i j a b9
    · exact fun i j a b9 => mpL_pw (by rw [d3]; exact shF_pw _) a (by rw [d1] at b9; omega)
  exact ⟨_, w32_r _, by rw [I_w], nofun, hI2, ⟨PT_F hF2 (by decide +kernel) (PT_F hF1 (by decide +kernel) hC.1), (by show gi h2 1 1 = gi h2 171 17; rw [e4, t1, t2]), (fun j hj => absurd hj (by rw [e4, t1]; omega)), sr, MC_F hF2 (by decide +kernel) (MC_F hF1 (by decide +kernel) hC.2.2.2.2.1), RK_F hF2 (by decide +kernel) (RK_F hF1 (by decide +kernel) hC.2.2.2.2.2.1), RU_F hF2 (by decide +kernel) (RU_F hF1 (by decide +kernel) hC.2.2.2.2.2.2.1), EA_F hF2 (by decide +kernel) (EA_F hF1 (by decide +kernel) hC.2.2.2.2.2.2.2.1), STA_F hF2 (by decide +kernel) (STA_F hF1 (by decide +kernel) hC.2.2.2.2.2.2.2.2.1), SR_F hF2 (by decide +kernel) (SR_F hF1 (by decide +kernel) hC.2.2.2.2.2.2.2.2.2.1), pr9, RWS_F hF2 (by decide +kernel) (RWS_F hF1 (by decide +kernel) hC.2.2.2.2.2.2.2.2.2.2.2)⟩⟩
theorem pr_rocks {sh : List (Nat × Nat)} {b : Int} {h : aH} (hI : INV sh b h) (hC : CR h) (hb : b ≤ 320000) : CLd SPt 310 mX10_rocks [.ref 0] h 0 0 (PRQ sh b mX11_rocks [.ref 171] false) := by
  refine OP_le (Nat.le_of_ble_eq_true rfl) (ctX10_rocks SPt_mono hI.1) ?_
  rintro v h1 ⟨⟨e1, rfl, re1⟩, hG1, hF1, t1, s1, s2, s3⟩
  have hI1 : INV sh b h1 := INV_F hI hG1 hF1 (by decide +kernel)
  refine ⟨_, w32_r _, by rw [I_w], hI1.1, OP_le (Nat.le_of_ble_eq_true rfl) (ctX11_rocksF SPt_mono hI1.1) ?_⟩
  rintro v h2 ⟨hd, hG2, hF2, -, t2⟩
  obtain ⟨e2, rfl⟩ : ∃ e : Int, v = some (.int (I e)) := by rcases hd with ⟨_, e9, _⟩ | ⟨_, e9, _⟩ <;> exact ⟨_, e9⟩
  have hI2 : INV sh (b + 600) h2 := (INV_F hI1 hG2 hF2 (by decide +kernel)).mono (by omega)
  have e17 : gi h1 171 17 = gi h 1 1 := (FRM_gi hF1 (r := 54) rfl (by decide)).trans hC.2.1.symm
  have e180 : gi h1 180 = gi h 180 := funext fun j => FRM_gi hF1 (r := 63) rfl (mHas_non (by decide) j)
  obtain ⟨c1, c2⟩ := hC.2.2.2.2.2.1
  have e6 : gi h1 171 6 = gi h 19 0 := (FRM_gi hF1 (r := 54) rfl (by decide)).trans c1.symm
  rw [e17, e180, ← txF_eq hC.2.2.1, e6] at hd
  have e4 : gi h2 1 1 = gi h1 1 1 := FRM_gi hF2 (r := 1) rfl (by decide)
  have k0 : gi h2 19 0 = gi h1 19 0 := FRM_gi hF2 (r := 13) rfl (by decide)
  have k1 : ∀ j, gi h2 20 j = gi h1 20 j := fun j => FRM_gi hF2 (r := 14) rfl (mHas_non (by decide) j)
  have k2 : ∀ j, gi h2 21 j = gi h1 21 j := fun j => FRM_gi hF2 (r := 15) rfl (mHas_non (by decide) j)
  have k3 : ∀ j, gi h1 175 j = gi h 175 j := fun j => FRM_gi hF1 (r := 58) rfl (mHas_non (by decide) j)
  have k4 : ∀ j, gi h1 176 j = gi h 176 j := fun j => FRM_gi hF1 (r := 59) rfl (mHas_non (by decide) j)
  have gc := gri 0 16 hI.1 (a := 19) (r := 13) (k := 0) rfl rfl
  have rk : RK h2 := by
    rcases hd with ⟨c, -, d0, d1⟩ | ⟨c, -, d0, d1⟩
    · have q := s2 (by omega)
      refine ⟨by rw [k0, q, d0], fun j hj => ?_⟩
      rw [k0, q] at hj
      rw [k1, k2, (s3 j hj).1, (s3 j hj).2, (d1 j).1, (d1 j).2, k3, k4]
      exact c2 j hj
    · obtain ⟨q1, q2⟩ := s1 c
      refine ⟨by rw [k0, q1, d0], fun j hj => ?_⟩
      rw [k0, q1] at hj
      rw [k1, k2, (d1 j).1, (d1 j).2, k3, k4]
      by_cases z : gi h 19 0 ≤ (j : Int)
      · rw [if_pos ⟨z, hj⟩, if_pos ⟨z, hj⟩]
        have w := rkL_get q2 (j := j - (gi h 19 0).toNat) (by omega)
        rwa [show (gi h 19 0).toNat + (j - (gi h 19 0).toNat) = j by omega] at w
      · rw [if_neg (fun y => z y.1), if_neg (fun y => z y.1), (s3 j (by omega)).1, (s3 j (by omega)).2]
        exact c2 j (by omega)
  exact ⟨_, w32_r _, by rw [I_w], nofun, hI2, ⟨PT_F hF2 (by decide +kernel) (PT_F hF1 (by decide +kernel) hC.1), (by show gi h2 1 1 = gi h2 171 17; rw [e4, t1, t2]), (fun j hj => absurd hj (by rw [e4, t1]; omega)), SHR_F hF2 (by decide +kernel) (SHR_F hF1 (by decide +kernel) hC.2.2.2.1), MC_F hF2 (by decide +kernel) (MC_F hF1 (by decide +kernel) hC.2.2.2.2.1), rk, RU_F hF2 (by decide +kernel) (RU_F hF1 (by decide +kernel) hC.2.2.2.2.2.2.1), EA_F hF2 (by decide +kernel) (EA_F hF1 (by decide +kernel) hC.2.2.2.2.2.2.2.1), STA_F hF2 (by decide +kernel) (STA_F hF1 (by decide +kernel) hC.2.2.2.2.2.2.2.2.1), SR_F hF2 (by decide +kernel) (SR_F hF1 (by decide +kernel) hC.2.2.2.2.2.2.2.2.2.1), PRI_F hF2 (by decide +kernel) (PRI_F hF1 (by decide +kernel) hC.2.2.2.2.2.2.2.2.2.2.1), RWS_F hF2 (by decide +kernel) (RWS_F hF1 (by decide +kernel) hC.2.2.2.2.2.2.2.2.2.2.2)⟩⟩
theorem pr_messes {sh : List (Nat × Nat)} {b : Int} {h : aH} (hI : INV sh b h) (hC : CR h) (hb : b ≤ 320000) : CLd SPt 310 mX10_messes [.ref 0] h 0 0 (PRQ sh b mX11_messes [.ref 171] false) := by
  obtain ⟨sr, pr, kr, cr⟩ := hC.2.2.2.2.2.2.2.2.1
  have hw := WW_of hI.2.2.2.1
  have mc : gi h 0 9 = gi h 171 7 := hC.2.2.2.2.1
  have g9 := gri 0 8 hI.1 (a := 0) (r := 0) (k := 9) rfl rfl
  refine OP_le (Nat.le_of_ble_eq_true rfl) (ctX10_messes SPt_mono hI.1 hI.2.1) ?_
  rintro v h1 ⟨rfl, hG1, hF1, t1, s1, s2, s3, s4, s5⟩
  have hI1 : INV sh b h1 := INV_F hI hG1 hF1 (by decide +kernel)
  refine ⟨_, w32_r _, by rw [I_w], hI1.1, OP_le (Nat.le_of_ble_eq_true rfl) (ctX11_messesF SPt_mono hI1.1 hI1.2.2.1 hI1.2.2.2) ?_⟩
  rintro v h2 ⟨hd, hG2, hF2, -, t2, hu2, aw2⟩
  have hI2 : INV sh (b + 600) h2 := ⟨hG2, xOk_ok (by decide +kernel) h1 h2 hF2 hI1.2.1, hu2, aw2.mono (by omega)⟩
  have e17 : gi h1 171 17 = gi h 1 1 := (FRM_gi hF1 (r := 54) rfl (by decide)).trans hC.2.1.symm
  have e180 : gi h1 180 = gi h 180 := funext fun j => FRM_gi hF1 (r := 63) rfl (mHas_non (by decide) j)
  have e7 : gi h1 171 7 = gi h 0 9 := (FRM_gi hF1 (r := 54) rfl (by decide)).trans mc.symm
  have e178 : RC h1 178 0 = RC h 178 0 := RC_F hF1 (r := 61) rfl (by decide) 0
  have eU : UL h1 = UL h := UL_F hF1 (by decide) (by decide)
  have e177 : ∀ j, gi h1 177 j = gi h 177 j := fun j => FRM_gi hF1 (r := 60) rfl (mHas_non (by decide) j)
  have e29 : gi h1 171 29 = gi h 171 29 := FRM_gi hF1 (r := 54) rfl (by decide)
  have e8 : gi h1 171 8 = gi h 171 8 := FRM_gi hF1 (r := 54) rfl (by decide)
  rw [e17, e180, ← txF_eq hC.2.2.1, e7, e178, e29, e8] at hd
  simp only [e177] at hd
  have e4 : gi h2 1 1 = gi h1 1 1 := FRM_gi hF2 (r := 1) rfl (by decide)
  have e9 : gi h2 0 9 = gi h1 0 9 := FRM_gi hF2 (r := 0) rfl (by decide)
  have g91 := gri 0 8 hG1 (a := 0) (r := 0) (k := 9) rfl rfl
  obtain ⟨R, hR⟩ : ∃ R, (msR (txF (gi h 2) (min (gi h 1 1) 39)) (gi h 1 1) (gi h 0 9)) = R := ⟨_, rfl⟩
  rw [hR] at hd s1 s2 s4 s5
  obtain ⟨n, hn⟩ : ∃ n, gi h 1 1 = n := ⟨_, rfl⟩
  rw [hn] at hd s1 s2 s4 s5
  obtain ⟨j0, j1, j2, j3, j4, j5, j6⟩ := STR_to hI.1 sr
  have i23 : ∀ k, gi h1 23 k = gi h 23 k := fun k => FRM_gi hF1 (r := 17) rfl (mHas_non (by decide) k)
  have iO : kO h1 23 (gi h1 23 4).toNat = kO h 23 (gi h 23 4).toNat := by rw [i23]; exact kO_eq fun j _ => ⟨FRM_gi hF1 (r := 18) rfl (mHas_non (by decide) j), FRM_gi hF1 (r := 19) rfl (mHas_non (by decide) j)⟩
  have f36 : ∀ j, gi h2 36 j = gi h1 36 j := fun j => FRM_gi hF2 (r := 30) rfl (mHas_non (by decide) j)
  have fk : ∀ i : Nat, i < 3 → kS h2 (112 + 5 * i) = kS h (112 + 5 * i) := fun i hi => (kSk_F hF2 (by decide) (by decide) (by decide) (by decide) (by decide) hi).trans (kSk_F hF1 (by decide) (by decide) (by decide) (by decide) (by decide) hi)
  have f200 : ∀ o, RC h2 200 o = RC h 200 o := fun o => (RC_F hF2 (r := 83) rfl (by decide) o).trans (RC_F hF1 (r := 83) rfl (by decide) o)
  have f198 : ∀ j, gi h2 198 j = gi h 198 j := fun j => (FRM_gi hF2 (r := 81) rfl (mHas_non (by decide) j)).trans (FRM_gi hF1 (r := 81) rfl (mHas_non (by decide) j))
  have f199 : ∀ j, gi h2 199 j = gi h 199 j := fun j => (FRM_gi hF2 (r := 82) rfl (mHas_non (by decide) j)).trans (FRM_gi hF1 (r := 82) rfl (mHas_non (by decide) j))
  have f186 : ∀ o, RC h2 186 o = RC h 186 o := fun o => (RC_F hF2 (r := 69) rfl (by decide) o).trans (RC_F hF1 (r := 69) rfl (by decide) o)
  have f22 : ∀ j, gi h2 22 j = gi h1 22 j := fun j => FRM_gi hF2 (r := 16) rfl (mHas_non (by decide) j)
  have stS : ∀ (w : WS) (ms : Int), gi h1 0 9 = ms → OKW w → w.1 = (vw (RC h 178 0)).1 → w.2.1 = (vw (RC h 178 0)).2.1 → w.2.2.1 = (vw (RC h 178 0)).2.2.1 → w.2.2.2.1 = (vw (RC h 178 0)).2.2.2.1 → w.2.2.2.2.1 = (vw (RC h 178 0)).2.2.2.2.1 → (∀ m : Nat, (m : Int) < ms → gi h1 26 m = w.2.2.2.2.2.1 m ∧ gi h1 27 m = w.2.2.2.2.2.2 m) → STR (gi h2 0 9) (kS h2 23) w := fun w ms q9 ok q0 q1 q2 q3 q4 q5 => by
    rw [e9, q9, kS23_F hF2 (by decide)]
    exact STR_of (by omega) ok (by rw [i23, q0]; exact j0) (by rw [i23, q1]; exact j1) (by rw [i23, q2]; exact j2) (by rw [i23, q3]; exact j3) (by rw [iO, q4]; exact j5) q5
  have same : gi h1 0 9 = gi h 0 9 → gi h1 33 2 = gi h 33 2 → (∀ k, gi h1 36 k = gi h 36 k) → gi h2 171 29 = gi h 171 29 → gi h2 171 8 = gi h 171 8 → PLR (gi h2 0 9) (PL h2) (UL h2) ∧ KPR h2 ∧ CHR h2 := fun y9 y33 y36 y29 y8 => by
    refine ⟨?_, fun i hi => ?_, ⟨by rw [y8, e9, y9]; exact cr.1, fun i hi z => ?_⟩⟩
    · rw [e9, y9, PL_F hF2 (by decide), PL_G hF1 (by decide) (FRM_gi hF1 (r := 27) rfl (by decide)) y33, UL_eq (h := h) y29 fun o _ => f186 _]
      exact pr
    · rw [f36, y36, f198, f199, y8, e9, y9, fk i hi, f200]
      exact kr i hi
    · rw [f198] at z
      rw [f199, y8]
      exact cr.2 i hi z
  obtain ⟨e2v, rfl, ea, st, mcn, ean⟩ : ∃ e2 : Int, v = some (.int (I e2)) ∧ e2 = (if fltF n 39 R.1 = 0 then (R.2.length : Int) else fltF n 39 R.1) ∧ STA h2 ∧ gi h2 0 9 = gi h2 171 7 ∧ ∀ m : Nat, (m : Int) < gi h2 0 9 → gi h2 22 m = gi h2 177 m := by
    rcases hd with ⟨c, rfl, d0, d1, d2, d3, d4⟩ | ⟨c, rfl, d0, d1, d2, d3, d4⟩
    · rw [if_neg (by omega)] at s1
      obtain ⟨y33, y36⟩ := s5 (fun z => by have := z.1; omega)
      obtain ⟨z1, z2, z3⟩ := same s1 y33 y36 d3 d4
      refine ⟨_, rfl, (if_neg (by omega)).symm, ⟨by rw [d0]; exact stS _ _ s1 sr.1 rfl rfl rfl rfl rfl (fun m hm => ⟨(s3 m hm).1.trans (j6 m (by omega) hm).1, (s3 m hm).2.1.trans (j6 m (by omega) hm).2⟩), z1, z2, z3⟩, by rw [e9, s1, d1], fun m hm => ?_⟩
      rw [e9, s1] at hm
      rw [f22, (s3 m hm).2.2, d2]
      exact hC.2.2.2.2.2.2.2.1 m hm
    · rw [if_pos c] at s1
      obtain ⟨y1, y2⟩ := s2 c
      have hm8 : ∀ m : Nat, (m : Int) < gi h 0 9 + (R.2.length : Nat) → ¬ (m : Int) < gi h 0 9 → gi h1 26 m = (R.2.getD (m - (gi h 0 9).toNat) (0, 0)).1 ∧ gi h1 22 m = (R.2.getD (m - (gi h 0 9).toNat) (0, 0)).2 ∧ gi h1 27 m = 0 := fun m h1m h2m => by
        have z := mkL_get y1 (j := m - (gi h 0 9).toNat) (by omega)
        have z2 := y2 (m - (gi h 0 9).toNat) (by omega)
        rw [show (gi h 0 9).toNat + (m - (gi h 0 9).toNat) = m by omega] at z z2
        exact ⟨z.1, z.2, z2⟩
      have stN : STR (gi h2 0 9) (kS h2 23) (vw (RC h2 178 0)) := by
        rw [d0]
        refine stS _ _ s1 (OKW_eq sr.1 rfl rfl rfl) rfl rfl rfl rfl rfl fun m hm => ?_
        show gi h1 26 m = (if gi h 0 9 ≤ (m : Int) ∧ (m : Int) < gi h 0 9 + (R.2.length : Nat) then (R.2.getD (m - (gi h 0 9).toNat) (0, 0)).1 else (vw (RC h 178 0)).2.2.2.2.2.1 m) ∧ gi h1 27 m = if gi h 0 9 ≤ (m : Int) ∧ (m : Int) < gi h 0 9 + (R.2.length : Nat) then 0 else (vw (RC h 178 0)).2.2.2.2.2.2 m
        by_cases q : (m : Int) < gi h 0 9
        · rw [if_neg (by omega), if_neg (by omega)]
          exact ⟨(s3 m q).1.trans (j6 m (by omega) q).1, (s3 m q).2.1.trans (j6 m (by omega) q).2⟩
        · rw [if_pos (by omega), if_pos (by omega)]
          exact ⟨(hm8 m hm q).1, (hm8 m hm q).2.2⟩
      have rest : PLR (gi h2 0 9) (PL h2) (UL h2) ∧ KPR h2 ∧ CHR h2 := by
        by_cases z : R.2 = []
        · obtain ⟨y33, y36⟩ := s5 (fun y => y.2 z)
          have l0 : R.2.length = 0 := by rw [z]; rfl
          obtain ⟨y29, y8⟩ := d3 l0
          exact same (by rw [s1, l0]; exact Int.add_zero _) y33 y36 y29 y8
        · have lp := List.length_pos_iff.mpr z
          obtain ⟨y33, y36⟩ := s4 ⟨c, z⟩
          obtain ⟨y29, y8⟩ := d4 lp
          have c1 := cr.1
          rw [w32_e (by omega)] at y8
          refine ⟨?_, fun i hi => ⟨⟨fun y => ?_, fun y => ?_⟩, fun y => ?_⟩, ⟨by rw [y8, e9, s1]; omega, fun i hi y => ?_⟩⟩
          · rw [PL_F hF2 (by decide), PL_nil y33, UL_nil y29]
            trivial
          · rw [f36, y36 i hi] at y; omega
          · rw [f198, f199, y8] at y
            have := cr.2 i hi y.1
            omega
          · rw [f36, y36 i hi] at y; omega
          · rw [f198] at y
            rw [f199, y8]
            have := cr.2 i hi y
            omega
      refine ⟨_, rfl, (if_pos c).symm, ⟨stN, rest⟩, by rw [e9, s1, d1], fun m hm => ?_⟩
      rw [e9, s1] at hm
      rw [f22, d2 m (by omega)]
      by_cases q : (m : Int) < gi h 0 9
      · rw [if_neg (by omega), (s3 m q).2.2]
        exact hC.2.2.2.2.2.2.2.1 m q
      · rw [if_pos (by omega)]
        exact (hm8 m hm q).2.1
  exact ⟨_, w32_r _, by rw [I_w], nofun, hI2, ⟨PT_F hF2 (by decide +kernel) (PT_F hF1 (by decide +kernel) hC.1), (by show gi h2 1 1 = gi h2 171 17; rw [e4, t1, t2]), (fun j hj => absurd hj (by rw [e4, t1]; omega)), SHR_F hF2 (by decide +kernel) (SHR_F hF1 (by decide +kernel) hC.2.2.2.1), mcn, RK_F hF2 (by decide +kernel) (RK_F hF1 (by decide +kernel) hC.2.2.2.2.2.1), RU_F hF2 (by decide +kernel) (RU_F hF1 (by decide +kernel) hC.2.2.2.2.2.2.1), ean, st, SR_F hF2 (by decide +kernel) (SR_F hF1 (by decide +kernel) hC.2.2.2.2.2.2.2.2.2.1), PRI_F hF2 (by decide +kernel) (PRI_F hF1 (by decide +kernel) hC.2.2.2.2.2.2.2.2.2.2.1), RWS_F hF2 (by decide +kernel) (RWS_F hF1 (by decide +kernel) hC.2.2.2.2.2.2.2.2.2.2.2)⟩⟩
theorem pr_rule {sh : List (Nat × Nat)} {b : Int} {h : aH} (hI : INV sh b h) (hC : CR h) (hb : b ≤ 320000) : CLd SPt 310 mX10_rule [.ref 0] h 0 0 (PRQ sh b mX11_rule [.ref 171] false) := by
  obtain ⟨u, v0, hw, r0, r1, r2a, r3a⟩ := hC.2.2.2.2.2.2.1
  have gs := gri 0 80 hI.1 (a := 1) (r := 1) (k := 1) rfl rfl
  have h5u : u = 11 ∨ u = 14 := by have := hw.1; omega
  have h5v : v0 = 11 ∨ v0 = 14 := by have := hw.1; omega
  refine OP_le (Nat.le_of_ble_eq_true rfl) (ctX10_ruleF SPt_mono hI.1 hC.1 hw) ?_
  rintro v h1 ⟨hd, hG1, hF1, t1⟩
  have hI1 : INV sh b h1 := INV_F hI hG1 hF1 (by decide +kernel)
  obtain ⟨e1, rfl, re1, f0, f1⟩ := rule_fit gs hd
  refine ⟨_, w32_r _, by rw [I_w], hI1.1, OP_le (Nat.le_of_ble_eq_true rfl) (ctX11_ruleG SPt_mono hI1.1 hI1.2.1) ?_⟩
  rintro v h2 ⟨he, hG2, hF2, -, t2, hX2⟩
  have hI2 : INV sh (b + 600) h2 := ⟨hG2, hX2, by rw [FRM_gi hF2 (a := 171) (r := 54) (k := 29) rfl (by decide)]; exact hI1.2.2.1, (AW_F hF2 (by decide +kernel) hI1.2.2.2).mono (by omega)⟩
  have e17 : gi h1 171 17 = gi h 1 1 := (FRM_gi hF1 (r := 54) rfl (by decide)).trans hC.2.1.symm
  have e180 : gi h1 180 = gi h 180 := funext fun j => FRM_gi hF1 (r := 63) rfl (mHas_non (by decide) j)
  rw [e17, e180, ← txF_eq hC.2.2.1] at he
  have e4 : gi h2 1 1 = gi h1 1 1 := FRM_gi hF2 (r := 1) rfl (by decide)
  have h255 : ∀ a, (txF (gi h 2) (min (gi h 1 1) 40)) a ≤ 255 := fun a => by
    rw [txF_eq hC.2.2.1]
    unfold txF
    split
    · exact (grn 0 255 hI.1 (a := 180) (r := 63) rfl rfl (k := a.toNat) (by omega)).2
    · omega
  have r2 : aR h2 0 4 = aR h1 0 4 := FRM_aR hF2 (r := 0) rfl (by decide)
  have r3 : aR h2 0 5 = aR h1 0 5 := FRM_aR hF2 (r := 0) rfl (by decide)
  have k0 : ∀ {a k : Nat}, gRL[a]? = some 8 ∨ gRL[a]? = some 9 → gi h2 a k = gi h1 a k := fun hr => by
    rcases hr with hr | hr
    · exact FRM_gi hF2 hr (mHas_non (by decide) _)
    · exact FRM_gi hF2 hr (mHas_non (by decide) _)
  obtain ⟨e2, rfl, e12, ru⟩ : ∃ e2 : Int, v = some (.int (I e2)) ∧ e2 = e1 ∧ RU h2 := by
    rcases he with ⟨n0, rfl, c25⟩ | ⟨n0, ok, z, L, hpr, hz, ⟨fn, rfl, c25, c182⟩ | ⟨fn, okt, rfl, c25, mp⟩⟩
    · obtain ⟨y1, y2, y3, y4⟩ := f0 n0
      have n0u : gi h2 u 1 = 0 := by rw [k0 (Or.inl (su_r h5u).1), y4]
      refine ⟨0, rfl, y1.symm, u, v0, ⟨hw.1, r2.trans y2, r3.trans y3⟩, by rw [n0u, c25], ?_, ?_, fun z => absurd z (by omega)⟩
      · rw [n0u, c25]
        rfl
      · rw [n0u]
        exact fun x hx => absurd hx List.not_mem_nil
    · obtain ⟨y1, y2, -⟩ := f1 n0 h255 ok z L hpr hz
      obtain ⟨y3, y4, y5, y6⟩ := y2 fn
      have g25 : gi h1 171 25 = gi h 171 25 := FRM_gi hF1 (r := 54) rfl (by decide)
      have g182 : gi h1 182 = gi h 182 := funext fun j => FRM_gi hF1 (r := 65) rfl (mHas_non (by decide) j)
      have nu : gi h2 u 1 = gi h u 1 := by rw [k0 (Or.inl (su_r h5u).1), y5]
      have nl : cdL h2 u (gi h2 u 1).toNat = cdL h u (gi h u 1).toNat := by rw [nu]; exact cdL_e fun j hj => (k0 (Or.inr (su_r h5u).2)).trans (y6 j)
      refine ⟨_, rfl, y1.symm, u, v0, ⟨hw.1, r2.trans y3, r3.trans y4⟩, by rw [nu, c25, g25]; exact r0, ?_, by rw [nl]; exact r2a, by rw [nl, nu]; exact r3a⟩
      rw [nl, c25, g25, show gi h2 182 = gi h 182 from (funext c182).trans g182]
      exact r1
    · obtain ⟨y1, -, y2⟩ := f1 n0 h255 ok z L hpr hz
      obtain ⟨y3, y4, y5⟩ := y2 fn
      have yl : cdL h2 v0 (gi h2 v0 1).toNat = L := by rw [k0 (Or.inl (su_r h5v).1), cdL_e (h := h1) fun j hj => k0 (Or.inr (su_r h5v).2)]; exact y5
      have yn : (gi h2 v0 1).toNat = L.length := by
        have := congrArg List.length yl
        unfold cdL at this
        rw [List.length_map, List.length_range] at this
        exact this
      have gp := gri 0 40 hG2 (a := v0) (r := 8) (k := 1) (su_r h5v).1 rfl
      refine ⟨0, rfl, by rw [y1, fn], v0, u, ⟨by have := hw.1; omega, r2.trans y3, r3.trans y4⟩, by rw [c25]; omega, ?_, by rw [yl]; exact pr_cd hpr okt, fun _ => by rw [yl]; exact ((pr_wl hpr okt).1 (by omega)).1⟩
      rw [yl, c25]
      exact mp.symm
  exact ⟨_, w32_r _, by rw [I_w], nofun, hI2, ⟨PT_F hF2 (by decide +kernel) (PT_F hF1 (by decide +kernel) hC.1), (by show gi h2 1 1 = gi h2 171 17; rw [e4, t1, t2]), (fun j hj => absurd hj (by rw [e4, t1]; omega)), SHR_F hF2 (by decide +kernel) (SHR_F hF1 (by decide +kernel) hC.2.2.2.1), MC_F hF2 (by decide +kernel) (MC_F hF1 (by decide +kernel) hC.2.2.2.2.1), RK_F hF2 (by decide +kernel) (RK_F hF1 (by decide +kernel) hC.2.2.2.2.2.1), ru, EA_F hF2 (by decide +kernel) (EA_F hF1 (by decide +kernel) hC.2.2.2.2.2.2.2.1), STA_F hF2 (by decide +kernel) (STA_F hF1 (by decide +kernel) hC.2.2.2.2.2.2.2.2.1), SR_F hF2 (by decide +kernel) (SR_F hF1 (by decide +kernel) hC.2.2.2.2.2.2.2.2.2.1), PRI_F hF2 (by decide +kernel) (PRI_F hF1 (by decide +kernel) hC.2.2.2.2.2.2.2.2.2.2.1), RWS_F hF2 (by decide +kernel) (RWS_F hF1 (by decide +kernel) hC.2.2.2.2.2.2.2.2.2.2.2)⟩⟩
theorem pr_sheet {sh : List (Nat × Nat)} {b : Int} {h : aH} (hI : INV sh b h) (hC : CR h) (hb : b ≤ 320000) {x y z u : Int} (rx : r32 x) (ry : r32 y) (rz : r32 z) (ru : r32 u) : CLd SPt 310 mX10_sheet [.ref 0, .int (I x), .int (I y), .int (I z), .int (I u)] h 0 0 (PRQ sh b mX11_sheet [.ref 171, .int (I x), .int (I y), .int (I z), .int (I u)] false) := by
  refine OP_le (Nat.le_of_ble_eq_true rfl) (ctX10_sheetF SPt_mono hI.1 rx ry rz ru) ?_
  rintro v h1 ⟨rfl, hG1, hF1, s1⟩
  have hI1 : INV sh b h1 := INV_F hI hG1 hF1 (by decide +kernel)
  refine ⟨_, w32_r _, by rw [I_w], hI1.1, OP_le (Nat.le_of_ble_eq_true rfl) (ctX11_sheetF SPt_mono hI1.1 rx ry rz ru) ?_⟩
  rintro v h2 ⟨rfl, hG2, hF2, t1⟩
  have hI2 : INV sh (b + 600) h2 := (INV_F hI1 hG2 hF2 (by decide +kernel)).mono (by omega)
  have e7 : gi h1 171 7 = gi h 0 9 := (FRM_gi hF1 (r := 54) rfl (by decide)).trans hC.2.2.2.2.1.symm
  have ean : EA h2 := by
    intro m hm
    have e9 : gi h2 0 9 = gi h 0 9 := (FRM_gi hF2 (r := 0) rfl (by decide)).trans (FRM_gi hF1 (r := 0) rfl (by decide))
    rw [e9] at hm
    rw [FRM_gi hF2 (a := 22) (r := 16) rfl (mHas_non (by decide) m), s1 m, t1 m, e7, FRM_gi hF1 (a := 177) (r := 60) rfl (mHas_non (by decide) m)]
    by_cases q : ((0 ≤ x ∧ x ≤ 3) ∧ y ≤ 8 ∧ ¬ (x ≠ 3 ∧ y < 0)) ∧ (m : Int) < gi h 0 9
    · rw [if_pos q, if_pos q]
    · rw [if_neg q, if_neg q]
      exact hC.2.2.2.2.2.2.2.1 m hm
  exact ⟨_, w32_r _, by rw [I_w], nofun, hI2, ⟨PT_F hF2 (by decide +kernel) (PT_F hF1 (by decide +kernel) hC.1), TS_F hF2 (by decide +kernel) (TS_F hF1 (by decide +kernel) hC.2.1), TX_F hF2 (by decide +kernel) (TX_F hF1 (by decide +kernel) hC.2.2.1), SHR_F hF2 (by decide +kernel) (SHR_F hF1 (by decide +kernel) hC.2.2.2.1), MC_F hF2 (by decide +kernel) (MC_F hF1 (by decide +kernel) hC.2.2.2.2.1), RK_F hF2 (by decide +kernel) (RK_F hF1 (by decide +kernel) hC.2.2.2.2.2.1), RU_F hF2 (by decide +kernel) (RU_F hF1 (by decide +kernel) hC.2.2.2.2.2.2.1), ean, STA_F hF2 (by decide +kernel) (STA_F hF1 (by decide +kernel) hC.2.2.2.2.2.2.2.2.1), SR_F hF2 (by decide +kernel) (SR_F hF1 (by decide +kernel) hC.2.2.2.2.2.2.2.2.2.1), PRI_F hF2 (by decide +kernel) (PRI_F hF1 (by decide +kernel) hC.2.2.2.2.2.2.2.2.2.2.1), RWS_F hF2 (by decide +kernel) (RWS_F hF1 (by decide +kernel) hC.2.2.2.2.2.2.2.2.2.2.2)⟩⟩
theorem pr_delay {sh : List (Nat × Nat)} {b : Int} {h : aH} (hI : INV sh b h) (hC : CR h) (hb : b ≤ 320000) : CLd SPt 310 mX10_delay [.ref 0] h 0 0 (PRQ sh b mX11_delay [.ref 171] false) := by
  refine CLd_mono (loX10_delay hI hb ) ?_
  rintro v h1 ⟨⟨e1, rfl⟩, hI1, hF1⟩
  refine ⟨w32 e1, w32_r _, by rw [I_w], hI1.1, CLd_mono (loX11_delay hI1 hb ) ?_⟩
  rintro v h2 ⟨⟨e2, rfl⟩, hI2, hF2⟩
  exact ⟨w32 e2, w32_r _, by rw [I_w], nofun, hI2, CR_F hF2 (by decide +kernel) (CR_F hF1 (by decide +kernel) hC)⟩
theorem pr_order {sh : List (Nat × Nat)} {b : Int} {h : aH} (hI : INV sh b h) (hC : CR h) (hb : b ≤ 320000) {x : Int} (rx : r32 x) : CLd SPt 310 mX10_order [.ref 0, .int (I x)] h 0 0 (PRQ sh b mX11_order [.ref 171, .int (I x)] false) := by
  obtain ⟨sr, pr, kr, cr⟩ := hC.2.2.2.2.2.2.2.2.1
  have hw := WW_of hI.2.2.2.1
  have mc : gi h 0 9 = gi h 171 7 := hC.2.2.2.2.1
  have g9 := gri 0 8 hI.1 (a := 0) (r := 0) (k := 9) rfl rfl
  obtain ⟨s, t, hsw, c0, c1, c2, c3⟩ := hC.2.2.2.1
  obtain ⟨u, v0, hlw, r0, r1, r2, r3⟩ := hC.2.2.2.2.2.2.1
  have hD : DR h s u := DR_of hsw c0 c1 c2 hlw r0 r1 r2 r3
  refine OP_le (Nat.le_of_ble_eq_true rfl) (ctX10_orderF SPt_mono hI.1 hC.1 hI.2.1 hD (b := b) (w := (vw (RC h 178 0))) sr hw (by omega) rx) ?_
  rintro v h1 ⟨hd, hG1, hF1⟩
  have hI1 : INV sh b h1 := INV_F hI hG1 hF1 (by decide +kernel)
  obtain ⟨e1v, rfl⟩ : ∃ e : Int, v = some (.int (I e)) := by rcases hd with ⟨-, e, -⟩ | ⟨-, e, -⟩ <;> exact ⟨_, e⟩
  refine ⟨_, w32_r _, by rw [I_w], hI1.1, OP_le (Nat.le_of_ble_eq_true rfl) (ctX11_orderF SPt_mono hI1.1 hI1.2.1 hI1.2.2.1 rx hI1.2.2.2 (by omega)) ?_⟩
  rintro v h2 ⟨he, hG2, hF2, -, hu2, aw2⟩
  have hI2 : INV sh (b + 600) h2 := ⟨hG2, xOk_ok (by decide +kernel) h1 h2 hF2 hI1.2.1, hu2, aw2.mono (by omega)⟩
  have e178 : RC h1 178 0 = RC h 178 0 := RC_F hF1 (r := 61) rfl (by decide) 0
  have eU : UL h1 = UL h := UL_F hF1 (by decide) (by decide)
  have eD : dlA h1 = dlA h := funext fun z => dlA_F hF1 (by decide) z
  have e5 : gi h1 171 5 = gi h 171 5 := FRM_gi hF1 (r := 54) rfl (by decide)
  have e1780 : gi h1 178 0 = (vw (RC h 178 0)).1 := (RC_0 (a := 178) (k := 0) (by omega)).symm.trans (congrFun e178 0)
  rw [e1780, e178, eU, eD, e5] at he
  obtain ⟨e2v, rfl, ea, st⟩ : ∃ e2 : Int, v = some (.int (I e2)) ∧ w32 e2 = w32 e1v ∧ STA h2 := by
    rcases he with ⟨⟨c, rfl⟩, s1, s2⟩ | ⟨⟨c, rfl⟩, s1, s2⟩
    · rcases hd with ⟨d, ev, d1⟩ | ⟨d, ev, d1, d2⟩
      · exact ⟨_, rfl, (w32_of ev).symm, STA_of hF1 hF2 (by decide +kernel) (by decide +kernel) kr cr (by rw [s1, d1]; exact sr) (by rw [s2, d1]; exact pr)⟩
      · exact absurd d c
    · rcases hd with ⟨d, ev, d1⟩ | ⟨d, ev, d1, d2⟩
      · exact absurd c d
      · exact ⟨_, rfl, (w32_of ev).symm, STA_of hF1 hF2 (by decide +kernel) (by decide +kernel) kr cr (by rw [s1]; exact d1) (by rw [s2, d2]; exact PLR_push pr sr)⟩
  exact ⟨_, w32_r _, by rw [I_w], nofun, hI2, ⟨PT_F hF2 (by decide +kernel) (PT_F hF1 (by decide +kernel) hC.1), TS_F hF2 (by decide +kernel) (TS_F hF1 (by decide +kernel) hC.2.1), TX_F hF2 (by decide +kernel) (TX_F hF1 (by decide +kernel) hC.2.2.1), SHR_F hF2 (by decide +kernel) (SHR_F hF1 (by decide +kernel) hC.2.2.2.1), MC_F hF2 (by decide +kernel) (MC_F hF1 (by decide +kernel) hC.2.2.2.2.1), RK_F hF2 (by decide +kernel) (RK_F hF1 (by decide +kernel) hC.2.2.2.2.2.1), RU_F hF2 (by decide +kernel) (RU_F hF1 (by decide +kernel) hC.2.2.2.2.2.2.1), EA_F hF2 (by decide +kernel) (EA_F hF1 (by decide +kernel) hC.2.2.2.2.2.2.2.1), st, SR_F hF2 (by decide +kernel) (SR_F hF1 (by decide +kernel) hC.2.2.2.2.2.2.2.2.2.1), PRI_F hF2 (by decide +kernel) (PRI_F hF1 (by decide +kernel) hC.2.2.2.2.2.2.2.2.2.2.1), RWS_F hF2 (by decide +kernel) (RWS_F hF1 (by decide +kernel) hC.2.2.2.2.2.2.2.2.2.2.2)⟩⟩
theorem pr_pass {sh : List (Nat × Nat)} {b : Int} {h : aH} (hI : INV sh b h) (hC : CR h) (hb : b ≤ 320000) {x y z : Int} (rx : r32 x) (ry : r32 y) (rz : r32 z) : CLd SPt 310 mX10_pass [.ref 0, .int (I x), .int (I y), .int (I z)] h 0 0 (PRQ sh b mX11_pass [.ref 171, .int (I x), .int (I y), .int (I z)] false) := by
  obtain ⟨sr, pr, kr, cr⟩ := hC.2.2.2.2.2.2.2.2.1
  have hw := WW_of hI.2.2.2.1
  have mc : gi h 0 9 = gi h 171 7 := hC.2.2.2.2.1
  have g9 := gri 0 8 hI.1 (a := 0) (r := 0) (k := 9) rfl rfl
  refine OP_le (Nat.le_of_ble_eq_true rfl) (ctX10_passF SPt_mono hI.1 hC.1 (b := b) (w := (vw (RC h 178 0))) sr hw (by omega) rx ry rz) ?_
  rintro v h1 ⟨hd, hG1, hF1⟩
  have hI1 : INV sh b h1 := INV_F hI hG1 hF1 (by decide +kernel)
  obtain ⟨e1v, rfl⟩ : ∃ e : Int, v = some (.int (I e)) := by rcases hd with ⟨-, e, -⟩ | ⟨-, e, -⟩ <;> exact ⟨_, e⟩
  refine ⟨_, w32_r _, by rw [I_w], hI1.1, OP_le (Nat.le_of_ble_eq_true rfl) (ctX11_passF SPt_mono hI1.1 hI1.2.1 hI1.2.2.1 rx ry rz hI1.2.2.2 (by omega)) ?_⟩
  rintro v h2 ⟨he, hG2, hF2, -, hu2, aw2⟩
  have hI2 : INV sh (b + 600) h2 := ⟨hG2, xOk_ok (by decide +kernel) h1 h2 hF2 hI1.2.1, hu2, aw2.mono (by omega)⟩
  have e178 : RC h1 178 0 = RC h 178 0 := RC_F hF1 (r := 61) rfl (by decide) 0
  have eU : UL h1 = UL h := UL_F hF1 (by decide) (by decide)
  have e7 : gi h1 171 7 = gi h 0 9 := (FRM_gi hF1 (r := 54) rfl (by decide)).trans mc.symm
  rw [e178, eU, e7] at he
  obtain ⟨e2v, rfl, ea, st⟩ : ∃ e2 : Int, v = some (.int (I e2)) ∧ w32 e2 = w32 e1v ∧ STA h2 := by
    rcases he with ⟨⟨c, rfl⟩, s1, s2⟩ | ⟨⟨c, rfl⟩, s1, s2⟩
    · rcases hd with ⟨d, ev, d1⟩ | ⟨d, ev, d1, d2⟩
      · exact ⟨_, rfl, (w32_of ev).symm, STA_of hF1 hF2 (by decide +kernel) (by decide +kernel) kr cr (by rw [s1, d1]; exact sr) (by rw [s2, d1]; exact pr)⟩
      · exact absurd d c
    · rcases hd with ⟨d, ev, d1⟩ | ⟨d, ev, d1, d2⟩
      · exact absurd c d
      · exact ⟨_, rfl, (w32_of ev).symm, STA_of hF1 hF2 (by decide +kernel) (by decide +kernel) kr cr (by rw [s1]; exact d1) (by rw [s2, d2]; exact PLR_push pr sr)⟩
  exact ⟨_, w32_r _, by rw [I_w], nofun, hI2, ⟨PT_F hF2 (by decide +kernel) (PT_F hF1 (by decide +kernel) hC.1), TS_F hF2 (by decide +kernel) (TS_F hF1 (by decide +kernel) hC.2.1), TX_F hF2 (by decide +kernel) (TX_F hF1 (by decide +kernel) hC.2.2.1), SHR_F hF2 (by decide +kernel) (SHR_F hF1 (by decide +kernel) hC.2.2.2.1), MC_F hF2 (by decide +kernel) (MC_F hF1 (by decide +kernel) hC.2.2.2.2.1), RK_F hF2 (by decide +kernel) (RK_F hF1 (by decide +kernel) hC.2.2.2.2.2.1), RU_F hF2 (by decide +kernel) (RU_F hF1 (by decide +kernel) hC.2.2.2.2.2.2.1), EA_F hF2 (by decide +kernel) (EA_F hF1 (by decide +kernel) hC.2.2.2.2.2.2.2.1), st, SR_F hF2 (by decide +kernel) (SR_F hF1 (by decide +kernel) hC.2.2.2.2.2.2.2.2.2.1), PRI_F hF2 (by decide +kernel) (PRI_F hF1 (by decide +kernel) hC.2.2.2.2.2.2.2.2.2.2.1), RWS_F hF2 (by decide +kernel) (RWS_F hF1 (by decide +kernel) hC.2.2.2.2.2.2.2.2.2.2.2)⟩⟩
theorem pr_cook {sh : List (Nat × Nat)} {b : Int} {h : aH} (hI : INV sh b h) (hC : CR h) (hb : b ≤ 320000) {x y : Int} (rx : r32 x) (ry : r32 y) : CLd SPt 310 mX10_cook [.ref 0, .int (I x), .int (I y)] h 0 0 (PRQ sh b mX11_cook [.ref 171, .int (I x), .int (I y)] false) := by
  obtain ⟨sr, pr, kr, cr⟩ := hC.2.2.2.2.2.2.2.2.1
  have hw := WW_of hI.2.2.2.1
  have mc : gi h 0 9 = gi h 171 7 := hC.2.2.2.2.1
  have g9 := gri 0 8 hI.1 (a := 0) (r := 0) (k := 9) rfl rfl
  refine OP_le (Nat.le_of_ble_eq_true rfl) (ctX10_cookF SPt_mono hI.1 hC.1 (b := b) (w := (vw (RC h 178 0))) sr hw (by omega) rx ry) ?_
  rintro v h1 ⟨hd, hG1, hF1⟩
  have hI1 : INV sh b h1 := INV_F hI hG1 hF1 (by decide +kernel)
  obtain ⟨e1v, rfl⟩ : ∃ e : Int, v = some (.int (I e)) := by rcases hd with ⟨-, e, -⟩ | ⟨-, e, -⟩ <;> exact ⟨_, e⟩
  refine ⟨_, w32_r _, by rw [I_w], hI1.1, OP_le (Nat.le_of_ble_eq_true rfl) (ctX11_cookF SPt_mono hI1.1 hI1.2.1 hI1.2.2.1 rx ry hI1.2.2.2 (by omega)) ?_⟩
  rintro v h2 ⟨he, hG2, hF2, -, hu2, aw2⟩
  have hI2 : INV sh (b + 600) h2 := ⟨hG2, xOk_ok (by decide +kernel) h1 h2 hF2 hI1.2.1, hu2, aw2.mono (by omega)⟩
  have e178 : RC h1 178 0 = RC h 178 0 := RC_F hF1 (r := 61) rfl (by decide) 0
  have eU : UL h1 = UL h := UL_F hF1 (by decide) (by decide)
  have e7 : gi h1 171 7 = gi h 0 9 := (FRM_gi hF1 (r := 54) rfl (by decide)).trans mc.symm
  rw [e178, eU, e7] at he
  obtain ⟨e2v, rfl, ea, st⟩ : ∃ e2 : Int, v = some (.int (I e2)) ∧ w32 e2 = w32 e1v ∧ STA h2 := by
    rcases he with ⟨⟨c, rfl⟩, s1, s2⟩ | ⟨⟨c, rfl⟩, s1, s2⟩
    · rcases hd with ⟨d, ev, d1⟩ | ⟨d, ev, d1, d2⟩
      · exact ⟨_, rfl, (w32_of ev).symm, STA_of hF1 hF2 (by decide +kernel) (by decide +kernel) kr cr (by rw [s1, d1]; exact sr) (by rw [s2, d1]; exact pr)⟩
      · exact absurd d c
    · rcases hd with ⟨d, ev, d1⟩ | ⟨d, ev, d1, d2⟩
      · exact absurd c d
      · exact ⟨_, rfl, (w32_of ev).symm, STA_of hF1 hF2 (by decide +kernel) (by decide +kernel) kr cr (by rw [s1]; exact d1) (by rw [s2, d2]; exact PLR_push pr sr)⟩
  exact ⟨_, w32_r _, by rw [I_w], nofun, hI2, ⟨PT_F hF2 (by decide +kernel) (PT_F hF1 (by decide +kernel) hC.1), TS_F hF2 (by decide +kernel) (TS_F hF1 (by decide +kernel) hC.2.1), TX_F hF2 (by decide +kernel) (TX_F hF1 (by decide +kernel) hC.2.2.1), SHR_F hF2 (by decide +kernel) (SHR_F hF1 (by decide +kernel) hC.2.2.2.1), MC_F hF2 (by decide +kernel) (MC_F hF1 (by decide +kernel) hC.2.2.2.2.1), RK_F hF2 (by decide +kernel) (RK_F hF1 (by decide +kernel) hC.2.2.2.2.2.1), RU_F hF2 (by decide +kernel) (RU_F hF1 (by decide +kernel) hC.2.2.2.2.2.2.1), EA_F hF2 (by decide +kernel) (EA_F hF1 (by decide +kernel) hC.2.2.2.2.2.2.2.1), st, SR_F hF2 (by decide +kernel) (SR_F hF1 (by decide +kernel) hC.2.2.2.2.2.2.2.2.2.1), PRI_F hF2 (by decide +kernel) (PRI_F hF1 (by decide +kernel) hC.2.2.2.2.2.2.2.2.2.2.1), RWS_F hF2 (by decide +kernel) (RWS_F hF1 (by decide +kernel) hC.2.2.2.2.2.2.2.2.2.2.2)⟩⟩
theorem pr_steps {sh : List (Nat × Nat)} {b : Int} {h : aH} (hI : INV sh b h) (hC : CR h) (hb : b ≤ 320000) {x : Int} (rx : r32 x) : CLd SPt 310 mX10_steps [.ref 0, .int (I x)] h 0 0 (PRQ sh b mX11_steps [.ref 171, .int (I x)] false) := by
  obtain ⟨sr, pr, kr, cr⟩ := hC.2.2.2.2.2.2.2.2.1
  have hw := WW_of hI.2.2.2.1
  have mc : gi h 0 9 = gi h 171 7 := hC.2.2.2.2.1
  have g9 := gri 0 8 hI.1 (a := 0) (r := 0) (k := 9) rfl rfl
  obtain ⟨k0, k1⟩ := hC.2.2.2.2.2.1
  have hea : ∀ m : Nat, (m : Int) < gi h 0 9 → gi h 22 m = gi h 177 m ∧ 0 ≤ gi h 177 m ∧ gi h 177 m ≤ 9 := fun m hm => ⟨hC.2.2.2.2.2.2.2.1 m hm, by rw [← hC.2.2.2.2.2.2.2.1 m hm]; exact grn 0 9 hI.1 (a := 22) (r := 16) rfl rfl (by omega)⟩
  refine OP_le (Nat.le_of_ble_eq_true rfl) (ctX10_stepsF SPt_mono hI.1 hC.1 (b := b) (w := (vw (RC h 178 0))) sr hw (by omega) rx (ml := gi h 175) (ln := gi h 176) (ea := gi h 177) k1 hea) ?_
  rintro v h1 ⟨hd, hG1, hF1⟩
  have hI1 : INV sh b h1 := INV_F hI hG1 hF1 (by decide +kernel)
  obtain ⟨e1v, rfl⟩ : ∃ e : Int, v = some (.int (I e)) := by rcases hd with ⟨-, e, -⟩ | ⟨-, e, -⟩ <;> exact ⟨_, e⟩
  refine ⟨_, w32_r _, by rw [I_w], hI1.1, OP_le (Nat.le_of_ble_eq_true rfl) (ctX11_stepsF SPt_mono hI1.1 hI1.2.2.1 rx hI1.2.2.2 (by omega)) ?_⟩
  rintro v h2 ⟨he, hG2, hF2, -, hu2, aw2⟩
  have hI2 : INV sh (b + 600) h2 := ⟨hG2, xOk_ok (by decide +kernel) h1 h2 hF2 hI1.2.1, hu2, aw2.mono (by omega)⟩
  have e178 : RC h1 178 0 = RC h 178 0 := RC_F hF1 (r := 61) rfl (by decide) 0
  have eU : UL h1 = UL h := UL_F hF1 (by decide) (by decide)
  have e175 : gi h1 175 = gi h 175 := funext fun j => FRM_gi hF1 (r := 58) rfl (mHas_non (by decide) j)
  have e176 : gi h1 176 = gi h 176 := funext fun j => FRM_gi hF1 (r := 59) rfl (mHas_non (by decide) j)
  have e177 : gi h1 177 = gi h 177 := funext fun j => FRM_gi hF1 (r := 60) rfl (mHas_non (by decide) j)
  have e6 : gi h1 171 6 = gi h 19 0 := (FRM_gi hF1 (r := 54) rfl (by decide)).trans k0.symm
  have e7 : gi h1 171 7 = gi h 0 9 := (FRM_gi hF1 (r := 54) rfl (by decide)).trans mc.symm
  rw [e178, eU, e7, e175, e176, e177, e6] at he
  obtain ⟨e2v, rfl, ea, st⟩ : ∃ e2 : Int, v = some (.int (I e2)) ∧ w32 e2 = w32 e1v ∧ STA h2 := by
    rcases he with ⟨c, rfl, s1, s2, -⟩ | ⟨c, rfl, s1, s2, -⟩
    · rcases hd with ⟨d, ev, d1⟩ | ⟨d, ev, d1, d2, -⟩
      · exact ⟨_, rfl, (w32_of ev).symm, STA_of hF1 hF2 (by decide +kernel) (by decide +kernel) kr cr (by rw [s1, d1]; exact sr) (by rw [s2, d1]; exact pr)⟩
      · exact absurd d c
    · rcases hd with ⟨d, ev, d1⟩ | ⟨d, ev, d1, d2, -⟩
      · exact absurd c d
      · exact ⟨_, rfl, (w32_of ev).symm, STA_of hF1 hF2 (by decide +kernel) (by decide +kernel) kr cr (by rw [s1]; exact d1) (by rw [s2, d2]; exact PLR_push pr sr)⟩
  have cF : crow h2 = crow h1 := crow_F hF2 (by decide +kernel) (by decide +kernel)
  have mF : mrow h1 = mrow h := mrow_F hF1 (by decide +kernel) (by decide +kernel)
  have rwd : RWD h h2 := by
    rcases he with ⟨c, -, -, -, m⟩ | ⟨c, -, -, -, m⟩
    · rcases hd with ⟨d, -, d1⟩ | ⟨d, -, -, -, -, d1⟩
      · exact Or.inl ⟨by rw [cF, d1], m.trans mF⟩
      · exact absurd d c
    · rcases hd with ⟨d, -, d1⟩ | ⟨d, -, -, -, -, d1⟩
      · exact absurd c d
      · exact Or.inr (by rw [cF, d1, m])
  exact ⟨_, w32_r _, by rw [I_w], nofun, hI2, ⟨PT_F hF2 (by decide +kernel) (PT_F hF1 (by decide +kernel) hC.1), TS_F hF2 (by decide +kernel) (TS_F hF1 (by decide +kernel) hC.2.1), TX_F hF2 (by decide +kernel) (TX_F hF1 (by decide +kernel) hC.2.2.1), SHR_F hF2 (by decide +kernel) (SHR_F hF1 (by decide +kernel) hC.2.2.2.1), MC_F hF2 (by decide +kernel) (MC_F hF1 (by decide +kernel) hC.2.2.2.2.1), RK_F hF2 (by decide +kernel) (RK_F hF1 (by decide +kernel) hC.2.2.2.2.2.1), RU_F hF2 (by decide +kernel) (RU_F hF1 (by decide +kernel) hC.2.2.2.2.2.2.1), EA_F hF2 (by decide +kernel) (EA_F hF1 (by decide +kernel) hC.2.2.2.2.2.2.2.1), st, SR_F hF2 (by decide +kernel) (SR_F hF1 (by decide +kernel) hC.2.2.2.2.2.2.2.2.2.1), PRI_F hF2 (by decide +kernel) (PRI_F hF1 (by decide +kernel) hC.2.2.2.2.2.2.2.2.2.2.1), RWS_of rwd hC.2.2.2.2.2.2.2.2.2.2.2⟩⟩
theorem pr_voyage {sh : List (Nat × Nat)} {b : Int} {h : aH} (hI : INV sh b h) (hC : CR h) (hb : b ≤ 320000) : CLd SPt 310 mX10_voyage [.ref 0] h 0 0 (PRQ sh b mX11_voyage [.ref 171] false) := by
  obtain ⟨sr, pr, kr, cr⟩ := hC.2.2.2.2.2.2.2.2.1
  have hw := WW_of hI.2.2.2.1
  have mc : gi h 0 9 = gi h 171 7 := hC.2.2.2.2.1
  have g9 := gri 0 8 hI.1 (a := 0) (r := 0) (k := 9) rfl rfl
  obtain ⟨s, t, hsw, c0, c1, c2, c3⟩ := hC.2.2.2.1
  obtain ⟨u, v0, hlw, r0, r1, r2, r3⟩ := hC.2.2.2.2.2.2.1
  have hD : DR h s u := DR_of hsw c0 c1 c2 hlw r0 r1 r2 r3
  obtain ⟨k0, k1⟩ := hC.2.2.2.2.2.1
  have hea : ∀ m : Nat, (m : Int) < gi h 0 9 → gi h 22 m = gi h 177 m ∧ 0 ≤ gi h 177 m ∧ gi h 177 m ≤ 9 := fun m hm => ⟨hC.2.2.2.2.2.2.2.1 m hm, by rw [← hC.2.2.2.2.2.2.2.1 m hm]; exact grn 0 9 hI.1 (a := 22) (r := 16) rfl rfl (by omega)⟩
  have gs := gri 0 80 hI.1 (a := 1) (r := 1) (k := 1) rfl rfl
  refine OP_le (Nat.le_of_ble_eq_true rfl) (ctX10_voyageW SPt_mono hI.1 hC.1 hI.2.1 hD (b := b) (w := (vw (RC h 178 0))) sr hw (by omega) (ml := gi h 175) (ln := gi h 176) (ea := gi h 177) k1 hea) ?_
  rintro v h1 ⟨hd, hG1, hF1, t1⟩
  have hI1 : INV sh b h1 := INV_F hI hG1 hF1 (by decide +kernel)
  obtain ⟨e1v, rfl⟩ : ∃ e : Int, v = some (.int (I e)) := by rcases hd with ⟨-, e, -⟩ | ⟨-, e, -⟩ <;> exact ⟨_, e⟩
  refine ⟨_, w32_r _, by rw [I_w], hI1.1, OP_le (Nat.le_of_ble_eq_true rfl) (ctX11_voyageF SPt_mono hI1.1 hI1.2.1 hI1.2.2.1 hI1.2.2.2 (by omega)) ?_⟩
  rintro v h2 ⟨he, hG2, hF2, -, t2, hu2, aw2⟩
  have hI2 : INV sh (b + 600) h2 := ⟨hG2, xOk_ok (by decide +kernel) h1 h2 hF2 hI1.2.1, hu2, aw2.mono (by omega)⟩
  have e17 : gi h1 171 17 = gi h 1 1 := (FRM_gi hF1 (r := 54) rfl (by decide)).trans hC.2.1.symm
  have e180 : gi h1 180 = gi h 180 := funext fun j => FRM_gi hF1 (r := 63) rfl (mHas_non (by decide) j)
  have e178 : RC h1 178 0 = RC h 178 0 := RC_F hF1 (r := 61) rfl (by decide) 0
  have eU : UL h1 = UL h := UL_F hF1 (by decide) (by decide)
  have e175 : gi h1 175 = gi h 175 := funext fun j => FRM_gi hF1 (r := 58) rfl (mHas_non (by decide) j)
  have e176 : gi h1 176 = gi h 176 := funext fun j => FRM_gi hF1 (r := 59) rfl (mHas_non (by decide) j)
  have e177 : gi h1 177 = gi h 177 := funext fun j => FRM_gi hF1 (r := 60) rfl (mHas_non (by decide) j)
  have e6 : gi h1 171 6 = gi h 19 0 := (FRM_gi hF1 (r := 54) rfl (by decide)).trans k0.symm
  have e7 : gi h1 171 7 = gi h 0 9 := (FRM_gi hF1 (r := 54) rfl (by decide)).trans mc.symm
  have eD : dlA h1 = dlA h := funext fun z => dlA_F hF1 (by decide) z
  have e5 : gi h1 171 5 = gi h 171 5 := FRM_gi hF1 (r := 54) rfl (by decide)
  rw [e17, e180, ← txF_eq hC.2.2.1, e178, eU, e7, e175, e176, e177, e6, eD, e5] at he
  have e4 : gi h2 1 1 = gi h1 1 1 := FRM_gi hF2 (r := 1) rfl (by decide)
  have rp := rdAs_p (f := txF (gi h 2) (min (gi h 1 1) 60)) (stop := min (gi h 1 1) 60) (fun a ha => if_neg (by omega)) 60 0 (by omega)
  have cf := cfl_flt (n := gi h 1 1) (most := 60) (by omega) gs.1 rp.1 rp.2
  obtain ⟨e2v, rfl, ea, st⟩ : ∃ e2 : Int, v = some (.int (I e2)) ∧ w32 e2 = w32 e1v ∧ STA h2 := by
    rcases he with ⟨c, rfl, s1, s2, -⟩ | ⟨c, rfl, s1, s2, -⟩
    · rcases hd with ⟨d, ev, d1, d2, -⟩ | ⟨d, ev, d1, d2, -⟩
      · exact ⟨_, rfl, by rw [w32_of ev, cf.2 d], STA_of hF1 hF2 (by decide +kernel) (by decide +kernel) kr cr (by rw [s1]; exact d1) (by rw [s2, d2]; exact pr)⟩
      · have := cf.1.mp d; omega
    · rcases hd with ⟨d, ev, d1, d2, -⟩ | ⟨d, ev, d1, d2, -⟩
      · exact absurd (cf.1.mpr c) d
      · refine ⟨_, rfl, (w32_of ev).symm, STA_of hF1 hF2 (by decide +kernel) (by decide +kernel) kr cr (by rw [s1]; exact d1) (?_)⟩
        rw [s2, d2]
        split
        · exact PLR_push pr sr
        · exact pr
  have cF : crow h2 = crow h1 := crow_F hF2 (by decide +kernel) (by decide +kernel)
  have mF : mrow h1 = mrow h := mrow_F hF1 (by decide +kernel) (by decide +kernel)
  have rwd : RWD h h2 := by
    rcases he with ⟨c, -, -, -, m⟩ | ⟨c, -, -, -, m⟩
    · rcases hd with ⟨d, -, -, -, d1⟩ | ⟨d, -, -, -, -, d1⟩
      · exact Or.inl ⟨by rw [cF, d1], m.trans mF⟩
      · (have := cf.1.mp d; omega)
    · rcases hd with ⟨d, -, -, -, d1⟩ | ⟨d, -, -, -, -, d1⟩
      · exact absurd (cf.1.mpr c) d
      · exact Or.inr (by rw [cF, d1, m, vyI_h])
  exact ⟨_, w32_r _, by rw [I_w], nofun, hI2, ⟨PT_F hF2 (by decide +kernel) (PT_F hF1 (by decide +kernel) hC.1), (by show gi h2 1 1 = gi h2 171 17; rw [e4, t1, t2]), (fun j hj => absurd hj (by rw [e4, t1]; omega)), SHR_F hF2 (by decide +kernel) (SHR_F hF1 (by decide +kernel) hC.2.2.2.1), MC_F hF2 (by decide +kernel) (MC_F hF1 (by decide +kernel) hC.2.2.2.2.1), RK_F hF2 (by decide +kernel) (RK_F hF1 (by decide +kernel) hC.2.2.2.2.2.1), RU_F hF2 (by decide +kernel) (RU_F hF1 (by decide +kernel) hC.2.2.2.2.2.2.1), EA_F hF2 (by decide +kernel) (EA_F hF1 (by decide +kernel) hC.2.2.2.2.2.2.2.1), st, SR_F hF2 (by decide +kernel) (SR_F hF1 (by decide +kernel) hC.2.2.2.2.2.2.2.2.2.1), PRI_F hF2 (by decide +kernel) (PRI_F hF1 (by decide +kernel) hC.2.2.2.2.2.2.2.2.2.2.1), RWS_of rwd hC.2.2.2.2.2.2.2.2.2.2.2⟩⟩
theorem pr_undo {sh : List (Nat × Nat)} {b : Int} {h : aH} (hI : INV sh b h) (hC : CR h) (hb : b ≤ 320000) : CLd SPt 310 mX10_undo [.ref 0] h 0 0 (PRQ sh b mX11_undo [.ref 171] false) := by
  obtain ⟨sr, pr, kr, cr⟩ := hC.2.2.2.2.2.2.2.2.1
  have hw := WW_of hI.2.2.2.1
  have mc : gi h 0 9 = gi h 171 7 := hC.2.2.2.2.1
  have g9 := gri 0 8 hI.1 (a := 0) (r := 0) (k := 9) rfl rfl
  have pn : gi h 33 2 = gi h 171 29 := by
    have z := PLR_len pr
    rw [PL_l, UL_l] at z
    have g2 := gri 0 15 hI.1 (a := 33) (r := 27) (k := 2) rfl rfl
    have g29 := hI.2.2.1
    omega
  refine OP_le (Nat.le_of_ble_eq_true rfl) (ctX10_undoF SPt_mono hI.1 hC.1) ?_
  rintro v h1 ⟨hd, hG1, hF1⟩
  have hI1 : INV sh b h1 := INV_F hI hG1 hF1 (by decide +kernel)
  obtain ⟨e1v, rfl⟩ : ∃ e : Int, v = some (.int (I e)) := by rcases hd with ⟨-, e, -⟩ | ⟨-, e, -⟩ <;> exact ⟨_, e⟩
  refine ⟨_, w32_r _, by rw [I_w], hI1.1, OP_le (Nat.le_of_ble_eq_true rfl) (ctX11_undoF SPt_mono hI1.1 hI1.2.2.1) ?_⟩
  rintro v h2 ⟨he, hG2, hF2, -⟩
  have hI2 : INV sh (b + 600) h2 := by
    have u29 := hI1.2.2.1
    rcases he with ⟨c, -, s1, s2⟩ | ⟨c, -, s1, s2⟩
    · exact ⟨hG2, xOk_ok (by decide +kernel) h1 h2 hF2 hI1.2.1, by omega, (AW_u hI1.2.2.2 hF2 (by decide) (by decide) s1 hI1.2.2.2.1).mono (by omega)⟩
    · exact ⟨hG2, xOk_ok (by decide +kernel) h1 h2 hF2 hI1.2.1, by omega, (AW_u hI1.2.2.2 hF2 (by decide) (by decide) s1 (hI1.2.2.2.2.1 _ (by omega))).mono (by omega)⟩
  have e178 : RC h1 178 0 = RC h 178 0 := RC_F hF1 (r := 61) rfl (by decide) 0
  have eU : UL h1 = UL h := UL_F hF1 (by decide) (by decide)
  have e29 : gi h1 171 29 = gi h 171 29 := FRM_gi hF1 (r := 54) rfl (by decide)
  have e186 : ∀ o, RC h1 186 o = RC h 186 o := fun o => RC_F hF1 (r := 69) rfl (by decide) o
  have f186 : ∀ o, RC h2 186 o = RC h1 186 o := fun o => RC_F hF2 (r := 69) rfl (by decide) o
  rw [e178, e29] at he
  obtain ⟨e2v, rfl, ea, st⟩ : ∃ e2 : Int, v = some (.int (I e2)) ∧ w32 e2 = w32 e1v ∧ STA h2 := by
    rcases he with ⟨c, rfl, s1, s2⟩ | ⟨c, rfl, s1, s2⟩
    · rcases hd with ⟨d, ev, d1⟩ | ⟨d, ev, d1, d2⟩
      · exact ⟨_, rfl, (w32_of ev).symm, STA_of hF1 hF2 (by decide +kernel) (by decide +kernel) kr cr (by rw [s1, d1]; exact sr) (by rw [d1, show UL h2 = UL h from by rw [UL_nil s2, UL_nil c]]; exact pr)⟩
      · omega
    · rcases hd with ⟨d, ev, d1⟩ | ⟨d, ev, d1, d2⟩
      · omega
      · have up := UL_pop c s2 (fun o => (f186 o).trans (e186 o))
        rw [e186] at s1
        rw [← s1] at up
        rw [d2, up] at pr
        obtain ⟨p1, p2⟩ := PLR_last pr
        exact ⟨_, rfl, by rw [w32_of ev, pn], STA_of hF1 hF2 (by decide +kernel) (by decide +kernel) kr cr (p2) (p1)⟩
  exact ⟨_, w32_r _, by rw [I_w], nofun, hI2, ⟨PT_F hF2 (by decide +kernel) (PT_F hF1 (by decide +kernel) hC.1), TS_F hF2 (by decide +kernel) (TS_F hF1 (by decide +kernel) hC.2.1), TX_F hF2 (by decide +kernel) (TX_F hF1 (by decide +kernel) hC.2.2.1), SHR_F hF2 (by decide +kernel) (SHR_F hF1 (by decide +kernel) hC.2.2.2.1), MC_F hF2 (by decide +kernel) (MC_F hF1 (by decide +kernel) hC.2.2.2.2.1), RK_F hF2 (by decide +kernel) (RK_F hF1 (by decide +kernel) hC.2.2.2.2.2.1), RU_F hF2 (by decide +kernel) (RU_F hF1 (by decide +kernel) hC.2.2.2.2.2.2.1), EA_F hF2 (by decide +kernel) (EA_F hF1 (by decide +kernel) hC.2.2.2.2.2.2.2.1), st, SR_F hF2 (by decide +kernel) (SR_F hF1 (by decide +kernel) hC.2.2.2.2.2.2.2.2.2.1), PRI_F hF2 (by decide +kernel) (PRI_F hF1 (by decide +kernel) hC.2.2.2.2.2.2.2.2.2.2.1), RWS_F hF2 (by decide +kernel) (RWS_F hF1 (by decide +kernel) hC.2.2.2.2.2.2.2.2.2.2.2)⟩⟩
theorem pr_lane {sh : List (Nat × Nat)} {b : Int} {h : aH} (hI : INV sh b h) (hC : CR h) (hb : b ≤ 320000) {x : Int} (rx : r32 x) : CLd SPt 310 mX10_lane [.ref 0, .int (I x)] h 0 0 (PRQ sh b mX11_lane [.ref 171, .int (I x)] false) := by
  obtain ⟨sr, pr, kr, cr⟩ := hC.2.2.2.2.2.2.2.2.1
  have hw := WW_of hI.2.2.2.1
  have mc : gi h 0 9 = gi h 171 7 := hC.2.2.2.2.1
  have g9 := gri 0 8 hI.1 (a := 0) (r := 0) (k := 9) rfl rfl
  obtain ⟨k0, k1⟩ := hC.2.2.2.2.2.1
  have hea : ∀ m : Nat, (m : Int) < gi h 0 9 → gi h 22 m = gi h 177 m ∧ 0 ≤ gi h 177 m ∧ gi h 177 m ≤ 9 := fun m hm => ⟨hC.2.2.2.2.2.2.2.1 m hm, by rw [← hC.2.2.2.2.2.2.2.1 m hm]; exact grn 0 9 hI.1 (a := 22) (r := 16) rfl rfl (by omega)⟩
  have g19 := gri 0 16 hI.1 (a := 19) (r := 13) (k := 0) rfl rfl
  refine OP_le (Nat.le_of_ble_eq_true rfl) (ctX10_laneF SPt_mono hI.1 (b := b) (w := (vw (RC h 178 0))) sr hw (by omega) (fun j hj => by rw [(k1 j hj).1]; exact grn 0 999 hI.1 (a := 175) (r := 58) rfl rfl (by omega)) rx) ?_
  rintro v h1 ⟨hd, hG1, hF1⟩
  have hI1 : INV sh b h1 := INV_F hI hG1 hF1 (by decide +kernel)
  obtain ⟨e1v, rfl⟩ : ∃ e : Int, v = some (.int (I e)) := by rcases hd with ⟨-, e, -⟩ | ⟨-, e, -⟩ <;> exact ⟨_, e⟩
  refine ⟨_, w32_r _, by rw [I_w], hI1.1, OP_le (Nat.le_of_ble_eq_true rfl) (ctX11_laneF SPt_mono hI1.1 rx hI1.2.2.2.1 (by omega)) ?_⟩
  rintro v h2 ⟨he, hG2, hF2⟩
  have hI2 : INV sh (b + 600) h2 := (INV_F hI1 hG2 hF2 (by decide +kernel)).mono (by omega)
  have e178 : RC h1 178 0 = RC h 178 0 := RC_F hF1 (r := 61) rfl (by decide) 0
  rw [e178] at he
  obtain ⟨e2v, rfl, ea⟩ : ∃ e2 : Int, v = some (.int (I e2)) ∧ w32 e2 = w32 e1v := by
    rcases he with ⟨c, rfl, -⟩ | ⟨c, rfl, -⟩
    · rcases hd with ⟨d, ev, -⟩ | ⟨d, ev, -⟩
      · exact ⟨_, rfl, (w32_of ev).symm⟩
      · exact absurd d c
    · rcases hd with ⟨d, ev, -⟩ | ⟨d, ev, -⟩
      · exact absurd c d
      · exact ⟨_, rfl, by rw [w32_of ev, lnW_stI sr.1, show ((x.toNat : Nat) : Int) = x by omega]⟩
  have cF : crow h2 = crow h1 := crow_F hF2 (by decide +kernel) (by decide +kernel)
  have mF : mrow h1 = mrow h := mrow_F hF1 (by decide +kernel) (by decide +kernel)
  have e175 : gi h1 175 = gi h 175 := funext fun j => FRM_gi hF1 (r := 58) rfl (mHas_non (by decide) j)
  have e176 : gi h1 176 = gi h 176 := funext fun j => FRM_gi hF1 (r := 59) rfl (mHas_non (by decide) j)
  have e177 : gi h1 177 = gi h 177 := funext fun j => FRM_gi hF1 (r := 60) rfl (mHas_non (by decide) j)
  have e6 : gi h1 171 6 = gi h 19 0 := (FRM_gi hF1 (r := 54) rfl (by decide)).trans k0.symm
  have e7 : gi h1 171 7 = gi h 0 9 := (FRM_gi hF1 (r := 54) rfl (by decide)).trans mc.symm
  rw [e7, e175, e176, e177, e6] at he
  have rwd : RWD h h2 := by
    rcases he with ⟨c, -, m, -⟩ | ⟨c, -, m⟩
    · rcases hd with ⟨d, -, d1⟩ | ⟨d, -, -, d1⟩
      · exact Or.inl ⟨by rw [cF, d1], m.trans mF⟩
      · exact absurd d c
    · rcases hd with ⟨d, -, d1⟩ | ⟨d, -, -, d1⟩
      · exact absurd c d
      · exact Or.inr (by rw [cF, d1, m, lhW_c (ml := gi h 175) (ln := gi h 176) _ fun j hj => k1 j (by omega), ← lnH_sHs sr.1 x.toNat, show ((x.toNat : Nat) : Int) = x by omega])
  exact ⟨_, w32_r _, by rw [I_w], nofun, hI2, ⟨PT_F hF2 (by decide +kernel) (PT_F hF1 (by decide +kernel) hC.1), TS_F hF2 (by decide +kernel) (TS_F hF1 (by decide +kernel) hC.2.1), TX_F hF2 (by decide +kernel) (TX_F hF1 (by decide +kernel) hC.2.2.1), SHR_F hF2 (by decide +kernel) (SHR_F hF1 (by decide +kernel) hC.2.2.2.1), MC_F hF2 (by decide +kernel) (MC_F hF1 (by decide +kernel) hC.2.2.2.2.1), RK_F hF2 (by decide +kernel) (RK_F hF1 (by decide +kernel) hC.2.2.2.2.2.1), RU_F hF2 (by decide +kernel) (RU_F hF1 (by decide +kernel) hC.2.2.2.2.2.2.1), EA_F hF2 (by decide +kernel) (EA_F hF1 (by decide +kernel) hC.2.2.2.2.2.2.2.1), STA_F hF2 (by decide +kernel) (STA_F hF1 (by decide +kernel) hC.2.2.2.2.2.2.2.2.1), SR_F hF2 (by decide +kernel) (SR_F hF1 (by decide +kernel) hC.2.2.2.2.2.2.2.2.2.1), PRI_F hF2 (by decide +kernel) (PRI_F hF1 (by decide +kernel) hC.2.2.2.2.2.2.2.2.2.2.1), RWS_of rwd hC.2.2.2.2.2.2.2.2.2.2.2⟩⟩
theorem pr_strikes {sh : List (Nat × Nat)} {b : Int} {h : aH} (hI : INV sh b h) (hC : CR h) (hb : b ≤ 320000) : CLd SPt 310 mX10_strikes [.ref 0] h 0 0 (PRQ sh b mX11_strikes [.ref 171] false) := by
  obtain ⟨sr, pr, kr, cr⟩ := hC.2.2.2.2.2.2.2.2.1
  have hw := WW_of hI.2.2.2.1
  have mc : gi h 0 9 = gi h 171 7 := hC.2.2.2.2.1
  have g9 := gri 0 8 hI.1 (a := 0) (r := 0) (k := 9) rfl rfl
  obtain ⟨k0, k1⟩ := hC.2.2.2.2.2.1
  have hea : ∀ m : Nat, (m : Int) < gi h 0 9 → gi h 22 m = gi h 177 m ∧ 0 ≤ gi h 177 m ∧ gi h 177 m ≤ 9 := fun m hm => ⟨hC.2.2.2.2.2.2.2.1 m hm, by rw [← hC.2.2.2.2.2.2.2.1 m hm]; exact grn 0 9 hI.1 (a := 22) (r := 16) rfl rfl (by omega)⟩
  have g19 := gri 0 16 hI.1 (a := 19) (r := 13) (k := 0) rfl rfl
  refine OP_le (Nat.le_of_ble_eq_true rfl) (ctX10_strikesF SPt_mono hI.1 (b := b) (w := (vw (RC h 178 0))) sr hw (by omega) (fun j hj => by rw [(k1 j hj).1]; exact grn 0 999 hI.1 (a := 175) (r := 58) rfl rfl (by omega))) ?_
  rintro v h1 ⟨⟨e1v, f1v, rfl, hd, hz, hn⟩, hG1, hF1⟩
  have hI1 : INV sh b h1 := INV_F hI hG1 hF1 (by decide +kernel)
  refine ⟨_, w32_r _, by rw [I_w], hI1.1, OP_le (Nat.le_of_ble_eq_true rfl) (ctX11_strikesF SPt_mono hI1.1 (by rw [RC_F hF1 (a := 178) (r := 61) rfl (by decide) 0]; exact sr.1) hI1.2.2.2.1 (by omega)) ?_⟩
  rintro v h2 ⟨⟨e2v, f2v, rfl, he, mz, mn⟩, hG2, hF2⟩
  have hI2 : INV sh (b + 600) h2 := (INV_F hI1 hG2 hF2 (by decide +kernel)).mono (by omega)
  have e178 : RC h1 178 0 = RC h 178 0 := RC_F hF1 (r := 61) rfl (by decide) 0
  have e175 : gi h1 175 = gi h 175 := funext fun j => FRM_gi hF1 (r := 58) rfl (mHas_non (by decide) j)
  have e176 : gi h1 176 = gi h 176 := funext fun j => FRM_gi hF1 (r := 59) rfl (mHas_non (by decide) j)
  have e6 : gi h1 171 6 = gi h 19 0 := (FRM_gi hF1 (r := 54) rfl (by decide)).trans k0.symm
  rw [e178, e175, e176, e6] at he
  have hd2 : PSt (gi h 175) (gi h 176) (vw (RC h 178 0)) (gi h 19 0).toNat e1v f1v := PSt_c (fun j hj => k1 j (by omega)) hd
  have ea : w32 e2v = w32 e1v := by rw [(PSt_u he hd2).1]
  have cF : crow h2 = crow h1 := crow_F hF2 (by decide +kernel) (by decide +kernel)
  have mF : mrow h1 = mrow h := mrow_F hF1 (by decide +kernel) (by decide +kernel)
  have uu := PSt_u he hd2
  have rwd : RWD h h2 := by
    by_cases z : e1v = -2
    · exact Or.inl ⟨by rw [cF, hz z], (mz (by omega)).1.trans mF⟩
    · exact Or.inr (by rw [cF, (hn z).2, mn (by omega), uu.2])
  exact ⟨_, w32_r _, by rw [I_w], nofun, hI2, ⟨PT_F hF2 (by decide +kernel) (PT_F hF1 (by decide +kernel) hC.1), TS_F hF2 (by decide +kernel) (TS_F hF1 (by decide +kernel) hC.2.1), TX_F hF2 (by decide +kernel) (TX_F hF1 (by decide +kernel) hC.2.2.1), SHR_F hF2 (by decide +kernel) (SHR_F hF1 (by decide +kernel) hC.2.2.2.1), MC_F hF2 (by decide +kernel) (MC_F hF1 (by decide +kernel) hC.2.2.2.2.1), RK_F hF2 (by decide +kernel) (RK_F hF1 (by decide +kernel) hC.2.2.2.2.2.1), RU_F hF2 (by decide +kernel) (RU_F hF1 (by decide +kernel) hC.2.2.2.2.2.2.1), EA_F hF2 (by decide +kernel) (EA_F hF1 (by decide +kernel) hC.2.2.2.2.2.2.2.1), STA_F hF2 (by decide +kernel) (STA_F hF1 (by decide +kernel) hC.2.2.2.2.2.2.2.2.1), SR_F hF2 (by decide +kernel) (SR_F hF1 (by decide +kernel) hC.2.2.2.2.2.2.2.2.2.1), PRI_F hF2 (by decide +kernel) (PRI_F hF1 (by decide +kernel) hC.2.2.2.2.2.2.2.2.2.2.1), RWS_of rwd hC.2.2.2.2.2.2.2.2.2.2.2⟩⟩
theorem pr_clears {sh : List (Nat × Nat)} {b : Int} {h : aH} (hI : INV sh b h) (hC : CR h) (hb : b ≤ 320000) : CLd SPt 310 mX10_clears [.ref 0] h 0 0 (PRQ sh b mX11_clears [.ref 171] false) := by
  obtain ⟨sr, pr, kr, cr⟩ := hC.2.2.2.2.2.2.2.2.1
  have hw := WW_of hI.2.2.2.1
  have mc : gi h 0 9 = gi h 171 7 := hC.2.2.2.2.1
  have g9 := gri 0 8 hI.1 (a := 0) (r := 0) (k := 9) rfl rfl
  obtain ⟨s, t, hsw, c0, c1, c2, c3⟩ := hC.2.2.2.1
  obtain ⟨u, v0, hlw, r0, r1, r2, r3⟩ := hC.2.2.2.2.2.2.1
  have hD : DR h s u := DR_of hsw c0 c1 c2 hlw r0 r1 r2 r3
  obtain ⟨k0, k1⟩ := hC.2.2.2.2.2.1
  have hea : ∀ m : Nat, (m : Int) < gi h 0 9 → gi h 22 m = gi h 177 m ∧ 0 ≤ gi h 177 m ∧ gi h 177 m ≤ 9 := fun m hm => ⟨hC.2.2.2.2.2.2.2.1 m hm, by rw [← hC.2.2.2.2.2.2.2.1 m hm]; exact grn 0 9 hI.1 (a := 22) (r := 16) rfl rfl (by omega)⟩
  obtain ⟨j0, j1, j2, j3, j4, j5, j6⟩ := STR_to hI.1 sr
  have eo : kO h 23 (gi h 23 4).toNat = srt (wl (RC h 178 0)) := j5
  have g4 := gri 0 12 hI.1 (a := 23) (r := 17) (k := 4) rfl rfl
  have hro : ∀ i : Nat, (i : Int) < gi h 23 4 → gi h 23 0 < gi h 24 i ∧ gi h 24 i ≤ gi h 23 0 + 12 ∧ -1 ≤ gi h 25 i ∧ gi h 25 i ≤ 1 := fun i hi => by
    have y := kO_at (h := h) (c := 23) (n := (gi h 23 4).toNat) (j := i) (by omega)
    rw [j5] at y
    obtain ⟨q, hq, e⟩ := srt_mem (List.mem_of_getElem? y)
    have ok := sr.1.1 q hq
    have e1 : gi h 24 i = q.1 := congrArg Prod.fst e
    have e2 : gi h 25 i = q.2.1 := congrArg Prod.snd e
    rw [e1, e2, j0]
    exact ⟨ok.1.1, ok.1.2, ok.2.2⟩
  have n0 : gi h 23 0 = gi h 178 0 := j0.trans (RC_0 (a := 178) (k := 0) (by omega))
  have n1 : gi h 23 1 = gi h 178 1 := j1.trans (RC_0 (a := 178) (k := 1) (by omega))
  have n3 : gi h 23 3 = gi h 178 4 := j3.trans (RC_0 (a := 178) (k := 4) (by omega))
  have g19 := gri 0 16 hI.1 (a := 19) (r := 13) (k := 0) rfl rfl
  have hw0 := hw.1
  have h0 : 0 ≤ gi h 23 0 ∧ gi h 23 0 ≤ 1000000 := by rw [j0]; omega
  refine OP_le (Nat.le_of_ble_eq_true rfl) (ctX10_clearsF SPt_mono hI.1 hC.1 hI.2.1 hD (l := 0) eo hro h0 (fun j hj => by rw [(k1 j hj).1]; exact grn 0 999 hI.1 (a := 175) (r := 58) rfl rfl (by omega))) ?_
  rintro v h1 ⟨⟨e1v, f1v, rfl, w1, re1, rf1, R, hR, q1, y1⟩, hG1, hF1⟩
  have hI1 : INV sh b h1 := INV_F hI hG1 hF1 (by decide +kernel)
  have e1780 : gi h1 178 0 = gi h 178 0 := FRM_gi hF1 (r := 61) rfl (mHas_non (by decide) 0)
  have e1781 : gi h1 178 1 = gi h 178 1 := FRM_gi hF1 (r := 61) rfl (mHas_non (by decide) 1)
  have e1784 : gi h1 178 4 = gi h 178 4 := FRM_gi hF1 (r := 61) rfl (mHas_non (by decide) 4)
  have lok : LOK (wl (RC h 178 0)) (gi h 178 0) := fun q hq => by
    have ok := sr.1.1 q hq
    have e0 : (vw (RC h 178 0)).1 = gi h 178 0 := RC_0 (a := 178) (k := 0) (by omega)
    rw [e0] at ok
    exact ⟨ok.1, ok.2.2⟩
  have gl1 := gri 0 8 hI.1 (a := 178) (r := 61) (k := 1) rfl rfl
  refine ⟨_, w32_r _, by rw [I_w], hI1.1, OP_le (Nat.le_of_ble_eq_true rfl) (ctX11_clearsF SPt_mono hI1.1 hI1.2.1 (by rw [e1780, ← n0]; exact h0) (by rw [e1780, RC_F hF1 (r := 61) rfl (by decide) 0]; exact lok)) ?_⟩
  rintro v h2 ⟨⟨e2v, f2v, rfl, w2, re2, rf2, q2, y2⟩, hG2, hF2, -⟩
  have hI2 : INV sh (b + 600) h2 := (INV_F hI1 hG2 hF2 (by decide +kernel)).mono (by omega)
  have e178 : RC h1 178 0 = RC h 178 0 := RC_F hF1 (r := 61) rfl (by decide) 0
  have e175 : gi h1 175 = gi h 175 := funext fun j => FRM_gi hF1 (r := 58) rfl (mHas_non (by decide) j)
  have e176 : gi h1 176 = gi h 176 := funext fun j => FRM_gi hF1 (r := 59) rfl (mHas_non (by decide) j)
  have e6 : gi h1 171 6 = gi h 19 0 := (FRM_gi hF1 (r := 54) rfl (by decide)).trans k0.symm
  have eD : dlA h1 = dlA h := funext fun z => dlA_F hF1 (by decide) z
  rw [e1780, e1781, e1784, e178, eD, e175, e176, e6] at q2 y2
  rw [n0] at q1 y1
  rw [n0, n1, n3] at hR
  have ce : ∀ j : Nat, (j : Int) < gi h 19 0 → 1 ≤ gi h 175 j - gi h 178 0 → (bAnd (R (min (gi h 175 j - gi h 178 0) 30).toNat) (bXor (bShl 1 (gi h 176 j)) (-1)) ≠ 0 ↔ bAnd (lbF (wl (RC h 178 0)) (gi h 178 0) (gi h 178 4) (dlA h) (gi h 178 1) (gi h 175 j - gi h 178 0).toNat) (bXor (bShl 1 (gi h 176 j)) (-1)) ≠ 0) := fun j hj h1 => by
    have gl := grn 0 8 hI.1 (a := 21) (r := 15) (k := j) rfl rfl (by omega)
    rw [(k1 j hj).2] at gl
    exact clr_eq lok gl1 (fun s => dlA_b h s) hR h1 gl
  have qq := GBS_c q1 (Q := clQ (gi h 175) (gi h 176) (gi h 178 0) (fun a => lbF (wl (RC h 178 0)) (gi h 178 0) (gi h 178 4) (dlA h) (gi h 178 1) a.toNat) (gi h 19 0)) fun j _ => ⟨fun z => by
    obtain ⟨z1, z2, z3⟩ := z
    rw [(k1 j z1).1] at z2 z3
    rw [(k1 j z1).2] at z3
    exact ⟨z1, z2, (ce j z1 z2).mp z3⟩, fun z => by
    obtain ⟨z1, z2, z3⟩ := z
    refine ⟨z1, by rw [(k1 j z1).1]; exact z2, ?_⟩
    rw [(k1 j z1).1, (k1 j z1).2]
    exact (ce j z1 z2).mpr z3⟩
  have ea : e2v = e1v := GBS_u re2 re1 q2 qq
  have cF : crow h2 = crow h1 := crow_F hF2 (by decide +kernel) (by decide +kernel)
  have mF : mrow h1 = mrow h := mrow_F hF1 (by decide +kernel) (by decide +kernel)
  have yy := GBS_c y1 (Q := clN (gi h 175) (gi h 176) (gi h 178 0) (fun a => lbF (wl (RC h 178 0)) (gi h 178 0) (gi h 178 4) (dlA h) (gi h 178 1) a.toNat) (gi h 19 0)) fun j _ => ⟨fun z => by
    obtain ⟨z1, z2, z3⟩ := z
    rw [(k1 j z1).1] at z2 z3
    rw [(k1 j z1).2] at z3
    exact ⟨z1, z2, fun q => z3 ((ce j z1 z2).mpr q)⟩, fun z => by
    obtain ⟨z1, z2, z3⟩ := z
    refine ⟨z1, by rw [(k1 j z1).1]; exact z2, ?_⟩
    rw [(k1 j z1).1, (k1 j z1).2]
    exact fun q => z3 ((ce j z1 z2).mp q)⟩
  have fe : f2v = f1v := GBS_u rf2 rf1 y2 yy
  have rwd : RWD h h2 := Or.inr (by rw [cF, w1, w2, fe])
  exact ⟨_, w32_r _, by rw [I_w], nofun, hI2, ⟨PT_F hF2 (by decide +kernel) (PT_F hF1 (by decide +kernel) hC.1), TS_F hF2 (by decide +kernel) (TS_F hF1 (by decide +kernel) hC.2.1), TX_F hF2 (by decide +kernel) (TX_F hF1 (by decide +kernel) hC.2.2.1), SHR_F hF2 (by decide +kernel) (SHR_F hF1 (by decide +kernel) hC.2.2.2.1), MC_F hF2 (by decide +kernel) (MC_F hF1 (by decide +kernel) hC.2.2.2.2.1), RK_F hF2 (by decide +kernel) (RK_F hF1 (by decide +kernel) hC.2.2.2.2.2.1), RU_F hF2 (by decide +kernel) (RU_F hF1 (by decide +kernel) hC.2.2.2.2.2.2.1), EA_F hF2 (by decide +kernel) (EA_F hF1 (by decide +kernel) hC.2.2.2.2.2.2.2.1), STA_F hF2 (by decide +kernel) (STA_F hF1 (by decide +kernel) hC.2.2.2.2.2.2.2.2.1), SR_F hF2 (by decide +kernel) (SR_F hF1 (by decide +kernel) hC.2.2.2.2.2.2.2.2.2.1), PRI_F hF2 (by decide +kernel) (PRI_F hF1 (by decide +kernel) hC.2.2.2.2.2.2.2.2.2.2.1), RWS_of rwd hC.2.2.2.2.2.2.2.2.2.2.2⟩⟩
theorem pr_plan {sh : List (Nat × Nat)} {b : Int} {h : aH} (hI : INV sh b h) (hC : CR h) (hb : b ≤ 320000) {x : Int} (rx : r32 x) : CLd SPt 310 mX10_plan [.ref 0, .int (I x)] h 0 0 (PRQ sh b mX11_plan [.ref 171, .int (I x)] false) := by
  obtain ⟨sr, pr, kr, cr⟩ := hC.2.2.2.2.2.2.2.2.1
  have hw := WW_of hI.2.2.2.1
  have mc : gi h 0 9 = gi h 171 7 := hC.2.2.2.2.1
  have g9 := gri 0 8 hI.1 (a := 0) (r := 0) (k := 9) rfl rfl
  obtain ⟨s, t, hsw, c0, c1, c2, c3⟩ := hC.2.2.2.1
  obtain ⟨u, v0, hlw, r0, r1, r2, r3⟩ := hC.2.2.2.2.2.2.1
  have hD : DR h s u := DR_of hsw c0 c1 c2 hlw r0 r1 r2 r3
  obtain ⟨k0, k1⟩ := hC.2.2.2.2.2.1
  have hea : ∀ m : Nat, (m : Int) < gi h 0 9 → gi h 22 m = gi h 177 m ∧ 0 ≤ gi h 177 m ∧ gi h 177 m ≤ 9 := fun m hm => ⟨hC.2.2.2.2.2.2.2.1 m hm, by rw [← hC.2.2.2.2.2.2.2.1 m hm]; exact grn 0 9 hI.1 (a := 22) (r := 16) rfl rfl (by omega)⟩
  obtain ⟨j0, j1, j2, j3, j4, j5, j6⟩ := STR_to hI.1 sr
  have eo : kO h 23 (gi h 23 4).toNat = srt (wl (RC h 178 0)) := j5
  have g4 := gri 0 12 hI.1 (a := 23) (r := 17) (k := 4) rfl rfl
  have hro : ∀ i : Nat, (i : Int) < gi h 23 4 → gi h 23 0 < gi h 24 i ∧ gi h 24 i ≤ gi h 23 0 + 12 ∧ -1 ≤ gi h 25 i ∧ gi h 25 i ≤ 1 := fun i hi => by
    have y := kO_at (h := h) (c := 23) (n := (gi h 23 4).toNat) (j := i) (by omega)
    rw [j5] at y
    obtain ⟨q, hq, e⟩ := srt_mem (List.mem_of_getElem? y)
    have ok := sr.1.1 q hq
    have e1 : gi h 24 i = q.1 := congrArg Prod.fst e
    have e2 : gi h 25 i = q.2.1 := congrArg Prod.snd e
    rw [e1, e2, j0]
    exact ⟨ok.1.1, ok.1.2, ok.2.2⟩
  have n0 : gi h 23 0 = gi h 178 0 := j0.trans (RC_0 (a := 178) (k := 0) (by omega))
  have n1 : gi h 23 1 = gi h 178 1 := j1.trans (RC_0 (a := 178) (k := 1) (by omega))
  have n3 : gi h 23 3 = gi h 178 4 := j3.trans (RC_0 (a := 178) (k := 4) (by omega))
  have g19 := gri 0 16 hI.1 (a := 19) (r := 13) (k := 0) rfl rfl
  have hw0 := hw.1
  have h0 : 0 ≤ gi h 23 0 ∧ gi h 23 0 ≤ 1000000 := by rw [j0]; omega
  refine OP_le (Nat.le_of_ble_eq_true rfl) (ctX10_planR SPt_mono hI.1 hC.1 hI.2.1 hD (l := gi h 171 5) eo hro h0 (fun j hj => by rw [(k1 j hj).1]; exact grn 0 999 hI.1 (a := 175) (r := 58) rfl rfl (by omega)) rx rfl) ?_
  rintro v h1 ⟨hd, hG1, hF1⟩
  have hI1 : INV sh b h1 := INV_F hI hG1 hF1 (by decide +kernel)
  obtain ⟨e1v, rfl⟩ : ∃ e : Int, v = some (.int (I e)) := by rcases hd with ⟨-, e, -⟩ | ⟨-, -, e, -⟩ | ⟨-, -, e, -⟩ <;> exact ⟨_, e⟩
  have e1780 : gi h1 178 0 = gi h 178 0 := FRM_gi hF1 (r := 61) rfl (mHas_non (by decide) 0)
  have e1781 : gi h1 178 1 = gi h 178 1 := FRM_gi hF1 (r := 61) rfl (mHas_non (by decide) 1)
  have e1784 : gi h1 178 4 = gi h 178 4 := FRM_gi hF1 (r := 61) rfl (mHas_non (by decide) 4)
  refine ⟨_, w32_r _, by rw [I_w], hI1.1, OP_le (Nat.le_of_ble_eq_true rfl) (ctX11_plan SPt_mono hI1.1 hI1.2.1 (n := x) rx (by rw [e1780, ← n0]; exact h0)) ?_⟩
  rintro v h2 ⟨he, hG2, hF2, -⟩
  have hI2 : INV sh (b + 600) h2 := (INV_F hI1 hG2 hF2 (by decide +kernel)).mono (by omega)
  have he9 := he
  rw [plP_XS, plR_pr, plP_pp] at he
  have e178 : RC h1 178 0 = RC h 178 0 := RC_F hF1 (r := 61) rfl (by decide) 0
  have e175 : gi h1 175 = gi h 175 := funext fun j => FRM_gi hF1 (r := 58) rfl (mHas_non (by decide) j)
  have e176 : gi h1 176 = gi h 176 := funext fun j => FRM_gi hF1 (r := 59) rfl (mHas_non (by decide) j)
  have e6 : gi h1 171 6 = gi h 19 0 := (FRM_gi hF1 (r := 54) rfl (by decide)).trans k0.symm
  have eD : dlA h1 = dlA h := funext fun z => dlA_F hF1 (by decide) z
  have e5 : gi h1 171 5 = gi h 171 5 := FRM_gi hF1 (r := 54) rfl (by decide)
  rw [e1780, e1781, e1784, e178, eD, e175, e176, e6, e5] at he
  have ec : (fun (t : Int) (g : Nat) => hitN (gi h 20) (gi h 21) (gi h 178 0 + t) (g : Int) (gi h 19 0).toNat) = fun (t : Int) (g : Nat) => hitN (gi h 175) (gi h 176) (gi h 178 0 + t) (g : Int) (gi h 19 0).toNat := funext fun t => funext fun g => hitN_c _ fun j hj => k1 j (by omega)
  rw [n0, n1, n3, ec] at hd
  obtain ⟨e2v, rfl, ea⟩ : ∃ e2 : Int, v = some (.int (I e2)) ∧ w32 e2 = w32 e1v := by
    rcases he with ⟨c, rfl, -⟩ | ⟨c, g, rfl, -⟩ | ⟨c, g, rfl, -⟩
    · rcases hd with ⟨d, ev, -⟩ | ⟨d, y, ev, -⟩ | ⟨d, y, ev, -⟩
      · exact ⟨_, rfl, (w32_of ev).symm⟩
      · exact absurd d c
      · exact absurd d c
    · rcases hd with ⟨d, ev, -⟩ | ⟨d, y, ev, -⟩ | ⟨d, y, ev, -⟩
      · exact absurd c d
      · exact ⟨_, rfl, (w32_of ev).symm⟩
      · omega
    · rcases hd with ⟨d, ev, -⟩ | ⟨d, y, ev, -⟩ | ⟨d, y, ev, -⟩
      · exact absurd c d
      · omega
      · exact ⟨_, rfl, (w32_of ev).symm⟩
  have cF : crow h2 = crow h1 := crow_F hF2 (by decide +kernel) (by decide +kernel)
  have mF : mrow h1 = mrow h := mrow_F hF1 (by decide +kernel) (by decide +kernel)
  have rwd : RWD h h2 := by
    rcases he with ⟨c, -, m⟩ | ⟨c, g, -, m⟩ | ⟨c, g, -, m⟩
    · rcases hd with ⟨d, -, d1⟩ | ⟨d, y, -, d1⟩ | ⟨d, y, -, d1⟩
      · exact Or.inl ⟨by rw [cF, d1], m.trans mF⟩
      · exact absurd d c
      · exact absurd d c
    · rcases hd with ⟨d, -, d1⟩ | ⟨d, y, -, d1⟩ | ⟨d, y, -, d1⟩
      · exact absurd c d
      · exact Or.inl ⟨by rw [cF, d1], m.trans mF⟩
      · omega
    · rcases hd with ⟨d, -, d1⟩ | ⟨d, y, -, d1⟩ | ⟨d, y, -, d1⟩
      · exact absurd c d
      · omega
      · exact Or.inr (by rw [cF, d1, m])
  exact ⟨_, w32_r _, by rw [I_w], nofun, hI2, ⟨PT_F hF2 (by decide +kernel) (PT_F hF1 (by decide +kernel) hC.1), TS_F hF2 (by decide +kernel) (TS_F hF1 (by decide +kernel) hC.2.1), TX_F hF2 (by decide +kernel) (TX_F hF1 (by decide +kernel) hC.2.2.1), SHR_F hF2 (by decide +kernel) (SHR_F hF1 (by decide +kernel) hC.2.2.2.1), MC_F hF2 (by decide +kernel) (MC_F hF1 (by decide +kernel) hC.2.2.2.2.1), RK_F hF2 (by decide +kernel) (RK_F hF1 (by decide +kernel) hC.2.2.2.2.2.1), RU_F hF2 (by decide +kernel) (RU_F hF1 (by decide +kernel) hC.2.2.2.2.2.2.1), EA_F hF2 (by decide +kernel) (EA_F hF1 (by decide +kernel) hC.2.2.2.2.2.2.2.1), STA_F hF2 (by decide +kernel) (STA_F hF1 (by decide +kernel) hC.2.2.2.2.2.2.2.2.1), SR_F hF2 (by decide +kernel) (SR_F hF1 (by decide +kernel) hC.2.2.2.2.2.2.2.2.2.1), PRI_F hF2 (by decide +kernel) (PRI_F hF1 (by decide +kernel) hC.2.2.2.2.2.2.2.2.2.2.1), RWS_of rwd hC.2.2.2.2.2.2.2.2.2.2.2⟩⟩
theorem pr_latest {sh : List (Nat × Nat)} {b : Int} {h : aH} (hI : INV sh b h) (hC : CR h) (hb : b ≤ 320000) {x : Int} (rx : r32 x) : CLd SPt 310 mX10_latest [.ref 0, .int (I x)] h 0 0 (PRQ sh b mX11_latest [.ref 171, .int (I x)] false) := by
  refine CLd_mono (loX10_latest hI hb rx) ?_
  rintro v h1 ⟨⟨e1, rfl⟩, hI1, hF1⟩
  refine ⟨w32 e1, w32_r _, by rw [I_w], hI1.1, CLd_mono (loX11_latest hI1 hb rx) ?_⟩
  rintro v h2 ⟨⟨e2, rfl⟩, hI2, hF2⟩
  exact ⟨w32 e2, w32_r _, by rw [I_w], nofun, hI2, CR_F hF2 (by decide +kernel) (CR_F hF1 (by decide +kernel) hC)⟩
theorem pr_lanes {sh : List (Nat × Nat)} {b : Int} {h : aH} (hI : INV sh b h) (hC : CR h) (hb : b ≤ 320000) {x : Int} (rx : r32 x) : CLd SPt 310 mX10_lanes [.ref 0, .int (I x)] h 0 0 (PRQ sh b mX11_lanes [.ref 171, .int (I x)] false) := by
  obtain ⟨sr, pr, kr, cr⟩ := hC.2.2.2.2.2.2.2.2.1
  have hw := WW_of hI.2.2.2.1
  have mc : gi h 0 9 = gi h 171 7 := hC.2.2.2.2.1
  have g9 := gri 0 8 hI.1 (a := 0) (r := 0) (k := 9) rfl rfl
  obtain ⟨s, t, hsw, c0, c1, c2, c3⟩ := hC.2.2.2.1
  obtain ⟨u, v0, hlw, r0, r1, r2, r3⟩ := hC.2.2.2.2.2.2.1
  have hD : DR h s u := DR_of hsw c0 c1 c2 hlw r0 r1 r2 r3
  obtain ⟨k0, k1⟩ := hC.2.2.2.2.2.1
  have hea : ∀ m : Nat, (m : Int) < gi h 0 9 → gi h 22 m = gi h 177 m ∧ 0 ≤ gi h 177 m ∧ gi h 177 m ≤ 9 := fun m hm => ⟨hC.2.2.2.2.2.2.2.1 m hm, by rw [← hC.2.2.2.2.2.2.2.1 m hm]; exact grn 0 9 hI.1 (a := 22) (r := 16) rfl rfl (by omega)⟩
  obtain ⟨j0, j1, j2, j3, j4, j5, j6⟩ := STR_to hI.1 sr
  have eo : kO h 23 (gi h 23 4).toNat = srt (wl (RC h 178 0)) := j5
  have g4 := gri 0 12 hI.1 (a := 23) (r := 17) (k := 4) rfl rfl
  have hro : ∀ i : Nat, (i : Int) < gi h 23 4 → gi h 23 0 < gi h 24 i ∧ gi h 24 i ≤ gi h 23 0 + 12 ∧ -1 ≤ gi h 25 i ∧ gi h 25 i ≤ 1 := fun i hi => by
    have y := kO_at (h := h) (c := 23) (n := (gi h 23 4).toNat) (j := i) (by omega)
    rw [j5] at y
    obtain ⟨q, hq, e⟩ := srt_mem (List.mem_of_getElem? y)
    have ok := sr.1.1 q hq
    have e1 : gi h 24 i = q.1 := congrArg Prod.fst e
    have e2 : gi h 25 i = q.2.1 := congrArg Prod.snd e
    rw [e1, e2, j0]
    exact ⟨ok.1.1, ok.1.2, ok.2.2⟩
  have n0 : gi h 23 0 = gi h 178 0 := j0.trans (RC_0 (a := 178) (k := 0) (by omega))
  have n1 : gi h 23 1 = gi h 178 1 := j1.trans (RC_0 (a := 178) (k := 1) (by omega))
  have n3 : gi h 23 3 = gi h 178 4 := j3.trans (RC_0 (a := 178) (k := 4) (by omega))
  have g19 := gri 0 16 hI.1 (a := 19) (r := 13) (k := 0) rfl rfl
  have hw0 := hw.1
  have h0 : 0 ≤ gi h 23 0 ∧ gi h 23 0 ≤ 1000000 := by rw [j0]; omega
  refine OP_le (Nat.le_of_ble_eq_true rfl) (ctX10_lanesW SPt_mono hI.1 hC.1 hI.2.1 hD (l := gi h 171 5) eo hro h0 (fun j hj => by rw [(k1 j hj).1]; exact grn 0 999 hI.1 (a := 175) (r := 58) rfl rfl (by omega)) rx) ?_
  rintro v h1 ⟨hd, hG1, hF1⟩
  have hI1 : INV sh b h1 := INV_F hI hG1 hF1 (by decide +kernel)
  obtain ⟨e1v, rfl⟩ : ∃ e : Int, v = some (.int (I e)) := by rcases hd with ⟨-, e, -⟩ | ⟨-, q, e, -⟩ <;> exact ⟨_, e⟩
  have e1780 : gi h1 178 0 = gi h 178 0 := FRM_gi hF1 (r := 61) rfl (mHas_non (by decide) 0)
  have e1781 : gi h1 178 1 = gi h 178 1 := FRM_gi hF1 (r := 61) rfl (mHas_non (by decide) 1)
  have e1784 : gi h1 178 4 = gi h 178 4 := FRM_gi hF1 (r := 61) rfl (mHas_non (by decide) 4)
  refine ⟨_, w32_r _, by rw [I_w], hI1.1, OP_le (Nat.le_of_ble_eq_true rfl) (ctX11_lanesW SPt_mono hI1.1 hI1.2.1 (n := x) (by rw [e1780, ← n0]; exact h0) rx) ?_⟩
  rintro v h2 ⟨he, hG2, hF2⟩
  have hI2 : INV sh (b + 600) h2 := (INV_F hI1 hG2 hF2 (by decide +kernel)).mono (by omega)
  have e178 : RC h1 178 0 = RC h 178 0 := RC_F hF1 (r := 61) rfl (by decide) 0
  have e175 : gi h1 175 = gi h 175 := funext fun j => FRM_gi hF1 (r := 58) rfl (mHas_non (by decide) j)
  have e176 : gi h1 176 = gi h 176 := funext fun j => FRM_gi hF1 (r := 59) rfl (mHas_non (by decide) j)
  have e6 : gi h1 171 6 = gi h 19 0 := (FRM_gi hF1 (r := 54) rfl (by decide)).trans k0.symm
  have eD : dlA h1 = dlA h := funext fun z => dlA_F hF1 (by decide) z
  have e5 : gi h1 171 5 = gi h 171 5 := FRM_gi hF1 (r := 54) rfl (by decide)
  rw [e1780, e1781, e1784, e178, eD, e175, e176, e6, e5] at he
  have ec : (fun (t : Int) (g : Nat) => hitN (gi h 20) (gi h 21) (gi h 178 0 + t) (g : Int) (gi h 19 0).toNat) = fun (t : Int) (g : Nat) => hitN (gi h 175) (gi h 176) (gi h 178 0 + t) (g : Int) (gi h 19 0).toNat := funext fun t => funext fun g => hitN_c _ fun j hj => k1 j (by omega)
  rw [n0, n1, n3, ec] at hd
  obtain ⟨e2v, rfl, ea⟩ : ∃ e2 : Int, v = some (.int (I e2)) ∧ w32 e2 = w32 e1v := by
    rcases he with ⟨c, rfl, -⟩ | ⟨c, f2, rfl, m2, -⟩
    · rcases hd with ⟨d, ev, -⟩ | ⟨d, f1, ev, m1, -⟩
      · exact ⟨_, rfl, (w32_of ev).symm⟩
      · exact absurd d c
    · rcases hd with ⟨d, ev, -⟩ | ⟨d, f1, ev, m1, -⟩
      · exact absurd c d
      · exact ⟨_, rfl, by rw [w32_of ev, BS_u m1 m2]⟩
  have cF : crow h2 = crow h1 := crow_F hF2 (by decide +kernel) (by decide +kernel)
  have mF : mrow h1 = mrow h := mrow_F hF1 (by decide +kernel) (by decide +kernel)
  have rwd : RWD h h2 := by
    rcases he with ⟨c, -, m⟩ | ⟨c, f2, -, m2, m⟩
    · rcases hd with ⟨d, -, d1⟩ | ⟨d, f1, -, m1, d1⟩
      · exact Or.inl ⟨by rw [cF, d1], m.trans mF⟩
      · exact absurd d c
    · rcases hd with ⟨d, -, d1⟩ | ⟨d, f1, -, m1, d1⟩
      · exact absurd c d
      · exact Or.inr (by rw [cF, d1, m, BS_u m1 m2])
  exact ⟨_, w32_r _, by rw [I_w], nofun, hI2, ⟨PT_F hF2 (by decide +kernel) (PT_F hF1 (by decide +kernel) hC.1), TS_F hF2 (by decide +kernel) (TS_F hF1 (by decide +kernel) hC.2.1), TX_F hF2 (by decide +kernel) (TX_F hF1 (by decide +kernel) hC.2.2.1), SHR_F hF2 (by decide +kernel) (SHR_F hF1 (by decide +kernel) hC.2.2.2.1), MC_F hF2 (by decide +kernel) (MC_F hF1 (by decide +kernel) hC.2.2.2.2.1), RK_F hF2 (by decide +kernel) (RK_F hF1 (by decide +kernel) hC.2.2.2.2.2.1), RU_F hF2 (by decide +kernel) (RU_F hF1 (by decide +kernel) hC.2.2.2.2.2.2.1), EA_F hF2 (by decide +kernel) (EA_F hF1 (by decide +kernel) hC.2.2.2.2.2.2.2.1), STA_F hF2 (by decide +kernel) (STA_F hF1 (by decide +kernel) hC.2.2.2.2.2.2.2.2.1), SR_F hF2 (by decide +kernel) (SR_F hF1 (by decide +kernel) hC.2.2.2.2.2.2.2.2.2.1), PRI_F hF2 (by decide +kernel) (PRI_F hF1 (by decide +kernel) hC.2.2.2.2.2.2.2.2.2.2.1), RWS_of rwd hC.2.2.2.2.2.2.2.2.2.2.2⟩⟩
theorem pr_safest {sh : List (Nat × Nat)} {b : Int} {h : aH} (hI : INV sh b h) (hC : CR h) (hb : b ≤ 320000) {x : Int} (rx : r32 x) : CLd SPt 310 mX10_safest [.ref 0, .int (I x)] h 0 0 (PRQ sh b mX11_safest [.ref 171, .int (I x)] false) := by
  obtain ⟨sr, pr, kr, cr⟩ := hC.2.2.2.2.2.2.2.2.1
  have hw := WW_of hI.2.2.2.1
  have mc : gi h 0 9 = gi h 171 7 := hC.2.2.2.2.1
  have g9 := gri 0 8 hI.1 (a := 0) (r := 0) (k := 9) rfl rfl
  obtain ⟨k0, k1⟩ := hC.2.2.2.2.2.1
  have hea : ∀ m : Nat, (m : Int) < gi h 0 9 → gi h 22 m = gi h 177 m ∧ 0 ≤ gi h 177 m ∧ gi h 177 m ≤ 9 := fun m hm => ⟨hC.2.2.2.2.2.2.2.1 m hm, by rw [← hC.2.2.2.2.2.2.2.1 m hm]; exact grn 0 9 hI.1 (a := 22) (r := 16) rfl rfl (by omega)⟩
  have g19 := gri 0 16 hI.1 (a := 19) (r := 13) (k := 0) rfl rfl
  have b0 := hw.1
  have e0 : (vw (RC h 178 0)).1 = gi h 178 0 := RC_0 (a := 178) (k := 0) (by omega)
  have e1 : (vw (RC h 178 0)).2.1 = gi h 178 1 := RC_0 (a := 178) (k := 1) (by omega)
  refine OP_le (Nat.le_of_ble_eq_true rfl) (ctX10_safestF SPt_mono hI.1 (b := b) (w := (vw (RC h 178 0))) sr hw (by omega) (fun j hj => by rw [(k1 j hj).1]; exact grn 0 999 hI.1 (a := 175) (r := 58) rfl rfl (by omega)) rx) ?_
  rintro v h1 ⟨hd, hG1, hF1⟩
  have hI1 : INV sh b h1 := INV_F hI hG1 hF1 (by decide +kernel)
  obtain ⟨e1v, rfl⟩ : ∃ e : Int, v = some (.int (I e)) := by rcases hd with ⟨-, e, -⟩ | ⟨-, q, e, -⟩ <;> exact ⟨_, e⟩
  have e1780 : gi h1 178 0 = gi h 178 0 := FRM_gi hF1 (r := 61) rfl (mHas_non (by decide) 0)
  have e1781 : gi h1 178 1 = gi h 178 1 := FRM_gi hF1 (r := 61) rfl (mHas_non (by decide) 1)
  refine ⟨_, w32_r _, by rw [I_w], hI1.1, OP_le (Nat.le_of_ble_eq_true rfl) (ctX11_safestF SPt_mono hI1.1 (by rw [e1780]; omega) rx) ?_⟩
  rintro v h2 ⟨he, hG2, hF2⟩
  have hI2 : INV sh (b + 600) h2 := (INV_F hI1 hG2 hF2 (by decide +kernel)).mono (by omega)
  have e175 : gi h1 175 = gi h 175 := funext fun j => FRM_gi hF1 (r := 58) rfl (mHas_non (by decide) j)
  have e176 : gi h1 176 = gi h 176 := funext fun j => FRM_gi hF1 (r := 59) rfl (mHas_non (by decide) j)
  have e6 : gi h1 171 6 = gi h 19 0 := (FRM_gi hF1 (r := 54) rfl (by decide)).trans k0.symm
  rw [e1780, e1781, e175, e176, e6] at he
  rw [e0, e1] at hd
  have ec : (fun l => rkN (gi h 20) (gi h 21) (gi h 178 0) x l (gi h 19 0).toNat) = fun l => rkN (gi h 175) (gi h 176) (gi h 178 0) x l (gi h 19 0).toNat := funext fun l => rkN_c _ fun j hj => k1 j (by omega)
  rw [ec] at hd
  obtain ⟨e2v, rfl, ea⟩ : ∃ e2 : Int, v = some (.int (I e2)) ∧ w32 e2 = w32 e1v := by
    rcases he with ⟨c, rfl, -⟩ | ⟨c, f2, rfl, m2, q2, -⟩
    · rcases hd with ⟨d, ev, -⟩ | ⟨d, f1, ev, m1, q1, -⟩
      · exact ⟨_, rfl, (w32_of ev).symm⟩
      · exact absurd d c
    · rcases hd with ⟨d, ev, -⟩ | ⟨d, f1, ev, m1, q1, -⟩
      · exact absurd c d
      · exact ⟨_, rfl, by rw [w32_of ev, BST_u (S := fun l => 0 ≤ l ∧ l ≤ 8) m1 m2 q1 q2]⟩
  have cF : crow h2 = crow h1 := crow_F hF2 (by decide +kernel) (by decide +kernel)
  have mF : mrow h1 = mrow h := mrow_F hF1 (by decide +kernel) (by decide +kernel)
  have k9 : ∀ l, rkN (gi h 20) (gi h 21) (gi h 178 0) x l (gi h 19 0).toNat = rkN (gi h 175) (gi h 176) (gi h 178 0) x l (gi h 19 0).toNat := fun l => rkN_c _ fun j hj => k1 j (by omega)
  have rwd : RWD h h2 := by
    rcases he with ⟨c, -, m, -⟩ | ⟨c, f2, -, m2, q2, m⟩
    · rcases hd with ⟨d, -, d1⟩ | ⟨d, f1, -, m1, q1, -, d1⟩
      · exact Or.inl ⟨by rw [cF, d1], m.trans mF⟩
      · exact absurd d c
    · rcases hd with ⟨d, -, d1⟩ | ⟨d, f1, -, m1, q1, -, d1⟩
      · exact absurd c d
      · exact Or.inr (by rw [cF, d1, m, BST_u (S := fun l => 0 ≤ l ∧ l ≤ 8) m1 m2 q1 q2, k9, k9])
  exact ⟨_, w32_r _, by rw [I_w], nofun, hI2, ⟨PT_F hF2 (by decide +kernel) (PT_F hF1 (by decide +kernel) hC.1), TS_F hF2 (by decide +kernel) (TS_F hF1 (by decide +kernel) hC.2.1), TX_F hF2 (by decide +kernel) (TX_F hF1 (by decide +kernel) hC.2.2.1), SHR_F hF2 (by decide +kernel) (SHR_F hF1 (by decide +kernel) hC.2.2.2.1), MC_F hF2 (by decide +kernel) (MC_F hF1 (by decide +kernel) hC.2.2.2.2.1), RK_F hF2 (by decide +kernel) (RK_F hF1 (by decide +kernel) hC.2.2.2.2.2.1), RU_F hF2 (by decide +kernel) (RU_F hF1 (by decide +kernel) hC.2.2.2.2.2.2.1), EA_F hF2 (by decide +kernel) (EA_F hF1 (by decide +kernel) hC.2.2.2.2.2.2.2.1), STA_F hF2 (by decide +kernel) (STA_F hF1 (by decide +kernel) hC.2.2.2.2.2.2.2.2.1), SR_F hF2 (by decide +kernel) (SR_F hF1 (by decide +kernel) hC.2.2.2.2.2.2.2.2.2.1), PRI_F hF2 (by decide +kernel) (PRI_F hF1 (by decide +kernel) hC.2.2.2.2.2.2.2.2.2.2.1), RWS_of rwd hC.2.2.2.2.2.2.2.2.2.2.2⟩⟩
theorem pr_late {sh : List (Nat × Nat)} {b : Int} {h : aH} (hI : INV sh b h) (hC : CR h) (hb : b ≤ 320000) {x : Int} (rx : r32 x) : CLd SPt 310 mX10_late [.ref 0, .int (I x)] h 0 0 (PRQ sh b mX11_late [.ref 171, .int (I x)] false) := by
  obtain ⟨sr, pr, kr, cr⟩ := hC.2.2.2.2.2.2.2.2.1
  have hw := WW_of hI.2.2.2.1
  have mc : gi h 0 9 = gi h 171 7 := hC.2.2.2.2.1
  have g9 := gri 0 8 hI.1 (a := 0) (r := 0) (k := 9) rfl rfl
  obtain ⟨s, t, hsw, c0, c1, c2, c3⟩ := hC.2.2.2.1
  obtain ⟨u, v0, hlw, r0, r1, r2, r3⟩ := hC.2.2.2.2.2.2.1
  have hD : DR h s u := DR_of hsw c0 c1 c2 hlw r0 r1 r2 r3
  obtain ⟨k0, k1⟩ := hC.2.2.2.2.2.1
  have hea : ∀ m : Nat, (m : Int) < gi h 0 9 → gi h 22 m = gi h 177 m ∧ 0 ≤ gi h 177 m ∧ gi h 177 m ≤ 9 := fun m hm => ⟨hC.2.2.2.2.2.2.2.1 m hm, by rw [← hC.2.2.2.2.2.2.2.1 m hm]; exact grn 0 9 hI.1 (a := 22) (r := 16) rfl rfl (by omega)⟩
  have g19 := gri 0 16 hI.1 (a := 19) (r := 13) (k := 0) rfl rfl
  have n0 : gi h 23 0 = gi h 178 0 := sr.2.1.trans (RC_0 (a := 178) (k := 0) (by omega))
  have h0 := hw.1
  have h0 : 0 ≤ gi h 23 0 ∧ gi h 23 0 ≤ 1000000 := by rw [show gi h 23 0 = (vw (RC h 178 0)).1 from sr.2.1]; omega
  refine OP_le (Nat.le_of_ble_eq_true rfl) (ctX10_lateF SPt_mono hI.1 hC.1 hI.2.1 hD h0 (fun j hj => by rw [(k1 j hj).1]; exact grn 0 999 hI.1 (a := 175) (r := 58) rfl rfl (by omega)) rx) ?_
  rintro v h1 ⟨hd, hG1, hF1⟩
  have hI1 : INV sh b h1 := INV_F hI hG1 hF1 (by decide +kernel)
  obtain ⟨e1v, rfl⟩ : ∃ e : Int, v = some (.int (I e)) := by rcases hd with ⟨-, e, -⟩ | ⟨-, e, -⟩ <;> exact ⟨_, e⟩
  have e1780 : gi h1 178 0 = gi h 23 0 := (FRM_gi hF1 (r := 61) rfl (mHas_non (by decide) 0)).trans n0.symm
  refine ⟨_, w32_r _, by rw [I_w], hI1.1, OP_le (Nat.le_of_ble_eq_true rfl) (ctX11_lateF SPt_mono hI1.1 hI1.2.1 (by rw [e1780]; exact h0) rx) ?_⟩
  rintro v h2 ⟨he, hG2, hF2⟩
  have hI2 : INV sh (b + 600) h2 := (INV_F hI1 hG2 hF2 (by decide +kernel)).mono (by omega)
  have ed : dnF h1 (gi h1 178 0) = dnF h (gi h 23 0) := funext fun k => by unfold dnF; rw [e1780, dlA_F hF1 (by decide) _]
  rw [ed] at he
  obtain ⟨e2v, rfl, ea⟩ : ∃ e2 : Int, v = some (.int (I e2)) ∧ w32 e2 = w32 e1v := by
    rcases he with ⟨c, rfl, -⟩ | ⟨c, rfl, -⟩
    · rcases hd with ⟨d, ev, -⟩ | ⟨d, ev, -⟩
      · exact ⟨_, rfl, (w32_of ev).symm⟩
      · exact absurd d c
    · rcases hd with ⟨d, ev, -⟩ | ⟨d, ev, -⟩
      · exact absurd c d
      · exact ⟨_, rfl, (w32_of ev).symm⟩
  have cF : crow h2 = crow h1 := crow_F hF2 (by decide +kernel) (by decide +kernel)
  have mF : mrow h1 = mrow h := mrow_F hF1 (by decide +kernel) (by decide +kernel)
  have rwd : RWD h h2 := by
    rcases he with ⟨c, -, m, -⟩ | ⟨c, -, m⟩
    · rcases hd with ⟨d, -, d1⟩ | ⟨d, -, -, d1⟩
      · exact Or.inl ⟨by rw [cF, d1], m.trans mF⟩
      · exact absurd d c
    · rcases hd with ⟨d, -, d1⟩ | ⟨d, -, -, d1⟩
      · exact absurd c d
      · exact Or.inr (by rw [cF, d1, m])
  exact ⟨_, w32_r _, by rw [I_w], nofun, hI2, ⟨PT_F hF2 (by decide +kernel) (PT_F hF1 (by decide +kernel) hC.1), TS_F hF2 (by decide +kernel) (TS_F hF1 (by decide +kernel) hC.2.1), TX_F hF2 (by decide +kernel) (TX_F hF1 (by decide +kernel) hC.2.2.1), SHR_F hF2 (by decide +kernel) (SHR_F hF1 (by decide +kernel) hC.2.2.2.1), MC_F hF2 (by decide +kernel) (MC_F hF1 (by decide +kernel) hC.2.2.2.2.1), RK_F hF2 (by decide +kernel) (RK_F hF1 (by decide +kernel) hC.2.2.2.2.2.1), RU_F hF2 (by decide +kernel) (RU_F hF1 (by decide +kernel) hC.2.2.2.2.2.2.1), EA_F hF2 (by decide +kernel) (EA_F hF1 (by decide +kernel) hC.2.2.2.2.2.2.2.1), STA_F hF2 (by decide +kernel) (STA_F hF1 (by decide +kernel) hC.2.2.2.2.2.2.2.2.1), SR_F hF2 (by decide +kernel) (SR_F hF1 (by decide +kernel) hC.2.2.2.2.2.2.2.2.2.1), PRI_F hF2 (by decide +kernel) (PRI_F hF1 (by decide +kernel) hC.2.2.2.2.2.2.2.2.2.2.1), RWS_of rwd hC.2.2.2.2.2.2.2.2.2.2.2⟩⟩
theorem pr_comes {sh : List (Nat × Nat)} {b : Int} {h : aH} (hI : INV sh b h) (hC : CR h) (hb : b ≤ 320000) {x : Int} (rx : r32 x) : CLd SPt 310 mX10_comes [.ref 0, .int (I x)] h 0 0 (PRQ sh b mX11_comes [.ref 171, .int (I x)] false) := by
  obtain ⟨sr, pr, kr, cr⟩ := hC.2.2.2.2.2.2.2.2.1
  have hw := WW_of hI.2.2.2.1
  have mc : gi h 0 9 = gi h 171 7 := hC.2.2.2.2.1
  have g9 := gri 0 8 hI.1 (a := 0) (r := 0) (k := 9) rfl rfl
  obtain ⟨s, t, hsw, c0, c1, c2, c3⟩ := hC.2.2.2.1
  obtain ⟨u, v0, hlw, r0, r1, r2, r3⟩ := hC.2.2.2.2.2.2.1
  have hD : DR h s u := DR_of hsw c0 c1 c2 hlw r0 r1 r2 r3
  have n0 : gi h 23 0 = gi h 178 0 := sr.2.1.trans (RC_0 (a := 178) (k := 0) (by omega))
  have h0 := hw.1.1
  have h0 : 0 ≤ gi h 23 0 := by rw [show gi h 23 0 = (vw (RC h 178 0)).1 from sr.2.1]; exact h0
  refine OP_le (Nat.le_of_ble_eq_true rfl) (ctX10_comesW SPt_mono hI.1 hC.1 hI.2.1 hD h0 rx) ?_
  rintro v h1 ⟨hd, hG1, hF1⟩
  have hI1 : INV sh b h1 := INV_F hI hG1 hF1 (by decide +kernel)
  obtain ⟨e1v, rfl⟩ : ∃ e : Int, v = some (.int (I e)) := by rcases hd with ⟨-, e, -⟩ | ⟨-, e, -⟩ <;> exact ⟨_, e⟩
  have e1780 : gi h1 178 0 = gi h 23 0 := (FRM_gi hF1 (r := 61) rfl (mHas_non (by decide) 0)).trans n0.symm
  refine ⟨_, w32_r _, by rw [I_w], hI1.1, OP_le (Nat.le_of_ble_eq_true rfl) (ctX11_comesW SPt_mono hI1.1 hI1.2.1 (by rw [e1780]; exact h0) rx) ?_⟩
  rintro v h2 ⟨he, hG2, hF2⟩
  have hI2 : INV sh (b + 600) h2 := (INV_F hI1 hG2 hF2 (by decide +kernel)).mono (by omega)
  have ed : dlA h1 = dlA h := funext fun z => dlA_F hF1 (by decide) z
  have e3 : gi h1 171 3 = gi h 171 3 := FRM_gi hF1 (r := 54) rfl (by decide)
  rw [e1780, ed, e3] at he
  obtain ⟨e2v, rfl, ea⟩ : ∃ e2 : Int, v = some (.int (I e2)) ∧ w32 e2 = w32 e1v := by
    rcases he with ⟨c, rfl, -⟩ | ⟨c, rfl, -⟩
    · rcases hd with ⟨d, ev, -⟩ | ⟨d, ev, -⟩
      · exact ⟨_, rfl, (w32_of ev).symm⟩
      · exact absurd d c
    · rcases hd with ⟨d, ev, -⟩ | ⟨d, ev, -⟩
      · exact absurd c d
      · exact ⟨_, rfl, (w32_of ev).symm⟩
  have cF : crow h2 = crow h1 := crow_F hF2 (by decide +kernel) (by decide +kernel)
  have mF : mrow h1 = mrow h := mrow_F hF1 (by decide +kernel) (by decide +kernel)
  have e173 : gi h1 173 = gi h 173 := funext fun j => FRM_gi hF1 (r := 56) rfl (mHas_non (by decide) j)
  have e174 : gi h1 174 = gi h 174 := funext fun j => FRM_gi hF1 (r := 57) rfl (mHas_non (by decide) j)
  have e4 : gi h1 171 4 = gi h 171 4 := FRM_gi hF1 (r := 54) rfl (by decide)
  rw [e173, e174, e4] at he
  have rwd : RWD h h2 := by
    rcases he with ⟨c, -, m⟩ | ⟨c, -, m⟩
    · rcases hd with ⟨d, -, d1⟩ | ⟨d, -, i9, i1, i2, d1⟩
      · exact Or.inl ⟨by rw [cF, d1], m.trans mF⟩
      · exact absurd d c
    · rcases hd with ⟨d, -, d1⟩ | ⟨d, -, i9, i1, i2, d1⟩
      · exact absurd c d
      · exact Or.inr (by rw [cF, d1, m, (com_eq c3 hC.2.2.2.2.2.2.2.2.2.2.1 i1 i2).1, (com_eq c3 hC.2.2.2.2.2.2.2.2.2.2.1 i1 i2).2])
  exact ⟨_, w32_r _, by rw [I_w], nofun, hI2, ⟨PT_F hF2 (by decide +kernel) (PT_F hF1 (by decide +kernel) hC.1), TS_F hF2 (by decide +kernel) (TS_F hF1 (by decide +kernel) hC.2.1), TX_F hF2 (by decide +kernel) (TX_F hF1 (by decide +kernel) hC.2.2.1), SHR_F hF2 (by decide +kernel) (SHR_F hF1 (by decide +kernel) hC.2.2.2.1), MC_F hF2 (by decide +kernel) (MC_F hF1 (by decide +kernel) hC.2.2.2.2.1), RK_F hF2 (by decide +kernel) (RK_F hF1 (by decide +kernel) hC.2.2.2.2.2.1), RU_F hF2 (by decide +kernel) (RU_F hF1 (by decide +kernel) hC.2.2.2.2.2.2.1), EA_F hF2 (by decide +kernel) (EA_F hF1 (by decide +kernel) hC.2.2.2.2.2.2.2.1), STA_F hF2 (by decide +kernel) (STA_F hF1 (by decide +kernel) hC.2.2.2.2.2.2.2.2.1), SR_F hF2 (by decide +kernel) (SR_F hF1 (by decide +kernel) hC.2.2.2.2.2.2.2.2.2.1), PRI_F hF2 (by decide +kernel) (PRI_F hF1 (by decide +kernel) hC.2.2.2.2.2.2.2.2.2.2.1), RWS_of rwd hC.2.2.2.2.2.2.2.2.2.2.2⟩⟩
theorem pr_relay {sh : List (Nat × Nat)} {b : Int} {h : aH} (hI : INV sh b h) (hC : CR h) (hb : b ≤ 320000) {x : Int} (rx : r32 x) : CLd SPt 310 mX10_relay [.ref 0, .int (I x)] h 0 0 (PRQ sh b mX11_relay [.ref 171, .int (I x)] false) := by
  obtain ⟨s, t, hw, c0, c1, c2, c3⟩ := hC.2.2.2.1
  have h5 : s = 5 ∨ s = 8 := by have := hw.1; omega
  have hL : 2 ≤ gi h s 0 ∧ gi h s 0 ≤ 40 := by rw [c0]; exact gri 2 40 hI.1 (a := 171) (r := 54) (k := 3) rfl rfl
  refine OP_le (Nat.le_of_ble_eq_true rfl) (ctX10_relay SPt_mono hI.1 hC.1 hw hL rx) ?_
  rintro v h1 ⟨rfl, hG1, hF1, d1⟩
  have hI1 : INV sh b h1 := INV_F hI hG1 hF1 (by decide +kernel)
  refine ⟨_, w32_r _, by rw [I_w], hI1.1, OP_le (Nat.le_of_ble_eq_true rfl) (ctX11_relay SPt_mono hI1.1 rx) ?_⟩
  rintro v h2 ⟨he, hG2, hF2, -⟩
  have hI2 : INV sh (b + 600) h2 := (INV_F hI1 hG2 hF2 (by decide +kernel)).mono (by omega)
  have e3 : gi h1 171 3 = gi h 171 3 := FRM_gi hF1 (r := 54) rfl (by decide)
  rw [e3, ← c0] at he
  have ev : v = some (.int (I (if 0 ≤ x ∧ x ≤ 10 then (if x ≤ gi h s 0 - 2 then (((gi h s 0 - 1) + x) / (x + 1)) else -2) else -1))) := by
    rcases he with ⟨c, e, -⟩ | ⟨c, d, e, -⟩ | ⟨c, d, e, -⟩
    · rw [if_neg c]; exact e
    · rw [if_pos c, if_neg (by omega)]; exact e
    · rw [if_pos c, if_pos d]; exact e
  subst ev
  have cF : crow h2 = crow h1 := crow_F hF2 (by decide +kernel) (by decide +kernel)
  have mF : mrow h1 = mrow h := mrow_F hF1 (by decide +kernel) (by decide +kernel)
  have rwd : RWD h h2 := by
    rcases he with ⟨c, -, m⟩ | ⟨c, g, -, m⟩ | ⟨c, g, -, m⟩
    · rw [if_neg (fun z => c z.1)] at d1
      exact Or.inl ⟨by rw [cF, d1], m.trans mF⟩
    · rw [if_neg (fun z => by have := z.2; omega)] at d1
      exact Or.inl ⟨by rw [cF, d1], m.trans mF⟩
    · rw [if_pos ⟨c, g⟩] at d1
      exact Or.inr (by rw [cF, d1, m])
  exact ⟨_, w32_r _, by rw [I_w], nofun, hI2, ⟨PT_F hF2 (by decide +kernel) (PT_F hF1 (by decide +kernel) hC.1), TS_F hF2 (by decide +kernel) (TS_F hF1 (by decide +kernel) hC.2.1), TX_F hF2 (by decide +kernel) (TX_F hF1 (by decide +kernel) hC.2.2.1), SHR_F hF2 (by decide +kernel) (SHR_F hF1 (by decide +kernel) hC.2.2.2.1), MC_F hF2 (by decide +kernel) (MC_F hF1 (by decide +kernel) hC.2.2.2.2.1), RK_F hF2 (by decide +kernel) (RK_F hF1 (by decide +kernel) hC.2.2.2.2.2.1), RU_F hF2 (by decide +kernel) (RU_F hF1 (by decide +kernel) hC.2.2.2.2.2.2.1), EA_F hF2 (by decide +kernel) (EA_F hF1 (by decide +kernel) hC.2.2.2.2.2.2.2.1), STA_F hF2 (by decide +kernel) (STA_F hF1 (by decide +kernel) hC.2.2.2.2.2.2.2.2.1), SR_F hF2 (by decide +kernel) (SR_F hF1 (by decide +kernel) hC.2.2.2.2.2.2.2.2.2.1), PRI_F hF2 (by decide +kernel) (PRI_F hF1 (by decide +kernel) hC.2.2.2.2.2.2.2.2.2.2.1), RWS_of rwd hC.2.2.2.2.2.2.2.2.2.2.2⟩⟩
theorem pr_fewest {sh : List (Nat × Nat)} {b : Int} {h : aH} (hI : INV sh b h) (hC : CR h) (hb : b ≤ 320000) {x : Int} (rx : r32 x) : CLd SPt 310 mX10_fewest [.ref 0, .int (I x)] h 0 0 (PRQ sh b mX11_fewest [.ref 171, .int (I x)] false) := by
  refine CLd_mono (loX10_fewest hI hb rx) ?_
  rintro v h1 ⟨⟨e1, rfl⟩, hI1, hF1⟩
  refine ⟨w32 e1, w32_r _, by rw [I_w], hI1.1, CLd_mono (loX11_fewest hI1 hb rx) ?_⟩
  rintro v h2 ⟨⟨e2, rfl⟩, hI2, hF2⟩
  exact ⟨w32 e2, w32_r _, by rw [I_w], nofun, hI2, CR_F hF2 (by decide +kernel) (CR_F hF1 (by decide +kernel) hC)⟩
theorem pr_word {sh : List (Nat × Nat)} {b : Int} {h : aH} (hI : INV sh b h) (hC : CR h) (hb : b ≤ 320000) {x y : Int} (rx : r32 x) (ry : r32 y) : CLd SPt 310 mX10_word [.ref 0, .int (I x), .int (I y)] h 0 0 (PRQ sh b mX11_word [.ref 171, .int (I x), .int (I y)] false) := by
  refine OP_le (Nat.le_of_ble_eq_true rfl) (ctX10_wordW SPt_mono hI.1 rx ry) ?_
  rintro v h1 ⟨hd, hG1, hF1⟩
  have hI1 : INV sh b h1 := INV_F hI hG1 hF1 (by decide +kernel)
  have ev : v = some (.int (I (if 1 ≤ x ∧ x ≤ 15 ∧ x % 2 = 1 ∧ 0 ≤ y ∧ y ≤ 10 then 0 else -1))) := by
    rcases hd with ⟨c, e, -⟩ | ⟨c, e, -⟩
    · rw [if_pos c]; exact e
    · rw [if_neg c]; exact e
  subst ev
  refine ⟨_, w32_r _, by rw [I_w], hI1.1, OP_le (Nat.le_of_ble_eq_true rfl) (ctX11_wordW SPt_mono hI1.1 rx ry) ?_⟩
  rintro v h2 ⟨he, hG2, hF2⟩
  have hI2 : INV sh (b + 600) h2 := (INV_F hI1 hG2 hF2 (by decide +kernel)).mono (by omega)
  have ev : v = some (.int (I (if 1 ≤ x ∧ x ≤ 15 ∧ x % 2 = 1 ∧ 0 ≤ y ∧ y ≤ 10 then 0 else -1))) := by
    rcases he with ⟨c, e, -⟩ | ⟨c, e, -⟩
    · rw [if_pos c]; exact e
    · rw [if_neg c]; exact e
  subst ev
  have cF : crow h2 = crow h1 := crow_F hF2 (by decide +kernel) (by decide +kernel)
  have mF : mrow h1 = mrow h := mrow_F hF1 (by decide +kernel) (by decide +kernel)
  have rwd : RWD h h2 := by
    rcases he with ⟨c, -, m⟩ | ⟨c, -, m⟩
    · rcases hd with ⟨d, -, d1⟩ | ⟨d, -, d1⟩
      · exact Or.inr (by rw [cF, d1, m, wd_ok (by omega) (by omega) (by omega)])
      · exact absurd c d
    · rcases hd with ⟨d, -, d1⟩ | ⟨d, -, d1⟩
      · exact absurd d c
      · exact Or.inl ⟨by rw [cF, d1], m.trans mF⟩
  exact ⟨_, w32_r _, by rw [I_w], nofun, hI2, ⟨PT_F hF2 (by decide +kernel) (PT_F hF1 (by decide +kernel) hC.1), TS_F hF2 (by decide +kernel) (TS_F hF1 (by decide +kernel) hC.2.1), TX_F hF2 (by decide +kernel) (TX_F hF1 (by decide +kernel) hC.2.2.1), SHR_F hF2 (by decide +kernel) (SHR_F hF1 (by decide +kernel) hC.2.2.2.1), MC_F hF2 (by decide +kernel) (MC_F hF1 (by decide +kernel) hC.2.2.2.2.1), RK_F hF2 (by decide +kernel) (RK_F hF1 (by decide +kernel) hC.2.2.2.2.2.1), RU_F hF2 (by decide +kernel) (RU_F hF1 (by decide +kernel) hC.2.2.2.2.2.2.1), EA_F hF2 (by decide +kernel) (EA_F hF1 (by decide +kernel) hC.2.2.2.2.2.2.2.1), STA_F hF2 (by decide +kernel) (STA_F hF1 (by decide +kernel) hC.2.2.2.2.2.2.2.2.1), SR_F hF2 (by decide +kernel) (SR_F hF1 (by decide +kernel) hC.2.2.2.2.2.2.2.2.2.1), PRI_F hF2 (by decide +kernel) (PRI_F hF1 (by decide +kernel) hC.2.2.2.2.2.2.2.2.2.2.1), RWS_of rwd hC.2.2.2.2.2.2.2.2.2.2.2⟩⟩
theorem pr_survives {sh : List (Nat × Nat)} {b : Int} {h : aH} (hI : INV sh b h) (hC : CR h) (hb : b ≤ 320000) {x y : Int} (rx : r32 x) (ry : r32 y) : CLd SPt 310 mX10_survives [.ref 0, .int (I x), .int (I y)] h 0 0 (PRQ sh b mX11_survives [.ref 171, .int (I x), .int (I y)] false) := by
  refine CLd_mono (loX10_survives hI hb rx ry) ?_
  rintro v h1 ⟨⟨e1, rfl⟩, hI1, hF1⟩
  refine ⟨w32 e1, w32_r _, by rw [I_w], hI1.1, CLd_mono (loX11_survives hI1 hb rx ry) ?_⟩
  rintro v h2 ⟨⟨e2, rfl⟩, hI2, hF2⟩
  exact ⟨w32 e2, w32_r _, by rw [I_w], nofun, hI2, CR_F hF2 (by decide +kernel) (CR_F hF1 (by decide +kernel) hC)⟩
theorem pr_lives {sh : List (Nat × Nat)} {b : Int} {h : aH} (hI : INV sh b h) (hC : CR h) (hb : b ≤ 320000) {x : Int} (rx : r32 x) : CLd SPt 310 mX10_lives [.ref 0, .int (I x)] h 0 0 (PRQ sh b mX11_lives [.ref 171, .int (I x)] false) := by
  obtain ⟨sr, pr, kr, cr⟩ := hC.2.2.2.2.2.2.2.2.1
  have hw := WW_of hI.2.2.2.1
  have mc : gi h 0 9 = gi h 171 7 := hC.2.2.2.2.1
  have g9 := gri 0 8 hI.1 (a := 0) (r := 0) (k := 9) rfl rfl
  obtain ⟨j0, j1, j2, j3, j4, j5, j6⟩ := STR_to hI.1 sr
  have fb : ∀ j : Nat, (j : Int) < gi h 0 9 → gi h 178 (41 + j) = gi h 26 j ∧ 0 ≤ gi h 26 j ∧ gi h 26 j ≤ 99 := fun j hj => by
    have z := (j6 j (by omega) hj).1
    have z : gi h 26 j = if j < 8 then RC h 178 0 (41 + j) else 0 := z
    rw [if_pos (by omega), RC_0 (by omega)] at z
    have y := (hw.2.2.2.2 j (by omega)).1
    have y : 0 ≤ (if j < 8 then RC h 178 0 (41 + j) else 0) ∧ (if j < 8 then RC h 178 0 (41 + j) else 0) ≤ 99 := y
    rw [if_pos (by omega), RC_0 (by omega)] at y
    exact ⟨z.symm, by omega⟩
  refine OP_le (Nat.le_of_ble_eq_true rfl) (ctX10_livesF SPt_mono hI.1 (fd := gi h 26) (ea := gi h 22) (fun j hj => ⟨rfl, (fb j hj).2⟩) (fun j hj => ⟨rfl, grn 0 9 hI.1 (a := 22) (r := 16) rfl rfl (by omega)⟩) rx) ?_
  rintro v h1 ⟨hd, hG1, hF1⟩
  have hI1 : INV sh b h1 := INV_F hI hG1 hF1 (by decide +kernel)
  obtain ⟨e1v, rfl⟩ : ∃ e : Int, v = some (.int (I e)) := by rcases hd with ⟨-, e, -⟩ | ⟨-, e, -⟩ <;> exact ⟨_, e⟩
  have e7 : gi h1 171 7 = gi h 0 9 := (FRM_gi hF1 (r := 54) rfl (by decide)).trans mc.symm
  refine ⟨_, w32_r _, by rw [I_w], hI1.1, OP_le (Nat.le_of_ble_eq_true rfl) (ctX11_livesF SPt_mono hI1.1 (fd := gi h 26) (ea := gi h 22) (fun j hj => by rw [e7] at hj; exact ⟨(FRM_gi hF1 (r := 61) rfl (mHas_non (by decide) _)).trans (fb j hj).1, (fb j hj).2⟩) (fun j hj => by rw [e7] at hj; exact ⟨(FRM_gi hF1 (r := 60) rfl (mHas_non (by decide) _)).trans (hC.2.2.2.2.2.2.2.1 j hj).symm, grn 0 9 hI.1 (a := 22) (r := 16) rfl rfl (by omega)⟩) rx) ?_⟩
  rintro v h2 ⟨he, hG2, hF2⟩
  have hI2 : INV sh (b + 600) h2 := (INV_F hI1 hG2 hF2 (by decide +kernel)).mono (by omega)
  rw [e7] at he
  obtain ⟨e2v, rfl, ea⟩ : ∃ e2 : Int, v = some (.int (I e2)) ∧ w32 e2 = w32 e1v := by
    rcases he with ⟨c, rfl, -⟩ | ⟨c, rfl, -⟩
    · rcases hd with ⟨d, ev, -⟩ | ⟨d, ev, -⟩
      · exact ⟨_, rfl, (w32_of ev).symm⟩
      · exact absurd d c
    · rcases hd with ⟨d, ev, -⟩ | ⟨d, ev, -⟩
      · exact absurd c d
      · exact ⟨_, rfl, (w32_of ev).symm⟩
  have cF : crow h2 = crow h1 := crow_F hF2 (by decide +kernel) (by decide +kernel)
  have mF : mrow h1 = mrow h := mrow_F hF1 (by decide +kernel) (by decide +kernel)
  have rwd : RWD h h2 := by
    rcases he with ⟨c, -, m, -⟩ | ⟨c, -, m⟩
    · rcases hd with ⟨d, -, d1⟩ | ⟨d, -, -, d1⟩
      · exact Or.inl ⟨by rw [cF, d1], m.trans mF⟩
      · exact absurd d c
    · rcases hd with ⟨d, -, d1⟩ | ⟨d, -, -, d1⟩
      · exact absurd c d
      · exact Or.inr (by rw [cF, d1, m])
  exact ⟨_, w32_r _, by rw [I_w], nofun, hI2, ⟨PT_F hF2 (by decide +kernel) (PT_F hF1 (by decide +kernel) hC.1), TS_F hF2 (by decide +kernel) (TS_F hF1 (by decide +kernel) hC.2.1), TX_F hF2 (by decide +kernel) (TX_F hF1 (by decide +kernel) hC.2.2.1), SHR_F hF2 (by decide +kernel) (SHR_F hF1 (by decide +kernel) hC.2.2.2.1), MC_F hF2 (by decide +kernel) (MC_F hF1 (by decide +kernel) hC.2.2.2.2.1), RK_F hF2 (by decide +kernel) (RK_F hF1 (by decide +kernel) hC.2.2.2.2.2.1), RU_F hF2 (by decide +kernel) (RU_F hF1 (by decide +kernel) hC.2.2.2.2.2.2.1), EA_F hF2 (by decide +kernel) (EA_F hF1 (by decide +kernel) hC.2.2.2.2.2.2.2.1), STA_F hF2 (by decide +kernel) (STA_F hF1 (by decide +kernel) hC.2.2.2.2.2.2.2.2.1), SR_F hF2 (by decide +kernel) (SR_F hF1 (by decide +kernel) hC.2.2.2.2.2.2.2.2.2.1), PRI_F hF2 (by decide +kernel) (PRI_F hF1 (by decide +kernel) hC.2.2.2.2.2.2.2.2.2.2.1), RWS_of rwd hC.2.2.2.2.2.2.2.2.2.2.2⟩⟩
theorem pr_shares {sh : List (Nat × Nat)} {b : Int} {h : aH} (hI : INV sh b h) (hC : CR h) (hb : b ≤ 320000) {x : Int} (rx : r32 x) : CLd SPt 310 mX10_shares [.ref 0, .int (I x)] h 0 0 (PRQ sh b mX11_shares [.ref 171, .int (I x)] false) := by
  obtain ⟨sr, pr, kr, cr⟩ := hC.2.2.2.2.2.2.2.2.1
  have hw := WW_of hI.2.2.2.1
  have mc : gi h 0 9 = gi h 171 7 := hC.2.2.2.2.1
  have g9 := gri 0 8 hI.1 (a := 0) (r := 0) (k := 9) rfl rfl
  obtain ⟨j0, j1, j2, j3, j4, j5, j6⟩ := STR_to hI.1 sr
  have fb : ∀ j : Nat, (j : Int) < gi h 0 9 → gi h 178 (41 + j) = gi h 26 j ∧ 0 ≤ gi h 26 j ∧ gi h 26 j ≤ 99 := fun j hj => by
    have z := (j6 j (by omega) hj).1
    have z : gi h 26 j = if j < 8 then RC h 178 0 (41 + j) else 0 := z
    rw [if_pos (by omega), RC_0 (by omega)] at z
    have y := (hw.2.2.2.2 j (by omega)).1
    have y : 0 ≤ (if j < 8 then RC h 178 0 (41 + j) else 0) ∧ (if j < 8 then RC h 178 0 (41 + j) else 0) ≤ 99 := y
    rw [if_pos (by omega), RC_0 (by omega)] at y
    exact ⟨z.symm, by omega⟩
  have hsp : ∀ j : Nat, (j : Int) < gi h 0 9 → gi h 26 j - gi h 22 j * x = spF h x j ∧ 0 ≤ gi h 26 j ∧ gi h 26 j ≤ 99 := fun j hj => by
    have z := fb j hj
    refine ⟨?_, z.2⟩
    unfold spF
    rw [z.1, ← hC.2.2.2.2.2.2.2.1 j hj, Int.mul_comm]
  refine OP_le (Nat.le_of_ble_eq_true rfl) (ctX10_sharesF SPt_mono hI.1 (sp := spF h x) hC.1 rx hsp) ?_
  rintro v h1 ⟨hd, hG1, hF1⟩
  have hI1 : INV sh b h1 := INV_F hI hG1 hF1 (by decide +kernel)
  obtain ⟨e1v, rfl⟩ : ∃ e : Int, v = some (.int (I e)) := by rcases hd with ⟨-, e, -⟩ | ⟨-, -, e, -⟩ | ⟨-, -, e, -⟩ <;> exact ⟨_, e⟩
  have e7 : gi h1 171 7 = gi h 0 9 := (FRM_gi hF1 (r := 54) rfl (by decide)).trans mc.symm
  have e178 : RC h1 178 0 = RC h 178 0 := RC_F hF1 (r := 61) rfl (by decide) 0
  have es : spF h1 x = spF h x := funext fun j => by
    unfold spF
    rw [FRM_gi hF1 (a := 178) (r := 61) rfl (mHas_non (by decide) _), FRM_gi hF1 (a := 177) (r := 60) rfl (mHas_non (by decide) _)]
  refine ⟨_, w32_r _, by rw [I_w], hI1.1, OP_le (Nat.le_of_ble_eq_true rfl) (ctX11_shares SPt_mono hI1.1 (n := x) (b := b) rx (by rw [e178]; exact hI.2.2.2.1)) ?_⟩
  rintro v h2 ⟨he, hG2, hF2, -⟩
  have hI2 : INV sh (b + 600) h2 := (INV_F hI1 hG2 hF2 (by decide +kernel)).mono (by omega)
  rw [es, e7] at he
  have sq : (0 ≤ x ∧ x ≤ 99) ∧ gi h 0 9 ≠ 0 → 0 ≤ totF (spF h x) (gi h 0 9).toNat → yF (spF h x) (gi h 0 9 - 1).toNat (gi h 0 9 - 1).toNat 0 = chS (spF h x) (gi h 0 9 - 1).toNat (gi h 0 9 - 1).toNat 0 ∧ shRow (spF h x) (gi h 0 9 - 1).toNat (gi h 0 9 - 1).toNat 0 = chR (spF h x) (gi h 0 9 - 1).toNat (gi h 0 9 - 1).toNat 0 := fun z1 z2 => sh_eq (by omega) (fun m hm => by
    have a := hsp m (by omega)
    have b9 := grn 0 9 hI.1 (a := 22) (r := 16) (k := m) rfl rfl (by omega)
    have c9 := en_b b9 z1.1
    omega) (by rw [show (gi h 0 9 - 1).toNat + 1 = (gi h 0 9).toNat by omega]; exact z2)
  obtain ⟨e2v, rfl, ea⟩ : ∃ e2 : Int, v = some (.int (I e2)) ∧ w32 e2 = w32 e1v := by
    rcases he with ⟨c, rfl, -⟩ | ⟨c, z, rfl, -⟩ | ⟨c, z, rfl, -⟩
    · rcases hd with ⟨d, ev, -⟩ | ⟨d, y, ev, -⟩ | ⟨d, y, ev, -⟩
      · exact ⟨_, rfl, (w32_of ev).symm⟩
      · exact absurd d c
      · exact absurd d c
    · rcases hd with ⟨d, ev, -⟩ | ⟨d, y, ev, -⟩ | ⟨d, y, ev, -⟩
      · exact absurd c d
      · exact ⟨_, rfl, (w32_of ev).symm⟩
      · omega
    · rcases hd with ⟨d, ev, -⟩ | ⟨d, y, ev, -⟩ | ⟨d, y, ev, -⟩
      · exact absurd c d
      · omega
      · exact ⟨_, rfl, by rw [w32_of ev, (sq c z).1]⟩
  have cF : crow h2 = crow h1 := crow_F hF2 (by decide +kernel) (by decide +kernel)
  have mF : mrow h1 = mrow h := mrow_F hF1 (by decide +kernel) (by decide +kernel)
  have rwd : RWD h h2 := by
    rcases he with ⟨c, -, m⟩ | ⟨c, z, -, m⟩ | ⟨c, z, -, m⟩
    · rcases hd with ⟨d, -, d1⟩ | ⟨d, y, -, d1⟩ | ⟨d, y, -, d1⟩
      · exact Or.inl ⟨by rw [cF, d1], m.trans mF⟩
      · exact absurd d c
      · exact absurd d c
    · rcases hd with ⟨d, -, d1⟩ | ⟨d, y, -, d1⟩ | ⟨d, y, -, d1⟩
      · exact absurd c d
      · exact Or.inl ⟨by rw [cF, d1], m.trans mF⟩
      · omega
    · rcases hd with ⟨d, -, d1⟩ | ⟨d, y, -, d1⟩ | ⟨d, y, -, d1⟩
      · exact absurd c d
      · omega
      · exact Or.inr (by rw [cF, d1, m, (sq c z).2])
  exact ⟨_, w32_r _, by rw [I_w], nofun, hI2, ⟨PT_F hF2 (by decide +kernel) (PT_F hF1 (by decide +kernel) hC.1), TS_F hF2 (by decide +kernel) (TS_F hF1 (by decide +kernel) hC.2.1), TX_F hF2 (by decide +kernel) (TX_F hF1 (by decide +kernel) hC.2.2.1), SHR_F hF2 (by decide +kernel) (SHR_F hF1 (by decide +kernel) hC.2.2.2.1), MC_F hF2 (by decide +kernel) (MC_F hF1 (by decide +kernel) hC.2.2.2.2.1), RK_F hF2 (by decide +kernel) (RK_F hF1 (by decide +kernel) hC.2.2.2.2.2.1), RU_F hF2 (by decide +kernel) (RU_F hF1 (by decide +kernel) hC.2.2.2.2.2.2.1), EA_F hF2 (by decide +kernel) (EA_F hF1 (by decide +kernel) hC.2.2.2.2.2.2.2.1), STA_F hF2 (by decide +kernel) (STA_F hF1 (by decide +kernel) hC.2.2.2.2.2.2.2.2.1), SR_F hF2 (by decide +kernel) (SR_F hF1 (by decide +kernel) hC.2.2.2.2.2.2.2.2.2.1), PRI_F hF2 (by decide +kernel) (PRI_F hF1 (by decide +kernel) hC.2.2.2.2.2.2.2.2.2.2.1), RWS_of rwd hC.2.2.2.2.2.2.2.2.2.2.2⟩⟩
theorem pr_fast {sh : List (Nat × Nat)} {b : Int} {h : aH} (hI : INV sh b h) (hC : CR h) (hb : b ≤ 320000) {x : Int} (rx : r32 x) : CLd SPt 310 mX10_fast [.ref 0, .int (I x)] h 0 0 (PRQ sh b mX11_fast [.ref 171, .int (I x)] false) := by
  obtain ⟨sr, pr, kr, cr⟩ := hC.2.2.2.2.2.2.2.2.1
  have hw := WW_of hI.2.2.2.1
  have mc : gi h 0 9 = gi h 171 7 := hC.2.2.2.2.1
  have g9 := gri 0 8 hI.1 (a := 0) (r := 0) (k := 9) rfl rfl
  obtain ⟨j0, j1, j2, j3, j4, j5, j6⟩ := STR_to hI.1 sr
  have fb : ∀ j : Nat, (j : Int) < gi h 0 9 → gi h 178 (41 + j) = gi h 26 j ∧ 0 ≤ gi h 26 j ∧ gi h 26 j ≤ 99 := fun j hj => by
    have z := (j6 j (by omega) hj).1
    have z : gi h 26 j = if j < 8 then RC h 178 0 (41 + j) else 0 := z
    rw [if_pos (by omega), RC_0 (by omega)] at z
    have y := (hw.2.2.2.2 j (by omega)).1
    have y : 0 ≤ (if j < 8 then RC h 178 0 (41 + j) else 0) ∧ (if j < 8 then RC h 178 0 (41 + j) else 0) ≤ 99 := y
    rw [if_pos (by omega), RC_0 (by omega)] at y
    exact ⟨z.symm, by omega⟩
  refine OP_le (Nat.le_of_ble_eq_true rfl) (ctX10_fastF SPt_mono hI.1 (fd := gi h 26) (ea := gi h 22) (fun j hj => ⟨rfl, (fb j hj).2⟩) (fun j hj => ⟨rfl, grn 0 9 hI.1 (a := 22) (r := 16) rfl rfl (by omega)⟩) rx) ?_
  rintro v h1 ⟨hd, hG1, hF1⟩
  have hI1 : INV sh b h1 := INV_F hI hG1 hF1 (by decide +kernel)
  obtain ⟨e1v, rfl⟩ : ∃ e : Int, v = some (.int (I e)) := by rcases hd with ⟨-, e, -⟩ | ⟨-, q, e, -⟩ <;> exact ⟨_, e⟩
  have e7 : gi h1 171 7 = gi h 0 9 := (FRM_gi hF1 (r := 54) rfl (by decide)).trans mc.symm
  refine ⟨_, w32_r _, by rw [I_w], hI1.1, OP_le (Nat.le_of_ble_eq_true rfl) (ctX11_fastF SPt_mono hI1.1 (fd := gi h 26) (ea := gi h 22) (fun j hj => by rw [e7] at hj; exact ⟨(FRM_gi hF1 (r := 61) rfl (mHas_non (by decide) _)).trans (fb j hj).1, (fb j hj).2⟩) (fun j hj => by rw [e7] at hj; exact ⟨(FRM_gi hF1 (r := 60) rfl (mHas_non (by decide) _)).trans (hC.2.2.2.2.2.2.2.1 j hj).symm, grn 0 9 hI.1 (a := 22) (r := 16) rfl rfl (by omega)⟩) rx) ?_⟩
  rintro v h2 ⟨he, hG2, hF2⟩
  have hI2 : INV sh (b + 600) h2 := (INV_F hI1 hG2 hF2 (by decide +kernel)).mono (by omega)
  rw [e7] at he
  obtain ⟨e2v, rfl, ea⟩ : ∃ e2 : Int, v = some (.int (I e2)) ∧ w32 e2 = w32 e1v := by
    rcases he with ⟨c, rfl, -⟩ | ⟨c, f2, rfl, m2, q2, -⟩
    · rcases hd with ⟨d, ev, -⟩ | ⟨d, f1, ev, m1, q1, -⟩
      · exact ⟨_, rfl, (w32_of ev).symm⟩
      · exact absurd d c
    · rcases hd with ⟨d, ev, -⟩ | ⟨d, f1, ev, m1, q1, -⟩
      · exact absurd c d
      · exact ⟨_, rfl, by rw [w32_of ev, FB_u (S := fun s => 0 ≤ s ∧ s < bShl 1 (gi h 0 9)) m1 m2 q1 q2]⟩
  have cF : crow h2 = crow h1 := crow_F hF2 (by decide +kernel) (by decide +kernel)
  have mF : mrow h1 = mrow h := mrow_F hF1 (by decide +kernel) (by decide +kernel)
  have rwd : RWD h h2 := by
    rcases he with ⟨c, -, m, -⟩ | ⟨c, f2, -, m2, q2, m⟩
    · rcases hd with ⟨d, -, d1⟩ | ⟨d, f1, -, m1, q1, -, d1⟩
      · exact Or.inl ⟨by rw [cF, d1], m.trans mF⟩
      · exact absurd d c
    · rcases hd with ⟨d, -, d1⟩ | ⟨d, f1, -, m1, q1, -, d1⟩
      · exact absurd c d
      · exact Or.inr (by rw [cF, d1, m, FB_u (S := fun s => 0 ≤ s ∧ s < bShl 1 (gi h 0 9)) m1 m2 q1 q2])
  exact ⟨_, w32_r _, by rw [I_w], nofun, hI2, ⟨PT_F hF2 (by decide +kernel) (PT_F hF1 (by decide +kernel) hC.1), TS_F hF2 (by decide +kernel) (TS_F hF1 (by decide +kernel) hC.2.1), TX_F hF2 (by decide +kernel) (TX_F hF1 (by decide +kernel) hC.2.2.1), SHR_F hF2 (by decide +kernel) (SHR_F hF1 (by decide +kernel) hC.2.2.2.1), MC_F hF2 (by decide +kernel) (MC_F hF1 (by decide +kernel) hC.2.2.2.2.1), RK_F hF2 (by decide +kernel) (RK_F hF1 (by decide +kernel) hC.2.2.2.2.2.1), RU_F hF2 (by decide +kernel) (RU_F hF1 (by decide +kernel) hC.2.2.2.2.2.2.1), EA_F hF2 (by decide +kernel) (EA_F hF1 (by decide +kernel) hC.2.2.2.2.2.2.2.1), STA_F hF2 (by decide +kernel) (STA_F hF1 (by decide +kernel) hC.2.2.2.2.2.2.2.2.1), SR_F hF2 (by decide +kernel) (SR_F hF1 (by decide +kernel) hC.2.2.2.2.2.2.2.2.2.1), PRI_F hF2 (by decide +kernel) (PRI_F hF1 (by decide +kernel) hC.2.2.2.2.2.2.2.2.2.2.1), RWS_of rwd hC.2.2.2.2.2.2.2.2.2.2.2⟩⟩
theorem pr_seen {sh : List (Nat × Nat)} {b : Int} {h : aH} (hI : INV sh b h) (hC : CR h) (hb : b ≤ 320000) {x y : Int} (rx : r32 x) (ry : r32 y) : CLd SPt 310 mX10_seen [.ref 0, .int (I x), .int (I y)] h 0 0 (PRQ sh b mX11_seen [.ref 171, .int (I x), .int (I y)] false) := by
  refine OP_le (Nat.le_of_ble_eq_true rfl) (ctX10_seen SPt_mono hI.1 rx ry) ?_
  rintro v h1 ⟨rfl, hG1, hF1, s1, s2⟩
  have hI1 : INV sh b h1 := INV_F hI hG1 hF1 (by decide +kernel)
  refine ⟨_, w32_r _, by rw [I_w], hI1.1, OP_le (Nat.le_of_ble_eq_true rfl) (ctX11_seenF SPt_mono hG1 rx ry) ?_⟩
  rintro v h2 ⟨rfl, hG2, hF2, t1, t2⟩
  have hI2 : INV sh (b + 600) h2 := (INV_F hI1 hG2 hF2 (by decide +kernel)).mono (by omega)
  have e1 : gi h1 193 = gi h 193 := funext fun j => FRM_gi hF1 (a := 193) (r := 76) rfl (mHas_non (by decide) j)
  have e2 : gi h1 194 = gi h 194 := funext fun j => FRM_gi hF1 (a := 194) (r := 77) rfl (mHas_non (by decide) j)
  have e3 : gi h1 171 42 = gi h 171 42 := FRM_gi hF1 (r := 54) rfl (by decide)
  have e4 : gi h2 133 0 = gi h1 133 0 := FRM_gi hF2 (r := 47) rfl (by decide)
  have e5 : ∀ j, gi h2 134 j = gi h1 134 j := fun j => FRM_gi hF2 (r := 48) rfl (mHas_non (by decide) j)
  obtain ⟨c1, c2⟩ := hC.2.2.2.2.2.2.2.2.2.1
  rw [e1, e2, e3] at t1 t2 ⊢
  have ea : seA (snF (gi h 193) (gi h 194) x (gi h 171 42).toNat) (gi h 171 42) x y = seA (gi h 134 x.toNat) (gi h 133 0) x y := by
    by_cases q : (0 ≤ x ∧ x ≤ 24) ∧ 0 ≤ y ∧ y ≤ 8
    · rw [c2 x.toNat (by omega), c1, tn_c q.1.1]
    · unfold seA; rw [if_neg q, if_neg q]
  have eb : seB (snF (gi h 193) (gi h 194) x (gi h 171 42).toNat) (gi h 171 42) x y ↔ seB (gi h 134 x.toNat) (gi h 133 0) x y := by
    by_cases q : (0 ≤ x ∧ x ≤ 24) ∧ 0 ≤ y ∧ y ≤ 8
    · rw [c2 x.toNat (by omega), c1, tn_c q.1.1]
    · exact ⟨fun z => absurd z.1 q, fun z => absurd z.1 q⟩
  have gc := gri 0 12 hI.1 (a := 171) (r := 54) (k := 42) rfl rfl
  have sr : SR h2 := by
    by_cases q : seB (gi h 134 x.toNat) (gi h 133 0) x y
    · obtain ⟨u1, u2, u3⟩ := s1 q
      obtain ⟨w1, w2, w3, w4, w5⟩ := t1 (eb.mpr q)
      refine ⟨by rw [e4, u1, w1, c1], fun k hk => ?_⟩
      rw [e5, w1, show (gi h 171 42 + 1).toNat = (gi h 171 42).toNat + 1 by omega]
      show _ = if gi h2 193 (gi h 171 42).toNat = (k : Int) then gi h2 194 (gi h 171 42).toNat else snF (gi h2 193) (gi h2 194) k (gi h 171 42).toNat
      rw [w2, w3]
      by_cases z : k = x.toNat
      · rw [if_pos (by have := q.1.1; omega), z, u2]
      · rw [if_neg (by have := q.1.1; omega), u3 k z, c2 k hk]
        exact (snF_ext fun i hi => ⟨w4 i (by omega), w5 i (by omega)⟩).symm
    · rw [s2 q] at e4 e5
      obtain ⟨w1, w2, w3⟩ := t2 (fun z => q (eb.mp z))
      refine ⟨by rw [e4, w1, c1], fun k hk => ?_⟩
      rw [e5, w1, w2, w3]
      exact c2 k hk
  exact ⟨_, w32_r _, by rw [I_w], nofun, hI2, ⟨PT_F hF2 (by decide +kernel) (PT_F hF1 (by decide +kernel) hC.1), TS_F hF2 (by decide +kernel) (TS_F hF1 (by decide +kernel) hC.2.1), TX_F hF2 (by decide +kernel) (TX_F hF1 (by decide +kernel) hC.2.2.1), SHR_F hF2 (by decide +kernel) (SHR_F hF1 (by decide +kernel) hC.2.2.2.1), MC_F hF2 (by decide +kernel) (MC_F hF1 (by decide +kernel) hC.2.2.2.2.1), RK_F hF2 (by decide +kernel) (RK_F hF1 (by decide +kernel) hC.2.2.2.2.2.1), RU_F hF2 (by decide +kernel) (RU_F hF1 (by decide +kernel) hC.2.2.2.2.2.2.1), EA_F hF2 (by decide +kernel) (EA_F hF1 (by decide +kernel) hC.2.2.2.2.2.2.2.1), STA_F hF2 (by decide +kernel) (STA_F hF1 (by decide +kernel) hC.2.2.2.2.2.2.2.2.1), sr, PRI_F hF2 (by decide +kernel) (PRI_F hF1 (by decide +kernel) hC.2.2.2.2.2.2.2.2.2.2.1), RWS_F hF2 (by decide +kernel) (RWS_F hF1 (by decide +kernel) hC.2.2.2.2.2.2.2.2.2.2.2)⟩⟩
theorem pr_forget {sh : List (Nat × Nat)} {b : Int} {h : aH} (hI : INV sh b h) (hC : CR h) (hb : b ≤ 320000) : CLd SPt 310 mX10_forget [.ref 0] h 0 0 (PRQ sh b mX11_forget [.ref 171] false) := by
  refine OP_le (Nat.le_of_ble_eq_true rfl) (ctX10_forget SPt_mono hI.1 hI.2.1) ?_
  rintro v h1 ⟨rfl, hG1, hF1, s1, s2⟩
  have hI1 : INV sh b h1 := INV_F hI hG1 hF1 (by decide +kernel)
  refine ⟨_, w32_r _, by rw [I_w], hI1.1, OP_le (Nat.le_of_ble_eq_true rfl) (ctX11_forget SPt_mono hG1) ?_⟩
  rintro v h2 ⟨rfl, hG2, hF2, t1⟩
  have hI2 : INV sh (b + 600) h2 := (INV_F hI1 hG2 hF2 (by decide +kernel)).mono (by omega)
  have e3 : gi h1 171 42 = gi h 171 42 := FRM_gi hF1 (r := 54) rfl (by decide)
  have e4 : gi h2 133 0 = gi h1 133 0 := FRM_gi hF2 (r := 47) rfl (by decide)
  have e5 : ∀ j, gi h2 134 j = gi h1 134 j := fun j => FRM_gi hF2 (r := 48) rfl (mHas_non (by decide) j)
  have sr : SR h2 := ⟨by rw [e4, s1, t1], fun k hk => by rw [e5, s2 k (by omega), t1]; rfl⟩
  exact ⟨_, w32_r _, by rw [I_w], nofun, hI2, ⟨PT_F hF2 (by decide +kernel) (PT_F hF1 (by decide +kernel) hC.1), TS_F hF2 (by decide +kernel) (TS_F hF1 (by decide +kernel) hC.2.1), TX_F hF2 (by decide +kernel) (TX_F hF1 (by decide +kernel) hC.2.2.1), SHR_F hF2 (by decide +kernel) (SHR_F hF1 (by decide +kernel) hC.2.2.2.1), MC_F hF2 (by decide +kernel) (MC_F hF1 (by decide +kernel) hC.2.2.2.2.1), RK_F hF2 (by decide +kernel) (RK_F hF1 (by decide +kernel) hC.2.2.2.2.2.1), RU_F hF2 (by decide +kernel) (RU_F hF1 (by decide +kernel) hC.2.2.2.2.2.2.1), EA_F hF2 (by decide +kernel) (EA_F hF1 (by decide +kernel) hC.2.2.2.2.2.2.2.1), STA_F hF2 (by decide +kernel) (STA_F hF1 (by decide +kernel) hC.2.2.2.2.2.2.2.2.1), sr, PRI_F hF2 (by decide +kernel) (PRI_F hF1 (by decide +kernel) hC.2.2.2.2.2.2.2.2.2.2.1), RWS_F hF2 (by decide +kernel) (RWS_F hF1 (by decide +kernel) hC.2.2.2.2.2.2.2.2.2.2.2)⟩⟩
theorem pr_ordered {sh : List (Nat × Nat)} {b : Int} {h : aH} (hI : INV sh b h) (hC : CR h) (hb : b ≤ 320000) : CLd SPt 310 mX10_ordered [.ref 0] h 0 0 (PRQ sh b mX11_ordered [.ref 171] false) := by
  refine OP_le (Nat.le_of_ble_eq_true rfl) (ctX10_ordered SPt_mono hI.1 hC.1) ?_
  rintro v h1 ⟨hc, hG1, hF1⟩
  have hI1 : INV sh b h1 := INV_F hI hG1 hF1 (by decide +kernel)
  have ev : v = some (.int (I (if gi h 133 0 = 0 then -1 else min 1000000 (cwF (fun k : Int => gi h 134 k.toNat) (lcF (gi h 134) 24) (lcF (gi h 134) 24).toNat 4)))) := by
    rcases hc with ⟨c, e, -⟩ | ⟨c, e, -⟩
    · rw [if_pos c]; exact e
    · rw [if_neg c]; exact e
  subst ev
  refine ⟨_, w32_r _, by rw [I_w], hI1.1, OP_le (Nat.le_of_ble_eq_true rfl) (ctX11_ordered SPt_mono hI1.1) ?_⟩
  rintro v h2 ⟨hd, hG2, hF2, -⟩
  have hI2 : INV sh (b + 600) h2 := (INV_F hI1 hG2 hF2 (by decide +kernel)).mono (by omega)
  have e1 : gi h1 193 = gi h 193 := funext fun j => FRM_gi hF1 (a := 193) (r := 76) rfl (mHas_non (by decide) j)
  have e2 : gi h1 194 = gi h 194 := funext fun j => FRM_gi hF1 (a := 194) (r := 77) rfl (mHas_non (by decide) j)
  have e3 : gi h1 171 42 = gi h 171 42 := FRM_gi hF1 (r := 54) rfl (by decide)
  obtain ⟨c1, c2⟩ := hC.2.2.2.2.2.2.2.2.2.1
  rw [e1, e2, e3] at hd
  have ev : v = some (.int (I (if gi h 133 0 = 0 then -1 else min 1000000 (cwF (fun k : Int => gi h 134 k.toNat) (lcF (gi h 134) 24) (lcF (gi h 134) 24).toNat 4)))) := by
    rcases hd with ⟨c, e, -⟩ | ⟨c, e, -⟩
    · rw [if_pos (c1.trans c)]; exact e
    · rw [if_neg (by omega), ← ord_eq hI.1 c2 c]; exact e
  subst ev
  have cF : crow h2 = crow h1 := crow_F hF2 (by decide +kernel) (by decide +kernel)
  have mF : mrow h1 = mrow h := mrow_F hF1 (by decide +kernel) (by decide +kernel)
  have rwd : RWD h h2 := by
    rcases hd with ⟨c, -, m⟩ | ⟨c, -, m⟩
    · rcases hc with ⟨d, -, d1⟩ | ⟨d, -, d1⟩
      · exact Or.inl ⟨by rw [cF, d1], m.trans mF⟩
      · omega
    · rcases hc with ⟨d, -, d1⟩ | ⟨d, -, d1⟩
      · omega
      · exact Or.inr (by rw [cF, d1, m, ord_row hI.1 c2 c])
  exact ⟨_, w32_r _, by rw [I_w], nofun, hI2, ⟨PT_F hF2 (by decide +kernel) (PT_F hF1 (by decide +kernel) hC.1), TS_F hF2 (by decide +kernel) (TS_F hF1 (by decide +kernel) hC.2.1), TX_F hF2 (by decide +kernel) (TX_F hF1 (by decide +kernel) hC.2.2.1), SHR_F hF2 (by decide +kernel) (SHR_F hF1 (by decide +kernel) hC.2.2.2.1), MC_F hF2 (by decide +kernel) (MC_F hF1 (by decide +kernel) hC.2.2.2.2.1), RK_F hF2 (by decide +kernel) (RK_F hF1 (by decide +kernel) hC.2.2.2.2.2.1), RU_F hF2 (by decide +kernel) (RU_F hF1 (by decide +kernel) hC.2.2.2.2.2.2.1), EA_F hF2 (by decide +kernel) (EA_F hF1 (by decide +kernel) hC.2.2.2.2.2.2.2.1), STA_F hF2 (by decide +kernel) (STA_F hF1 (by decide +kernel) hC.2.2.2.2.2.2.2.2.1), SR_F hF2 (by decide +kernel) (SR_F hF1 (by decide +kernel) hC.2.2.2.2.2.2.2.2.2.1), PRI_F hF2 (by decide +kernel) (PRI_F hF1 (by decide +kernel) hC.2.2.2.2.2.2.2.2.2.2.1), RWS_of rwd hC.2.2.2.2.2.2.2.2.2.2.2⟩⟩
theorem pr_unsure {sh : List (Nat × Nat)} {b : Int} {h : aH} (hI : INV sh b h) (hC : CR h) (hb : b ≤ 320000) : CLd SPt 310 mX10_unsure [.ref 0] h 0 0 (PRQ sh b mX11_unsure [.ref 171] false) := by
  refine OP_le (Nat.le_of_ble_eq_true rfl) (ctX10_unsure SPt_mono hI.1 hC.1) ?_
  rintro v h1 ⟨hc, hG1, hF1⟩
  have hI1 : INV sh b h1 := INV_F hI hG1 hF1 (by decide +kernel)
  have ev : v = some (.int (I (if gi h 133 0 = 0 then -2 else if (uF (pcF (fun k : Int => gi h 134 k.toNat) (lcF (gi h 134) 24))) 0 = 0 then -2 else (bsF (uF (pcF (fun k : Int => gi h 134 k.toNat) (lcF (gi h 134) 24))) (lcF (gi h 134) 24).toNat).1))) := by
    rcases hc with ⟨c, e, -⟩ | ⟨c, z, e, -⟩ | ⟨c, z, e, -⟩
    · rw [if_pos c]; exact e
    · rw [if_neg c, if_pos z]; exact e
    · rw [if_neg c, if_neg z]; exact e
  subst ev
  refine ⟨_, w32_r _, by rw [I_w], hI1.1, OP_le (Nat.le_of_ble_eq_true rfl) (ctX11_unsureF SPt_mono hI1.1) ?_⟩
  rintro v h2 ⟨hd, hG2, hF2, -⟩
  have hI2 : INV sh (b + 600) h2 := (INV_F hI1 hG2 hF2 (by decide +kernel)).mono (by omega)
  have e1 : gi h1 193 = gi h 193 := funext fun j => FRM_gi hF1 (a := 193) (r := 76) rfl (mHas_non (by decide) j)
  have e2 : gi h1 194 = gi h 194 := funext fun j => FRM_gi hF1 (a := 194) (r := 77) rfl (mHas_non (by decide) j)
  have e3 : gi h1 171 42 = gi h 171 42 := FRM_gi hF1 (r := 54) rfl (by decide)
  obtain ⟨c1, c2⟩ := hC.2.2.2.2.2.2.2.2.2.1
  rw [e1, e2, e3] at hd
  have gn := gri 0 12 hI.1 (a := 171) (r := 54) (k := 42) rfl rfl
  have lb := lcF_b (gi h 134) 24
  have ev : v = some (.int (I (if gi h 133 0 = 0 then -2 else if (uF (pcF (fun k : Int => gi h 134 k.toNat) (lcF (gi h 134) 24))) 0 = 0 then -2 else (bsF (uF (pcF (fun k : Int => gi h 134 k.toNat) (lcF (gi h 134) 24))) (lcF (gi h 134) 24).toNat).1))) := by
    rcases hd with ⟨c, e, -⟩ | ⟨c, z, e, -⟩ | ⟨c, z, e, -⟩
    · rw [if_pos (c1.trans c)]; exact e
    · obtain ⟨u1, u2, u3⟩ := uns_eq hI.1 c2 c
      rw [u1] at z
      rw [if_neg (by omega), if_pos (Classical.byContradiction fun y => z (u2.mpr y))]; exact e
    · obtain ⟨u1, u2, u3⟩ := uns_eq hI.1 c2 c
      rw [u1] at z e
      rw [if_neg (by omega), if_neg (u2.mp z), ← u3 _ (by omega)]; exact e
  subst ev
  have cF : crow h2 = crow h1 := crow_F hF2 (by decide +kernel) (by decide +kernel)
  have mF : mrow h1 = mrow h := mrow_F hF1 (by decide +kernel) (by decide +kernel)
  have rwd : RWD h h2 := by
    rcases hd with ⟨c, -, m⟩ | ⟨c, z, -, m⟩ | ⟨c, z, -, m⟩
    · rcases hc with ⟨d, -, d1⟩ | ⟨d, y, -, d1⟩ | ⟨d, y, -, d1⟩
      · exact Or.inl ⟨by rw [cF, d1], m.trans mF⟩
      · omega
      · omega
    · obtain ⟨u1, u2, u3⟩ := uns_eq hI.1 c2 c
      rw [u1] at z
      rcases hc with ⟨d, -, d1⟩ | ⟨d, y, -, d1⟩ | ⟨d, y, -, d1⟩
      · omega
      · exact Or.inl ⟨by rw [cF, d1], m.trans mF⟩
      · exact absurd (u2.mpr y) z
    · obtain ⟨u1, u2, u3⟩ := uns_eq hI.1 c2 c
      rw [u1] at z m
      rcases hc with ⟨d, -, d1⟩ | ⟨d, y, -, d1⟩ | ⟨d, y, -, d1⟩
      · omega
      · exact absurd y (u2.mp z)
      · exact Or.inr (by rw [cF, d1, m, u3 _ (by omega)])
  exact ⟨_, w32_r _, by rw [I_w], nofun, hI2, ⟨PT_F hF2 (by decide +kernel) (PT_F hF1 (by decide +kernel) hC.1), TS_F hF2 (by decide +kernel) (TS_F hF1 (by decide +kernel) hC.2.1), TX_F hF2 (by decide +kernel) (TX_F hF1 (by decide +kernel) hC.2.2.1), SHR_F hF2 (by decide +kernel) (SHR_F hF1 (by decide +kernel) hC.2.2.2.1), MC_F hF2 (by decide +kernel) (MC_F hF1 (by decide +kernel) hC.2.2.2.2.1), RK_F hF2 (by decide +kernel) (RK_F hF1 (by decide +kernel) hC.2.2.2.2.2.1), RU_F hF2 (by decide +kernel) (RU_F hF1 (by decide +kernel) hC.2.2.2.2.2.2.1), EA_F hF2 (by decide +kernel) (EA_F hF1 (by decide +kernel) hC.2.2.2.2.2.2.2.1), STA_F hF2 (by decide +kernel) (STA_F hF1 (by decide +kernel) hC.2.2.2.2.2.2.2.2.1), SR_F hF2 (by decide +kernel) (SR_F hF1 (by decide +kernel) hC.2.2.2.2.2.2.2.2.2.1), PRI_F hF2 (by decide +kernel) (PRI_F hF1 (by decide +kernel) hC.2.2.2.2.2.2.2.2.2.2.1), RWS_of rwd hC.2.2.2.2.2.2.2.2.2.2.2⟩⟩
theorem pr_boy {sh : List (Nat × Nat)} {b : Int} {h : aH} (hI : INV sh b h) (hC : CR h) (hb : b ≤ 320000) {x y : Int} (rx : r32 x) (ry : r32 y) : CLd SPt 310 mX10_boy [.ref 0, .int (I x), .int (I y)] h 0 0 (PRQ sh b mX11_boy [.ref 171, .int (I x), .int (I y)] false) := by
  obtain ⟨s, t, hw, c0, c1, c2, c3⟩ := hC.2.2.2.1
  have h5 : s = 5 ∨ s = 8 := by have := hw.1; omega
  have hL : 2 ≤ gi h s 0 ∧ gi h s 0 ≤ 40 := by rw [c0]; exact gri 2 40 hI.1 (a := 171) (r := 54) (k := 3) rfl rfl
  refine OP_le (Nat.le_of_ble_eq_true rfl) (ctX10_boy SPt_mono hI.1 hC.1 hw hL rx ry) ?_
  rintro v h1 ⟨rfl, hG1, hF1, d1⟩
  have hI1 : INV sh b h1 := INV_F hI hG1 hF1 (by decide +kernel)
  refine ⟨_, w32_r _, by rw [I_w], hI1.1, OP_le (Nat.le_of_ble_eq_true rfl) (ctX11_boy SPt_mono hI1.1 rx ry) ?_⟩
  rintro v h2 ⟨rfl, hG2, hF2, -, m⟩
  have hI2 : INV sh (b + 600) h2 := (INV_F hI1 hG2 hF2 (by decide +kernel)).mono (by omega)
  have e3 : gi h1 171 3 = gi h 171 3 := FRM_gi hF1 (r := 54) rfl (by decide)
  have cF : crow h2 = crow h1 := crow_F hF2 (by decide +kernel) (by decide +kernel)
  have mF : mrow h1 = mrow h := mrow_F hF1 (by decide +kernel) (by decide +kernel)
  rw [e3, ← c0] at m
  have rwd : RWD h h2 := by
    by_cases c : (0 ≤ x ∧ x ≤ 99999) ∧ 2 ≤ y ∧ y ≤ 9
    · rw [if_pos c] at d1 m
      exact Or.inr (by rw [cF, d1, m])
    · rw [if_neg c] at d1 m
      exact Or.inl ⟨by rw [cF, d1], m.trans mF⟩
  exact ⟨_, w32_r _, by rw [I_w], nofun, hI2, ⟨PT_F hF2 (by decide +kernel) (PT_F hF1 (by decide +kernel) hC.1), TS_F hF2 (by decide +kernel) (TS_F hF1 (by decide +kernel) hC.2.1), TX_F hF2 (by decide +kernel) (TX_F hF1 (by decide +kernel) hC.2.2.1), SHR_F hF2 (by decide +kernel) (SHR_F hF1 (by decide +kernel) hC.2.2.2.1), MC_F hF2 (by decide +kernel) (MC_F hF1 (by decide +kernel) hC.2.2.2.2.1), RK_F hF2 (by decide +kernel) (RK_F hF1 (by decide +kernel) hC.2.2.2.2.2.1), RU_F hF2 (by decide +kernel) (RU_F hF1 (by decide +kernel) hC.2.2.2.2.2.2.1), EA_F hF2 (by decide +kernel) (EA_F hF1 (by decide +kernel) hC.2.2.2.2.2.2.2.1), STA_F hF2 (by decide +kernel) (STA_F hF1 (by decide +kernel) hC.2.2.2.2.2.2.2.2.1), SR_F hF2 (by decide +kernel) (SR_F hF1 (by decide +kernel) hC.2.2.2.2.2.2.2.2.2.1), PRI_F hF2 (by decide +kernel) (PRI_F hF1 (by decide +kernel) hC.2.2.2.2.2.2.2.2.2.2.1), RWS_of rwd hC.2.2.2.2.2.2.2.2.2.2.2⟩⟩
theorem pr_meets {sh : List (Nat × Nat)} {b : Int} {h : aH} (hI : INV sh b h) (hC : CR h) (hb : b ≤ 320000) {x : Int} (rx : r32 x) : CLd SPt 310 mX10_meets [.ref 0, .int (I x)] h 0 0 (PRQ sh b mX11_meets [.ref 171, .int (I x)] false) := by
  obtain ⟨s, t, hw, c0, c1, c2, c3⟩ := hC.2.2.2.1
  have h5 : s = 5 ∨ s = 8 := by have := hw.1; omega
  have hL : 2 ≤ gi h s 0 ∧ gi h s 0 ≤ 40 := by rw [c0]; exact gri 2 40 hI.1 (a := 171) (r := 54) (k := 3) rfl rfl
  refine OP_le (Nat.le_of_ble_eq_true rfl) (ctX10_meets SPt_mono hI.1 hC.1 hw hL rx) ?_
  rintro v h1 ⟨rfl, hG1, hF1, d1⟩
  have hI1 : INV sh b h1 := INV_F hI hG1 hF1 (by decide +kernel)
  refine ⟨_, w32_r _, by rw [I_w], hI1.1, OP_le (Nat.le_of_ble_eq_true rfl) (ctX11_meets SPt_mono hI1.1 rx) ?_⟩
  rintro v h2 ⟨rfl, hG2, hF2, -, m⟩
  have hI2 : INV sh (b + 600) h2 := (INV_F hI1 hG2 hF2 (by decide +kernel)).mono (by omega)
  have e3 : gi h1 171 3 = gi h 171 3 := FRM_gi hF1 (r := 54) rfl (by decide)
  have cF : crow h2 = crow h1 := crow_F hF2 (by decide +kernel) (by decide +kernel)
  have mF : mrow h1 = mrow h := mrow_F hF1 (by decide +kernel) (by decide +kernel)
  rw [e3, ← c0] at m
  have rwd : RWD h h2 := by
    by_cases c : (2 ≤ x ∧ x ≤ 9) ∧ 0 < mtG (gi h s 0) x 999
    · rw [if_pos c] at d1 m
      exact Or.inr (by rw [cF, d1, m])
    · rw [if_neg c] at d1 m
      exact Or.inl ⟨by rw [cF, d1], m.trans mF⟩
  exact ⟨_, w32_r _, by rw [I_w], nofun, hI2, ⟨PT_F hF2 (by decide +kernel) (PT_F hF1 (by decide +kernel) hC.1), TS_F hF2 (by decide +kernel) (TS_F hF1 (by decide +kernel) hC.2.1), TX_F hF2 (by decide +kernel) (TX_F hF1 (by decide +kernel) hC.2.2.1), SHR_F hF2 (by decide +kernel) (SHR_F hF1 (by decide +kernel) hC.2.2.2.1), MC_F hF2 (by decide +kernel) (MC_F hF1 (by decide +kernel) hC.2.2.2.2.1), RK_F hF2 (by decide +kernel) (RK_F hF1 (by decide +kernel) hC.2.2.2.2.2.1), RU_F hF2 (by decide +kernel) (RU_F hF1 (by decide +kernel) hC.2.2.2.2.2.2.1), EA_F hF2 (by decide +kernel) (EA_F hF1 (by decide +kernel) hC.2.2.2.2.2.2.2.1), STA_F hF2 (by decide +kernel) (STA_F hF1 (by decide +kernel) hC.2.2.2.2.2.2.2.2.1), SR_F hF2 (by decide +kernel) (SR_F hF1 (by decide +kernel) hC.2.2.2.2.2.2.2.2.2.1), PRI_F hF2 (by decide +kernel) (PRI_F hF1 (by decide +kernel) hC.2.2.2.2.2.2.2.2.2.2.1), RWS_of rwd hC.2.2.2.2.2.2.2.2.2.2.2⟩⟩
theorem pr_knows {sh : List (Nat × Nat)} {b : Int} {h : aH} (hI : INV sh b h) (hC : CR h) (hb : b ≤ 320000) {x y : Int} (rx : r32 x) (ry : r32 y) : CLd SPt 310 mX10_knows [.ref 0, .int (I x), .int (I y)] h 0 0 (PRQ sh b mX11_knows [.ref 171, .int (I x), .int (I y)] false) := by
  refine OP_le (Nat.le_of_ble_eq_true rfl) (ctX10_knowsW SPt_mono hI.1 rx ry) ?_
  rintro v h1 ⟨hd, hG1, hF1⟩
  have hI1 : INV sh b h1 := INV_F hI hG1 hF1 (by decide +kernel)
  have ev : v = some (.int (I (if (0 ≤ x ∧ x ≤ 12) ∧ 0 ≤ y ∧ y ≤ 10 then 0 else -1))) := by
    rcases hd with ⟨c, e, -⟩ | ⟨c, e, -⟩
    · rw [if_pos c]; exact e
    · rw [if_neg c]; exact e
  subst ev
  refine ⟨_, w32_r _, by rw [I_w], hI1.1, OP_le (Nat.le_of_ble_eq_true rfl) (ctX11_knowsW SPt_mono hI1.1 rx ry) ?_⟩
  rintro v h2 ⟨he, hG2, hF2⟩
  have hI2 : INV sh (b + 600) h2 := (INV_F hI1 hG2 hF2 (by decide +kernel)).mono (by omega)
  have ev : v = some (.int (I (if (0 ≤ x ∧ x ≤ 12) ∧ 0 ≤ y ∧ y ≤ 10 then 0 else -1))) := by
    rcases he with ⟨c, e, -⟩ | ⟨c, e, -⟩
    · rw [if_pos c]; exact e
    · rw [if_neg c]; exact e
  subst ev
  have cF : crow h2 = crow h1 := crow_F hF2 (by decide +kernel) (by decide +kernel)
  have mF : mrow h1 = mrow h := mrow_F hF1 (by decide +kernel) (by decide +kernel)
  have rwd : RWD h h2 := by
    rcases he with ⟨c, -, m⟩ | ⟨c, -, m⟩
    · rcases hd with ⟨d, -, d1⟩ | ⟨d, -, d1⟩
      · exact Or.inr (by rw [cF, d1, m, (kn_ok (by omega) (by omega)).1])
      · exact absurd c d
    · rcases hd with ⟨d, -, d1⟩ | ⟨d, -, d1⟩
      · exact absurd d c
      · exact Or.inl ⟨by rw [cF, d1], m.trans mF⟩
  exact ⟨_, w32_r _, by rw [I_w], nofun, hI2, ⟨PT_F hF2 (by decide +kernel) (PT_F hF1 (by decide +kernel) hC.1), TS_F hF2 (by decide +kernel) (TS_F hF1 (by decide +kernel) hC.2.1), TX_F hF2 (by decide +kernel) (TX_F hF1 (by decide +kernel) hC.2.2.1), SHR_F hF2 (by decide +kernel) (SHR_F hF1 (by decide +kernel) hC.2.2.2.1), MC_F hF2 (by decide +kernel) (MC_F hF1 (by decide +kernel) hC.2.2.2.2.1), RK_F hF2 (by decide +kernel) (RK_F hF1 (by decide +kernel) hC.2.2.2.2.2.1), RU_F hF2 (by decide +kernel) (RU_F hF1 (by decide +kernel) hC.2.2.2.2.2.2.1), EA_F hF2 (by decide +kernel) (EA_F hF1 (by decide +kernel) hC.2.2.2.2.2.2.2.1), STA_F hF2 (by decide +kernel) (STA_F hF1 (by decide +kernel) hC.2.2.2.2.2.2.2.2.1), SR_F hF2 (by decide +kernel) (SR_F hF1 (by decide +kernel) hC.2.2.2.2.2.2.2.2.2.1), PRI_F hF2 (by decide +kernel) (PRI_F hF1 (by decide +kernel) hC.2.2.2.2.2.2.2.2.2.2.1), RWS_of rwd hC.2.2.2.2.2.2.2.2.2.2.2⟩⟩
theorem pr_mutiny {sh : List (Nat × Nat)} {b : Int} {h : aH} (hI : INV sh b h) (hC : CR h) (hb : b ≤ 320000) {x y z : Int} (rx : r32 x) (ry : r32 y) (rz : r32 z) : CLd SPt 310 mX10_mutiny [.ref 0, .int (I x), .int (I y), .int (I z)] h 0 0 (PRQ sh b mX11_mutiny [.ref 171, .int (I x), .int (I y), .int (I z)] false) := by
  refine OP_le (Nat.le_of_ble_eq_true rfl) (ctX10_mutiny SPt_mono hI.1 rx ry rz) ?_
  rintro v h1 ⟨hc, hG1, hF1⟩
  have hI1 : INV sh b h1 := INV_F hI hG1 hF1 (by decide +kernel)
  have ev : v = some (.int (I (if (1 ≤ x ∧ x ≤ 20) ∧ (1 ≤ y ∧ y ≤ 20) ∧ 1 ≤ z ∧ z ≤ 18 then (((mtX x y z (min 9 x + 1).toNat).length : Nat) : Int) else -1))) := by
    rcases hc with ⟨c, e, -⟩ | ⟨c, e, -⟩
    · rw [if_pos c]; exact e
    · rw [if_neg c]; exact e
  subst ev
  refine ⟨_, w32_r _, by rw [I_w], hI1.1, OP_le (Nat.le_of_ble_eq_true rfl) (ctX11_mutiny SPt_mono hG1 rx ry rz) ?_⟩
  rintro v h2 ⟨hd, hG2, hF2, -⟩
  have hI2 : INV sh (b + 600) h2 := (INV_F hI1 hG2 hF2 (by decide +kernel)).mono (by omega)
  have ev : v = some (.int (I (if (1 ≤ x ∧ x ≤ 20) ∧ (1 ≤ y ∧ y ≤ 20) ∧ 1 ≤ z ∧ z ≤ 18 then (((mtX x y z (min 9 x + 1).toNat).length : Nat) : Int) else -1))) := by
    rcases hd with ⟨c, e, -⟩ | ⟨c, e, -⟩
    · rw [if_pos c]; exact e
    · rw [if_neg c]; exact e
  subst ev
  have cF : crow h2 = crow h1 := crow_F hF2 (by decide +kernel) (by decide +kernel)
  have mF : mrow h1 = mrow h := mrow_F hF1 (by decide +kernel) (by decide +kernel)
  have rwd : RWD h h2 := by
    rcases hd with ⟨c, -, m⟩ | ⟨c, -, m⟩
    · rcases hc with ⟨d, -, d1⟩ | ⟨d, -, d1⟩
      · exact Or.inr (by rw [cF, d1, m])
      · exact absurd c d
    · rcases hc with ⟨d, -, d1⟩ | ⟨d, -, d1⟩
      · exact absurd d c
      · exact Or.inl ⟨by rw [cF, d1], m.trans mF⟩
  exact ⟨_, w32_r _, by rw [I_w], nofun, hI2, ⟨PT_F hF2 (by decide +kernel) (PT_F hF1 (by decide +kernel) hC.1), TS_F hF2 (by decide +kernel) (TS_F hF1 (by decide +kernel) hC.2.1), TX_F hF2 (by decide +kernel) (TX_F hF1 (by decide +kernel) hC.2.2.1), SHR_F hF2 (by decide +kernel) (SHR_F hF1 (by decide +kernel) hC.2.2.2.1), MC_F hF2 (by decide +kernel) (MC_F hF1 (by decide +kernel) hC.2.2.2.2.1), RK_F hF2 (by decide +kernel) (RK_F hF1 (by decide +kernel) hC.2.2.2.2.2.1), RU_F hF2 (by decide +kernel) (RU_F hF1 (by decide +kernel) hC.2.2.2.2.2.2.1), EA_F hF2 (by decide +kernel) (EA_F hF1 (by decide +kernel) hC.2.2.2.2.2.2.2.1), STA_F hF2 (by decide +kernel) (STA_F hF1 (by decide +kernel) hC.2.2.2.2.2.2.2.2.1), SR_F hF2 (by decide +kernel) (SR_F hF1 (by decide +kernel) hC.2.2.2.2.2.2.2.2.2.1), PRI_F hF2 (by decide +kernel) (PRI_F hF1 (by decide +kernel) hC.2.2.2.2.2.2.2.2.2.2.1), RWS_of rwd hC.2.2.2.2.2.2.2.2.2.2.2⟩⟩
theorem pr_chance {sh : List (Nat × Nat)} {b : Int} {h : aH} (hI : INV sh b h) (hC : CR h) (hb : b ≤ 320000) {x y z : Int} (rx : r32 x) (ry : r32 y) (rz : r32 z) : CLd SPt 310 mX10_chance [.ref 0, .int (I x), .int (I y), .int (I z)] h 0 0 (PRQ sh b mX11_chance [.ref 171, .int (I x), .int (I y), .int (I z)] false) := by
  obtain ⟨sr, pr, kr, cr⟩ := hC.2.2.2.2.2.2.2.2.1
  have hw := WW_of hI.2.2.2.1
  have mc : gi h 0 9 = gi h 171 7 := hC.2.2.2.2.1
  have g9 := gri 0 8 hI.1 (a := 0) (r := 0) (k := 9) rfl rfl
  obtain ⟨s, t, hsw, c0, c1, c2, c3⟩ := hC.2.2.2.1
  obtain ⟨u, v0, hlw, r0, r1, r2, r3⟩ := hC.2.2.2.2.2.2.1
  have hD : DR h s u := DR_of hsw c0 c1 c2 hlw r0 r1 r2 r3
  have n0 : gi h 23 0 = gi h 178 0 := sr.2.1.trans (RC_0 (a := 178) (k := 0) (by omega))
  have h0 := hw.1.1
  have h0 : 0 ≤ gi h 23 0 := by rw [show gi h 23 0 = (vw (RC h 178 0)).1 from sr.2.1]; exact h0
  refine OP_le (Nat.le_of_ble_eq_true rfl) (ctX10_chanceW SPt_mono hI.1 hC.1 hI.2.1 hD h0 rx ry rz) ?_
  rintro v h1 ⟨hd, hG1, hF1⟩
  have hI1 : INV sh b h1 := INV_F hI hG1 hF1 (by decide +kernel)
  have ev : v = some (.int (I (if (1 ≤ x ∧ x ≤ 12) ∧ (0 ≤ y ∧ y ≤ 10) ∧ 0 ≤ z ∧ z ≤ 12 then 0 else -1))) := by
    rcases hd with ⟨c, e, -⟩ | ⟨c, e, -⟩
    · rw [if_pos c]; exact e
    · rw [if_neg c]; exact e
  subst ev
  have e1780 : gi h1 178 0 = gi h 23 0 := (FRM_gi hF1 (r := 61) rfl (mHas_non (by decide) 0)).trans n0.symm
  refine ⟨_, w32_r _, by rw [I_w], hI1.1, OP_le (Nat.le_of_ble_eq_true rfl) (ctX11_chanceW SPt_mono hI1.1 hI1.2.1 (by rw [e1780]; exact h0) rx ry rz) ?_⟩
  rintro v h2 ⟨he, hG2, hF2⟩
  have hI2 : INV sh (b + 600) h2 := (INV_F hI1 hG2 hF2 (by decide +kernel)).mono (by omega)
  have ed : dlA h1 = dlA h := funext fun z => dlA_F hF1 (by decide) z
  rw [e1780, ed] at he
  have ev : v = some (.int (I (if (1 ≤ x ∧ x ≤ 12) ∧ (0 ≤ y ∧ y ≤ 10) ∧ 0 ≤ z ∧ z ≤ 12 then 0 else -1))) := by
    rcases he with ⟨c, e, -⟩ | ⟨c, e, -⟩
    · rw [if_pos c]; exact e
    · rw [if_neg c]; exact e
  subst ev
  have cF : crow h2 = crow h1 := crow_F hF2 (by decide +kernel) (by decide +kernel)
  have mF : mrow h1 = mrow h := mrow_F hF1 (by decide +kernel) (by decide +kernel)
  have rwd : RWD h h2 := by
    rcases he with ⟨c, -, m⟩ | ⟨c, -, m⟩
    · rcases hd with ⟨d, -, d1⟩ | ⟨d, -, d1⟩
      · (refine Or.inr ?_; rw [cF, d1, m, fr_11, (ch_ok (by omega) (by omega)).1])
      · exact absurd c d
    · rcases hd with ⟨d, -, d1⟩ | ⟨d, -, d1⟩
      · exact absurd d c
      · exact Or.inl ⟨by rw [cF, d1], m.trans mF⟩
  exact ⟨_, w32_r _, by rw [I_w], nofun, hI2, ⟨PT_F hF2 (by decide +kernel) (PT_F hF1 (by decide +kernel) hC.1), TS_F hF2 (by decide +kernel) (TS_F hF1 (by decide +kernel) hC.2.1), TX_F hF2 (by decide +kernel) (TX_F hF1 (by decide +kernel) hC.2.2.1), SHR_F hF2 (by decide +kernel) (SHR_F hF1 (by decide +kernel) hC.2.2.2.1), MC_F hF2 (by decide +kernel) (MC_F hF1 (by decide +kernel) hC.2.2.2.2.1), RK_F hF2 (by decide +kernel) (RK_F hF1 (by decide +kernel) hC.2.2.2.2.2.1), RU_F hF2 (by decide +kernel) (RU_F hF1 (by decide +kernel) hC.2.2.2.2.2.2.1), EA_F hF2 (by decide +kernel) (EA_F hF1 (by decide +kernel) hC.2.2.2.2.2.2.2.1), STA_F hF2 (by decide +kernel) (STA_F hF1 (by decide +kernel) hC.2.2.2.2.2.2.2.2.1), SR_F hF2 (by decide +kernel) (SR_F hF1 (by decide +kernel) hC.2.2.2.2.2.2.2.2.2.1), PRI_F hF2 (by decide +kernel) (PRI_F hF1 (by decide +kernel) hC.2.2.2.2.2.2.2.2.2.2.1), RWS_of rwd hC.2.2.2.2.2.2.2.2.2.2.2⟩⟩
theorem pr_voyages {sh : List (Nat × Nat)} {b : Int} {h : aH} (hI : INV sh b h) (hC : CR h) (hb : b ≤ 320000) {x y : Int} (rx : r32 x) (ry : r32 y) : CLd SPt 310 mX10_voyages [.ref 0, .int (I x), .int (I y)] h 0 0 (PRQ sh b mX11_voyages [.ref 171, .int (I x), .int (I y)] false) := by
  obtain ⟨sr, pr, kr, cr⟩ := hC.2.2.2.2.2.2.2.2.1
  have hw := WW_of hI.2.2.2.1
  have mc : gi h 0 9 = gi h 171 7 := hC.2.2.2.2.1
  have g9 := gri 0 8 hI.1 (a := 0) (r := 0) (k := 9) rfl rfl
  obtain ⟨s, t, hsw, c0, c1, c2, c3⟩ := hC.2.2.2.1
  obtain ⟨u, v0, hlw, r0, r1, r2, r3⟩ := hC.2.2.2.2.2.2.1
  have hD : DR h s u := DR_of hsw c0 c1 c2 hlw r0 r1 r2 r3
  obtain ⟨k0, k1⟩ := hC.2.2.2.2.2.1
  have hea : ∀ m : Nat, (m : Int) < gi h 0 9 → gi h 22 m = gi h 177 m ∧ 0 ≤ gi h 177 m ∧ gi h 177 m ≤ 9 := fun m hm => ⟨hC.2.2.2.2.2.2.2.1 m hm, by rw [← hC.2.2.2.2.2.2.2.1 m hm]; exact grn 0 9 hI.1 (a := 22) (r := 16) rfl rfl (by omega)⟩
  refine OP_le (Nat.le_of_ble_eq_true rfl) (ctX10_voyagesF SPt_mono hI.1 hC.1 hI.2.1 hD (b := b) (w := (vw (RC h 178 0))) sr hw (by omega) (ml := gi h 175) (ln := gi h 176) (ea := gi h 177) k1 hea rx ry) ?_
  rintro v h1 ⟨hd, hG1, hF1⟩
  have hI1 : INV sh b h1 := INV_F hI hG1 hF1 (by decide +kernel)
  obtain ⟨e1v, rfl⟩ : ∃ e : Int, v = some (.int (I e)) := by rcases hd with ⟨-, e, -⟩ | ⟨-, e, -⟩ <;> exact ⟨_, e⟩
  refine ⟨_, w32_r _, by rw [I_w], hI1.1, OP_le (Nat.le_of_ble_eq_true rfl) (ctX11_voyagesF SPt_mono hI1.1 hI1.2.1 rx ry hI1.2.2.2.1 (by omega)) ?_⟩
  rintro v h2 ⟨he, hG2, hF2⟩
  have hI2 : INV sh (b + 600) h2 := (INV_F hI1 hG2 hF2 (by decide +kernel)).mono (by omega)
  have e178 : RC h1 178 0 = RC h 178 0 := RC_F hF1 (r := 61) rfl (by decide) 0
  have eU : UL h1 = UL h := UL_F hF1 (by decide) (by decide)
  have e175 : gi h1 175 = gi h 175 := funext fun j => FRM_gi hF1 (r := 58) rfl (mHas_non (by decide) j)
  have e176 : gi h1 176 = gi h 176 := funext fun j => FRM_gi hF1 (r := 59) rfl (mHas_non (by decide) j)
  have e177 : gi h1 177 = gi h 177 := funext fun j => FRM_gi hF1 (r := 60) rfl (mHas_non (by decide) j)
  have e6 : gi h1 171 6 = gi h 19 0 := (FRM_gi hF1 (r := 54) rfl (by decide)).trans k0.symm
  have e7 : gi h1 171 7 = gi h 0 9 := (FRM_gi hF1 (r := 54) rfl (by decide)).trans mc.symm
  have eD : dlA h1 = dlA h := funext fun z => dlA_F hF1 (by decide) z
  have e5 : gi h1 171 5 = gi h 171 5 := FRM_gi hF1 (r := 54) rfl (by decide)
  rw [e178, e175, e176, e177, e6, e7, eD, e5] at he
  have eS : kS h1 23 = kS h 23 := by
    rcases hd with ⟨-, -, e⟩ | ⟨-, -, e, -⟩
    · rw [e]
    · exact e
  have q178 : RC h2 178 0 = RC h1 178 0 := RC_F hF2 (r := 61) rfl (by decide +kernel) 0
  have st : STA h2 := STA_of hF1 hF2 (by decide +kernel) (by decide +kernel) kr cr (by rw [q178, e178, eS]; exact sr) (by rw [PL_F hF1 (by decide), UL_F hF2 (by decide +kernel) (by decide +kernel), eU]; exact pr)
  obtain ⟨e2v, rfl, ea⟩ : ∃ e2 : Int, v = some (.int (I e2)) ∧ w32 e2 = w32 e1v := by
    rcases he with ⟨c, rfl, -⟩ | ⟨c, rfl, -⟩
    · rcases hd with ⟨d, ev, -⟩ | ⟨d, ev, -⟩
      · exact ⟨_, rfl, (w32_of ev).symm⟩
      · exact absurd d c
    · rcases hd with ⟨d, ev, -⟩ | ⟨d, ev, -⟩
      · exact absurd c d
      · exact ⟨_, rfl, (w32_of ev).symm⟩
  have cF : crow h2 = crow h1 := crow_F hF2 (by decide +kernel) (by decide +kernel)
  have mF : mrow h1 = mrow h := mrow_F hF1 (by decide +kernel) (by decide +kernel)
  have rwd : RWD h h2 := by
    rcases he with ⟨c, -, m, -⟩ | ⟨c, -, m⟩
    · rcases hd with ⟨d, -, d1⟩ | ⟨d, -, -, -, d1⟩
      · exact Or.inl ⟨by rw [cF, d1], m.trans mF⟩
      · exact absurd d c
    · rcases hd with ⟨d, -, d1⟩ | ⟨d, -, -, -, d1⟩
      · exact absurd c d
      · exact Or.inr (by rw [cF, d1, m])
  exact ⟨_, w32_r _, by rw [I_w], nofun, hI2, ⟨PT_F hF2 (by decide +kernel) (PT_F hF1 (by decide +kernel) hC.1), TS_F hF2 (by decide +kernel) (TS_F hF1 (by decide +kernel) hC.2.1), TX_F hF2 (by decide +kernel) (TX_F hF1 (by decide +kernel) hC.2.2.1), SHR_F hF2 (by decide +kernel) (SHR_F hF1 (by decide +kernel) hC.2.2.2.1), MC_F hF2 (by decide +kernel) (MC_F hF1 (by decide +kernel) hC.2.2.2.2.1), RK_F hF2 (by decide +kernel) (RK_F hF1 (by decide +kernel) hC.2.2.2.2.2.1), RU_F hF2 (by decide +kernel) (RU_F hF1 (by decide +kernel) hC.2.2.2.2.2.2.1), EA_F hF2 (by decide +kernel) (EA_F hF1 (by decide +kernel) hC.2.2.2.2.2.2.2.1), st, SR_F hF2 (by decide +kernel) (SR_F hF1 (by decide +kernel) hC.2.2.2.2.2.2.2.2.2.1), PRI_F hF2 (by decide +kernel) (PRI_F hF1 (by decide +kernel) hC.2.2.2.2.2.2.2.2.2.2.1), RWS_of rwd hC.2.2.2.2.2.2.2.2.2.2.2⟩⟩
theorem pr_keep {sh : List (Nat × Nat)} {b : Int} {h : aH} (hI : INV sh b h) (hC : CR h) (hb : b ≤ 320000) {x : Int} (rx : r32 x) : CLd SPt 310 mX10_keep [.ref 0, .int (I x)] h 0 0 (PRQ sh b mX11_keep [.ref 171, .int (I x)] false) := by
  obtain ⟨sr, pr, kr, cr⟩ := hC.2.2.2.2.2.2.2.2.1
  have hw := WW_of hI.2.2.2.1
  have mc : gi h 0 9 = gi h 171 7 := hC.2.2.2.2.1
  have g9 := gri 0 8 hI.1 (a := 0) (r := 0) (k := 9) rfl rfl
  refine OP_le (Nat.le_of_ble_eq_true rfl) (ctX10_keepF SPt_mono hI.1 rx hC.1) ?_
  rintro v h1 ⟨hd, hG1, hF1⟩
  have hI1 : INV sh b h1 := INV_F hI hG1 hF1 (by decide +kernel)
  obtain ⟨e1v, rfl⟩ : ∃ e : Int, v = some (.int (I e)) := by rcases hd with ⟨-, e, -⟩ | ⟨-, e, -⟩ <;> exact ⟨_, e⟩
  refine ⟨_, w32_r _, by rw [I_w], hI1.1, OP_le (Nat.le_of_ble_eq_true rfl) (ctX11_keepF SPt_mono hI1.1 rx) ?_⟩
  rintro v h2 ⟨he, hG2, hF2, -⟩
  have hI2 : INV sh (b + 600) h2 := by
    have u29 := hI1.2.2.1
    have q178 : RC h2 178 0 = RC h1 178 0 := RC_F hF2 (r := 61) rfl (by decide) 0
    have q186 : ∀ o, RC h2 186 o = RC h1 186 o := fun o => RC_F hF2 (r := 69) rfl (by decide) o
    refine ⟨hG2, xOk_ok (by decide +kernel) h1 h2 hF2 hI1.2.1, by rw [FRM_gi hF2 (a := 171) (r := 54) (k := 29) rfl (by decide)]; exact u29, AW.mono (b := b) ⟨by rw [q178]; exact hI1.2.2.2.1, fun w hw => by rw [q186]; exact hI1.2.2.2.2.1 w hw, fun w hw => ?_⟩ (by omega)⟩
    rcases he with ⟨c, -, s1, -, -, s2⟩ | ⟨c, -, s2⟩
    · by_cases z : w = x.toNat
      · rw [z, s1]; exact hI1.2.2.2.1
      · rw [(s2 w z).1]; exact hI1.2.2.2.2.2 w hw
    · rw [(s2 w).1]; exact hI1.2.2.2.2.2 w hw
  have e178 : RC h1 178 0 = RC h 178 0 := RC_F hF1 (r := 61) rfl (by decide) 0
  have eU : UL h1 = UL h := UL_F hF1 (by decide) (by decide)
  have e200 : ∀ o, RC h1 200 o = RC h 200 o := fun o => RC_F hF1 (r := 83) rfl (by decide) o
  have e198 : ∀ j, gi h1 198 j = gi h 198 j := fun j => FRM_gi hF1 (r := 81) rfl (mHas_non (by decide) j)
  have e199 : ∀ j, gi h1 199 j = gi h 199 j := fun j => FRM_gi hF1 (r := 82) rfl (mHas_non (by decide) j)
  have e8 : gi h1 171 8 = gi h 171 8 := FRM_gi hF1 (r := 54) rfl (by decide)
  have f8 : gi h2 171 8 = gi h 171 8 := (FRM_gi hF2 (r := 54) rfl (by decide)).trans e8
  have f9 : gi h2 0 9 = gi h 0 9 := (FRM_gi hF2 (r := 0) rfl (by decide)).trans (FRM_gi hF1 (r := 0) rfl (by decide))
  have f36 : ∀ j, gi h2 36 j = gi h1 36 j := fun j => FRM_gi hF2 (r := 30) rfl (mHas_non (by decide) j)
  have fk : ∀ i : Nat, i < 3 → kS h2 (112 + 5 * i) = kS h1 (112 + 5 * i) := fun i hi => kSk_F hF2 (by decide) (by decide) (by decide) (by decide) (by decide) hi
  have q178 : RC h2 178 0 = RC h1 178 0 := RC_F hF2 (r := 61) rfl (by decide) 0
  simp only [e178, e200, e198, e199, e8] at he
  have st1 : STR (gi h2 0 9) (kS h2 23) (vw (RC h2 178 0)) := by rw [f9, kS23_F hF2 (by decide), q178, e178, kS23_F hF1 (by decide)]; exact sr
  have st2 : PLR (gi h2 0 9) (PL h2) (UL h2) := by rw [f9, PL_F hF2 (by decide), PL_F hF1 (by decide), UL_F hF2 (by decide) (by decide), eU]; exact pr
  obtain ⟨e2v, rfl, ea, st⟩ : ∃ e2 : Int, v = some (.int (I e2)) ∧ w32 e2 = w32 e1v ∧ STA h2 := by
    rcases he with ⟨c, rfl, s1, s3, s4, s2⟩ | ⟨c, rfl, s2⟩
    · rcases hd with ⟨d, ev, d1, d2, d3⟩ | ⟨d, ev, d1⟩
      · refine ⟨_, rfl, (w32_of ev).symm, st1, st2, fun i hi => ?_, ⟨by rw [f8, f9]; exact cr.1, fun i hi z => ?_⟩⟩
        · rw [f36, d3 i, fk i hi, f8, f9]
          by_cases z : i = x.toNat
          · rw [if_pos z, z, s1, s3, s4, d1]
            exact ⟨⟨fun _ => ⟨rfl, rfl⟩, fun _ => rfl⟩, fun _ => sr⟩
          · rw [if_neg z, (s2 i z).1, (s2 i z).2.1, (s2 i z).2.2, d2 i hi z]
            exact kr i hi
        · rw [f8]
          by_cases y : i = x.toNat
          · rw [y, s4]; exact Int.le_refl _
          · rw [(s2 i y).2.1] at z
            rw [(s2 i y).2.2]
            exact cr.2 i hi z
      · exact absurd c d
    · rcases hd with ⟨d, ev, d1, d2, d3⟩ | ⟨d, ev, d1⟩
      · exact absurd d c
      · refine ⟨_, rfl, (w32_of ev).symm, st1, st2, fun i hi => ?_, ⟨by rw [f8, f9]; exact cr.1, fun i hi z => ?_⟩⟩
        · rw [f36, fk i hi, f8, f9, (s2 i).1, (s2 i).2.1, (s2 i).2.2, d1]
          exact kr i hi
        · rw [(s2 i).2.1] at z
          rw [(s2 i).2.2, f8]
          exact cr.2 i hi z
  exact ⟨_, w32_r _, by rw [I_w], nofun, hI2, ⟨PT_F hF2 (by decide +kernel) (PT_F hF1 (by decide +kernel) hC.1), TS_F hF2 (by decide +kernel) (TS_F hF1 (by decide +kernel) hC.2.1), TX_F hF2 (by decide +kernel) (TX_F hF1 (by decide +kernel) hC.2.2.1), SHR_F hF2 (by decide +kernel) (SHR_F hF1 (by decide +kernel) hC.2.2.2.1), MC_F hF2 (by decide +kernel) (MC_F hF1 (by decide +kernel) hC.2.2.2.2.1), RK_F hF2 (by decide +kernel) (RK_F hF1 (by decide +kernel) hC.2.2.2.2.2.1), RU_F hF2 (by decide +kernel) (RU_F hF1 (by decide +kernel) hC.2.2.2.2.2.2.1), EA_F hF2 (by decide +kernel) (EA_F hF1 (by decide +kernel) hC.2.2.2.2.2.2.2.1), st, SR_F hF2 (by decide +kernel) (SR_F hF1 (by decide +kernel) hC.2.2.2.2.2.2.2.2.2.1), PRI_F hF2 (by decide +kernel) (PRI_F hF1 (by decide +kernel) hC.2.2.2.2.2.2.2.2.2.2.1), RWS_F hF2 (by decide +kernel) (RWS_F hF1 (by decide +kernel) hC.2.2.2.2.2.2.2.2.2.2.2)⟩⟩
theorem pr_again {sh : List (Nat × Nat)} {b : Int} {h : aH} (hI : INV sh b h) (hC : CR h) (hb : b ≤ 320000) {x : Int} (rx : r32 x) : CLd SPt 310 mX10_again [.ref 0, .int (I x)] h 0 0 (PRQ sh b mX11_again [.ref 171, .int (I x)] false) := by
  obtain ⟨sr, pr, kr, cr⟩ := hC.2.2.2.2.2.2.2.2.1
  have hw := WW_of hI.2.2.2.1
  have mc : gi h 0 9 = gi h 171 7 := hC.2.2.2.2.1
  have g9 := gri 0 8 hI.1 (a := 0) (r := 0) (k := 9) rfl rfl
  refine OP_le (Nat.le_of_ble_eq_true rfl) (ctX10_againF SPt_mono hI.1 rx hC.1) ?_
  rintro v h1 ⟨hd, hG1, hF1⟩
  have hI1 : INV sh b h1 := INV_F hI hG1 hF1 (by decide +kernel)
  obtain ⟨e1v, rfl⟩ : ∃ e : Int, v = some (.int (I e)) := by rcases hd with ⟨-, e, -⟩ | ⟨-, e, -⟩ <;> exact ⟨_, e⟩
  refine ⟨_, w32_r _, by rw [I_w], hI1.1, OP_le (Nat.le_of_ble_eq_true rfl) (ctX11_againF SPt_mono hI1.1 rx) ?_⟩
  rintro v h2 ⟨he, hG2, hF2, -⟩
  have hI2 : INV sh (b + 600) h2 := by
    have u29 := hI1.2.2.1
    rcases he with ⟨c, -, s1, s2⟩ | ⟨c, -, s1, s2⟩
    · exact ⟨hG2, xOk_ok (by decide +kernel) h1 h2 hF2 hI1.2.1, by omega, (AW_u hI1.2.2.2 hF2 (by decide) (by decide) s1 (hI1.2.2.2.2.2 _ (by omega))).mono (by omega)⟩
    · exact ⟨hG2, xOk_ok (by decide +kernel) h1 h2 hF2 hI1.2.1, by omega, (AW_u hI1.2.2.2 hF2 (by decide) (by decide) s1 hI1.2.2.2.1).mono (by omega)⟩
  have e178 : RC h1 178 0 = RC h 178 0 := RC_F hF1 (r := 61) rfl (by decide) 0
  have eU : UL h1 = UL h := UL_F hF1 (by decide) (by decide)
  have e29 : gi h1 171 29 = gi h 171 29 := FRM_gi hF1 (r := 54) rfl (by decide)
  have e200 : ∀ o, RC h1 200 o = RC h 200 o := fun o => RC_F hF1 (r := 83) rfl (by decide) o
  have e198 : ∀ j, gi h1 198 j = gi h 198 j := fun j => FRM_gi hF1 (r := 81) rfl (mHas_non (by decide) j)
  have e199 : ∀ j, gi h1 199 j = gi h 199 j := fun j => FRM_gi hF1 (r := 82) rfl (mHas_non (by decide) j)
  have e8 : gi h1 171 8 = gi h 171 8 := FRM_gi hF1 (r := 54) rfl (by decide)
  rw [e178, e200, e198, e199, e8, e29] at he
  obtain ⟨e2v, rfl, ea, st⟩ : ∃ e2 : Int, v = some (.int (I e2)) ∧ w32 e2 = w32 e1v ∧ STA h2 := by
    rcases he with ⟨c, rfl, s1, s2⟩ | ⟨c, rfl, s1, s2⟩
    · rcases hd with ⟨d, ev, d1, d2⟩ | ⟨d, ev, d1⟩
      · exact ⟨_, rfl, (w32_of ev).symm, STA_of hF1 hF2 (by decide +kernel) (by decide +kernel) kr cr (by rw [s1, d1]; exact (kr _ (by omega)).2 d.2) (by rw [PL_nil d2, UL_nil s2]; trivial)⟩
      · exact absurd ⟨c.1, (kr _ (by omega)).1.mpr c.2⟩ d
    · rcases hd with ⟨d, ev, d1, d2⟩ | ⟨d, ev, d1⟩
      · exact absurd ⟨d.1, (kr _ (by omega)).1.mp d.2⟩ c
      · exact ⟨_, rfl, (w32_of ev).symm, STA_of hF1 hF2 (by decide +kernel) (by decide +kernel) kr cr (by rw [s1, d1]; exact sr) (by rw [d1, UL_eq (h := h1) (by rw [s2, e29]) fun o _ => RC_F hF2 (r := 69) rfl (by decide) _, eU]; exact pr)⟩
  exact ⟨_, w32_r _, by rw [I_w], nofun, hI2, ⟨PT_F hF2 (by decide +kernel) (PT_F hF1 (by decide +kernel) hC.1), TS_F hF2 (by decide +kernel) (TS_F hF1 (by decide +kernel) hC.2.1), TX_F hF2 (by decide +kernel) (TX_F hF1 (by decide +kernel) hC.2.2.1), SHR_F hF2 (by decide +kernel) (SHR_F hF1 (by decide +kernel) hC.2.2.2.1), MC_F hF2 (by decide +kernel) (MC_F hF1 (by decide +kernel) hC.2.2.2.2.1), RK_F hF2 (by decide +kernel) (RK_F hF1 (by decide +kernel) hC.2.2.2.2.2.1), RU_F hF2 (by decide +kernel) (RU_F hF1 (by decide +kernel) hC.2.2.2.2.2.2.1), EA_F hF2 (by decide +kernel) (EA_F hF1 (by decide +kernel) hC.2.2.2.2.2.2.2.1), st, SR_F hF2 (by decide +kernel) (SR_F hF1 (by decide +kernel) hC.2.2.2.2.2.2.2.2.2.1), PRI_F hF2 (by decide +kernel) (PRI_F hF1 (by decide +kernel) hC.2.2.2.2.2.2.2.2.2.2.1), RWS_F hF2 (by decide +kernel) (RWS_F hF1 (by decide +kernel) hC.2.2.2.2.2.2.2.2.2.2.2)⟩⟩
theorem pr_count {sh : List (Nat × Nat)} {b : Int} {h : aH} (hI : INV sh b h) (hC : CR h) (hb : b ≤ 320000) {x : Int} (rx : r32 x) : CLd SPt 310 mX10_count [.ref 0, .int (I x)] h 0 0 (PRQ sh b mX11_count [.ref 171, .int (I x)] false) := by
  refine CLd_mono (loX10_count hI hb rx) ?_
  rintro v h1 ⟨⟨e1, rfl⟩, hI1, hF1⟩
  refine ⟨w32 e1, w32_r _, by rw [I_w], hI1.1, CLd_mono (loX11_count hI1 hb rx) ?_⟩
  rintro v h2 ⟨⟨e2, rfl⟩, hI2, hF2⟩
  exact ⟨w32 e2, w32_r _, by rw [I_w], nofun, hI2, CR_F hF2 (by decide +kernel) (CR_F hF1 (by decide +kernel) hC)⟩
theorem pw_row {sh : List (Nat × Nat)} {b : Int} {h : aH} (hI : INV sh b h) (hC : CR h) {x : Int} (rx : r32 x) {o : Option Int} (hR : rowR h x o) : CLd SPt 310 mX11_row [.ref 171, .int (I x)] h 0 0 (fun rv h2 => ∃ e : Int, r64 e ∧ rv = some (.long (J e)) ∧ (o = none → gi h2 171 0 = 1) ∧ (∀ v, o = some v → gi h2 171 0 = 0 ∧ v = e) ∧ INV sh b h2 ∧ CR h2 ∧ gj h2 201 0 = gj h 201 0) := by
  have hR9 : crow h = mrow h := hC.2.2.2.2.2.2.2.2.2.2.2
  have g3 := gri 0 30 hI.1 (a := 3) (r := 3) (k := 1) rfl rfl
  have g1 := gri 0 40 hI.1 (a := 171) (r := 54) (k := 1) rfl rfl
  obtain ⟨ln, lv⟩ := list_at (n := (gi h 3 1).toNat) (m := (gi h 171 1).toNat) hR9
  refine CLd_le (Nat.le_of_ble_eq_true rfl) (CLd_mono (ctX11_rowF SPt_mono hI.1 rx) ?_)
  rintro rv h2 ⟨hd, hG, hF⟩
  have hI2 : INV sh b h2 := INV_F hI hG hF (by decide +kernel)
  have hC2 : CR h2 := CR_F hF (by decide +kernel) hC
  have hJ : gj h2 201 0 = gj h 201 0 := FRM_gj hF (r := 84) rfl rfl
  obtain ⟨b1, hb1, hR⟩ := hR
  obtain rfl : 3 = b1 := Option.some.inj ((rf_0_1 hI.1).symm.trans hb1)
  rcases hd with ⟨d, rfl, t0⟩ | ⟨d, rfl, t0⟩
  · rcases hR with ⟨rfl, hn⟩ | ⟨hc, c, hcc, rfl⟩
    · exact absurd d (by omega)
    · obtain rfl : 4 = c := Option.some.inj ((rf_3_0 hI.1).symm.trans hcc)
      refine ⟨gj h 172 x.toNat, gj_r _ _ _, rfl, nofun, fun v hv => ⟨t0, ?_⟩, hI2, hC2, hJ⟩
      cases hv
      exact lv x.toNat (by omega)
  · rcases hR with ⟨rfl, hn⟩ | ⟨hc, c, hcc, rfl⟩
    · exact ⟨0, by omega, rfl, fun _ => t0, nofun, hI2, hC2, hJ⟩
    · exact absurd d (by omega)
