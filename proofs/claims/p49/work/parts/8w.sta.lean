section
/-! WHAT IS HELD OF THE STATES OF BOTH -/
/-- the kept ones -/
noncomputable def KPR (h : aH) : Prop := ∀ i : Nat, i < 3 → (gi h 36 i = 1 ↔ gi h 198 i = 1 ∧ gi h 199 i = gi h 171 8) ∧ (gi h 36 i = 1 → STR (gi h 0 9) (kS h (112 + 5 * i)) (vw (RC h 200 (57 * i))))
/-- how often the MESSES changed -/
noncomputable def CHR (h : aH) : Prop := (0 ≤ gi h 171 8 ∧ gi h 171 8 ≤ gi h 0 9) ∧ ∀ i : Nat, i < 3 → gi h 198 i = 1 → gi h 199 i ≤ gi h 171 8
noncomputable def STA (h : aH) : Prop := STR (gi h 0 9) (kS h 23) (vw (RC h 178 0)) ∧ PLR (gi h 0 9) (PL h) (UL h) ∧ KPR h ∧ CHR h
noncomputable def kcOk (M : MD) : Bool := !(mHas M 0 0 9) && !(mHas M 0 54 8) && (M.all fun q => !(Nat.beq q.1 0 && Nat.beq q.2.1 30)) && (M.all fun q => !(Nat.beq q.1 0 && Nat.beq q.2.1 36)) && (M.all fun q => !(Nat.beq q.1 0 && Nat.beq q.2.1 37)) && (M.all fun q => !(Nat.beq q.1 0 && Nat.beq q.2.1 38)) && (M.all fun q => !(Nat.beq q.1 0 && Nat.beq q.2.1 39)) && (M.all fun q => !(Nat.beq q.1 0 && Nat.beq q.2.1 40)) && (M.all fun q => !(Nat.beq q.1 0 && Nat.beq q.2.1 81)) && (M.all fun q => !(Nat.beq q.1 0 && Nat.beq q.2.1 82)) && (M.all fun q => !(Nat.beq q.1 0 && Nat.beq q.2.1 83))
theorem kSk_F {M : MD} {h h' : aH} (hF : FRM gRL M h h') (m3 : (M.all fun q => !(Nat.beq q.1 0 && Nat.beq q.2.1 36)) = true) (m4 : (M.all fun q => !(Nat.beq q.1 0 && Nat.beq q.2.1 37)) = true) (m5 : (M.all fun q => !(Nat.beq q.1 0 && Nat.beq q.2.1 38)) = true) (m6 : (M.all fun q => !(Nat.beq q.1 0 && Nat.beq q.2.1 39)) = true) (m7 : (M.all fun q => !(Nat.beq q.1 0 && Nat.beq q.2.1 40)) = true) {i : Nat} (hi : i < 3) : kS h' (112 + 5 * i) = kS h (112 + 5 * i) := by
  obtain ⟨q0, q1, q2, q3, q4⟩ := kp_r (c := 112 + 5 * i) ⟨i, hi, rfl⟩
  refine kS_ge fun a k h1 h2 => ?_
  rcases (show a = 112 + 5 * i ∨ a = 112 + 5 * i + 1 ∨ a = 112 + 5 * i + 2 ∨ a = 112 + 5 * i + 3 ∨ a = 112 + 5 * i + 4 by omega) with rfl | rfl | rfl | rfl | rfl
  · exact FRM_gi hF q0 (mHas_non m3 k)
  · exact FRM_gi hF q1 (mHas_non m4 k)
  · exact FRM_gi hF q2 (mHas_non m5 k)
  · exact FRM_gi hF q3 (mHas_non m6 k)
  · exact FRM_gi hF q4 (mHas_non m7 k)
theorem KPR_F {M : MD} {h h' : aH} (hF : FRM gRL M h h') (hm : kcOk M = true) (hk : KPR h) : KPR h' := by
  simp only [kcOk, Bool.and_eq_true, Bool.not_eq_true'] at hm
  have m0 := hm.1.1.1.1.1.1.1.1.1.1
  have m1 := hm.1.1.1.1.1.1.1.1.1.2
  have m2 := hm.1.1.1.1.1.1.1.1.2
  have m3 := hm.1.1.1.1.1.1.1.2
  have m4 := hm.1.1.1.1.1.1.2
  have m5 := hm.1.1.1.1.1.2
  have m6 := hm.1.1.1.1.2
  have m7 := hm.1.1.1.2
  have m8 := hm.1.1.2
  have m9 := hm.1.2
  have m10 := hm.2
  intro i hi
  have e1 : gi h' 36 i = gi h 36 i := FRM_gi hF (r := 30) rfl (mHas_non m2 i)
  have e2 : gi h' 198 i = gi h 198 i := FRM_gi hF (r := 81) rfl (mHas_non m8 i)
  have e3 : gi h' 199 i = gi h 199 i := FRM_gi hF (r := 82) rfl (mHas_non m9 i)
  have e4 : gi h' 171 8 = gi h 171 8 := FRM_gi hF (r := 54) rfl m1
  have e5 : gi h' 0 9 = gi h 0 9 := FRM_gi hF (r := 0) rfl m0
  rw [e1, e2, e3, e4, e5, kSk_F hF m3 m4 m5 m6 m7 hi, RC_F hF (a := 200) (r := 83) rfl m10]
  exact hk i hi
theorem CHR_F {M : MD} {h h' : aH} (hF : FRM gRL M h h') (hm : kcOk M = true) (hk : CHR h) : CHR h' := by
  simp only [kcOk, Bool.and_eq_true, Bool.not_eq_true'] at hm
  have m0 := hm.1.1.1.1.1.1.1.1.1.1
  have m1 := hm.1.1.1.1.1.1.1.1.1.2
  have m2 := hm.1.1.1.1.1.1.1.1.2
  have m3 := hm.1.1.1.1.1.1.1.2
  have m4 := hm.1.1.1.1.1.1.2
  have m5 := hm.1.1.1.1.1.2
  have m6 := hm.1.1.1.1.2
  have m7 := hm.1.1.1.2
  have m8 := hm.1.1.2
  have m9 := hm.1.2
  have m10 := hm.2
  have e4 : gi h' 171 8 = gi h 171 8 := FRM_gi hF (r := 54) rfl m1
  have e5 : gi h' 0 9 = gi h 0 9 := FRM_gi hF (r := 0) rfl m0
  refine ⟨by rw [e4, e5]; exact hk.1, fun i hi z => ?_⟩
  rw [FRM_gi hF (a := 198) (r := 81) rfl (mHas_non m8 i)] at z
  rw [FRM_gi hF (a := 199) (r := 82) rfl (mHas_non m9 i), e4]
  exact hk.2 i hi z
theorem kc_9 {M : MD} {h h' : aH} (hF : FRM gRL M h h') (hm : kcOk M = true) : gi h' 0 9 = gi h 0 9 := by
  simp only [kcOk, Bool.and_eq_true, Bool.not_eq_true'] at hm
  have m0 := hm.1.1.1.1.1.1.1.1.1.1
  exact FRM_gi hF (r := 0) rfl m0
theorem UL_F {M : MD} {h h' : aH} (hF : FRM gRL M h h') (h1 : mHas M 0 54 29 = false) (h2 : (M.all fun q => !(Nat.beq q.1 0 && Nat.beq q.2.1 69)) = true) : UL h' = UL h :=
  UL_eq (FRM_gi hF (r := 54) rfl h1) fun u _ => RC_F hF (r := 69) rfl h2 _
/-- a pair of calls that leaves what is kept -/
theorem STA_of {M1 M2 : MD} {h h1 h2 : aH} (hF1 : FRM gRL M1 h h1) (hF2 : FRM gRL M2 h1 h2) (m1 : kcOk M1 = true) (m2 : (kcOk M2 && (s23Ok M2 && plOk M2)) = true) (hk : KPR h) (hc : CHR h) (hs : STR (gi h 0 9) (kS h1 23) (vw (RC h2 178 0))) (hp : PLR (gi h 0 9) (PL h1) (UL h2)) : STA h2 := by
  simp only [Bool.and_eq_true] at m2
  have e9 : gi h2 0 9 = gi h 0 9 := (kc_9 hF2 m2.1).trans (kc_9 hF1 m1)
  refine ⟨?_, ?_, KPR_F hF2 m2.1 (KPR_F hF1 m1 hk), CHR_F hF2 m2.1 (CHR_F hF1 m1 hc)⟩
  · rw [e9, kS23_F hF2 m2.2.1]; exact hs
  · rw [e9, PL_F hF2 m2.2.2]; exact hp
noncomputable def STAOk (M : MD) : Bool := kcOk M && (s23Ok M && (plOk M && (!(mHas M 0 54 29) && ((M.all fun q => !(Nat.beq q.1 0 && Nat.beq q.2.1 61)) && (M.all fun q => !(Nat.beq q.1 0 && Nat.beq q.2.1 69))))))
theorem STA_F {M : MD} {h h' : aH} (hF : FRM gRL M h h') (hm : STAOk M = true) (hs : STA h) : STA h' := by
  simp only [STAOk, Bool.and_eq_true, Bool.not_eq_true'] at hm
  obtain ⟨m0, m1, m2, m3, m4, m5⟩ := hm
  obtain ⟨s1, s2, s3, s4⟩ := hs
  refine ⟨?_, ?_, KPR_F hF m0 s3, CHR_F hF m0 s4⟩
  · rw [kc_9 hF m0, kS23_F hF m1, RC_F hF (a := 178) (r := 61) rfl m4]; exact s1
  · rw [kc_9 hF m0, PL_F hF m2, UL_F hF m3 m5]; exact s2
/-- a state brought back -/
theorem UL_pop {h h' : aH} (h0 : 0 < gi h 171 29) (e : gi h' 171 29 = gi h 171 29 - 1) (f : ∀ v, RC h' 186 v = RC h 186 v) : UL h = UL h' ++ [RC h 186 (57 * (gi h 171 29 - 1).toNat)] := by
  unfold UL
  rw [e, show (gi h 171 29).toNat = (gi h 171 29 - 1).toNat + 1 by omega, List.range_succ, List.map_append]
  congr 1
  exact List.map_congr_left fun u _ => (f _).symm
/-- nothing was ordered, passed, kept yet -/
theorem OKW_0 {w : WS} (h0 : w.2.2.2.2.1 = []) (h1 : w.2.2.2.1 ≤ w.1) : OKW w := by
  unfold OKW
  rw [h0]
  exact ⟨fun q hq => absurd hq List.not_mem_nil, List.Pairwise.nil, Nat.zero_le _, h1⟩
theorem w32_of {a b : Int} (h : some (Value.int (I a)) = some (Value.int (I b))) : w32 a = w32 b := congrArg Int32.toInt (Value.int.inj (Option.some.inj h))
noncomputable def rgOk (M : MD) : Bool := (M.all fun q => !(Nat.beq q.1 0 && Nat.beq q.2.1 31)) && (M.all fun q => !(Nat.beq q.1 0 && Nat.beq q.2.1 32)) && (M.all fun q => !(Nat.beq q.1 0 && Nat.beq q.2.1 33)) && (M.all fun q => !(Nat.beq q.1 0 && Nat.beq q.2.1 34)) && (M.all fun q => !(Nat.beq q.1 0 && Nat.beq q.2.1 35))
theorem PL_G {M : MD} {h h' : aH} (hF : FRM gRL M h h') (hm : rgOk M = true) (e1 : gi h' 33 1 = gi h 33 1) (e2 : gi h' 33 2 = gi h 33 2) : PL h' = PL h := by
  simp only [rgOk, Bool.and_eq_true] at hm
  have m0 := hm.1.1.1.1
  have m1 := hm.1.1.1.2
  have m2 := hm.1.1.2
  have m3 := hm.1.2
  have m4 := hm.2
  refine PL_eq e1 e2 fun i hi => ?_
  obtain ⟨q0, q1, q2, q3, q4⟩ := rg_r (c := 37 + 5 * i) ⟨i, hi, rfl⟩
  refine kS_ge fun a k h1 h2 => ?_
  rcases (show a = 37 + 5 * i ∨ a = 37 + 5 * i + 1 ∨ a = 37 + 5 * i + 2 ∨ a = 37 + 5 * i + 3 ∨ a = 37 + 5 * i + 4 by omega) with rfl | rfl | rfl | rfl | rfl
  · exact FRM_gi hF q0 (mHas_non m0 k)
  · exact FRM_gi hF q1 (mHas_non m1 k)
  · exact FRM_gi hF q2 (mHas_non m2 k)
  · exact FRM_gi hF q3 (mHas_non m3 k)
  · exact FRM_gi hF q4 (mHas_non m4 k)
theorem PL_nil {h : aH} (e : gi h 33 2 = 0) : PL h = [] := by
  unfold PL
  rw [e]
  rfl
theorem UL_nil {h : aH} (e : gi h 171 29 = 0) : UL h = [] := by
  unfold UL
  rw [e]
  rfl
theorem AW_u {b : Int} {M : MD} {h h' : aH} {x : Nat → Int} (aw : AW b h) (hF : FRM gRL M h h') (h69 : (M.all fun q => !(Nat.beq q.1 0 && Nat.beq q.2.1 69)) = true) (h83 : (M.all fun q => !(Nat.beq q.1 0 && Nat.beq q.2.1 83)) = true) (e : RC h' 178 0 = x) (hx : WB b x) : AW b h' :=
  ⟨by rw [e]; exact hx, fun u hu => by rw [RC_F hF (a := 186) (r := 69) rfl h69]; exact aw.2.1 u hu, fun u hu => by rw [RC_F hF (a := 200) (r := 83) rfl h83]; exact aw.2.2 u hu⟩
end
section
/-! LANES TO COME, MESSES -/
theorem tw_tw {p q : Int × Int → Bool} (hpq : ∀ x, p x = true → q x = true) : ∀ L : List (Int × Int), L.takeWhile q = L.takeWhile p ++ (L.dropWhile p).takeWhile q ∧ L.dropWhile q = (L.dropWhile p).dropWhile q
  | [] => ⟨rfl, rfl⟩
  | x :: t => by
    cases c : p x with
    | true =>
      obtain ⟨i1, i2⟩ := tw_tw hpq t
      rw [List.takeWhile_cons_of_pos (hpq x c), List.takeWhile_cons_of_pos c, List.dropWhile_cons_of_pos c, List.dropWhile_cons_of_pos (hpq x c), i1, i2]
      exact ⟨rfl, rfl⟩
    | false =>
      rw [List.takeWhile_cons_of_neg (p := p) (by rw [c]; exact Bool.noConfusion), List.dropWhile_cons_of_neg (p := p) (by rw [c]; exact Bool.noConfusion)]
      exact ⟨rfl, rfl⟩
theorem tw_no {p : Int × Int → Bool} : ∀ {L : List (Int × Int)}, (∀ x ∈ L, p x = false) → L.takeWhile p = [] ∧ L.dropWhile p = L
  | [], _ => ⟨rfl, rfl⟩
  | x :: t, h => by
    have c := h x List.mem_cons_self
    rw [List.takeWhile_cons_of_neg (p := p) (by rw [c]; exact Bool.noConfusion), List.dropWhile_cons_of_neg (p := p) (by rw [c]; exact Bool.noConfusion)]
    exact ⟨rfl, rfl⟩
/-- her LANE in n STEPS, by orders under way -/
noncomputable def lnW (w : WS) (n : Int) : Int := ((srt w.2.2.2.2.1).takeWhile fun q => decide (q.1 - w.1 ≤ n)).foldl cpt w.2.1
theorem stI_ln {ml ln : Nat → Int} {nr : Nat} {ms : Int} {ea : Nat → Int} {w : WS} (ok : OKW w) : ∀ k : Nat, OKW (stI ml ln nr ms ea k w) ∧ (stI ml ln nr ms ea k w).1 = w.1 + k ∧ (stI ml ln nr ms ea k w).2.1 = ((srt w.2.2.2.2.1).takeWhile fun q => decide (q.1 ≤ w.1 + k)).foldl cpt w.2.1 ∧ srt (stI ml ln nr ms ea k w).2.2.2.2.1 = (srt w.2.2.2.2.1).dropWhile fun q => decide (q.1 ≤ w.1 + k)
  | 0 => by
    have z := tw_no (p := fun q : Int × Int => decide (q.1 ≤ w.1 + ((0 : Nat) : Int))) (L := srt w.2.2.2.2.1) fun x hx => by
      obtain ⟨q, hq, e⟩ := srt_mem hx
      have := (ok.1 q hq).1.1
      rw [e]
      exact decide_eq_false (by show ¬ q.1 ≤ w.1 + ((0 : Nat) : Int); omega)
    refine ⟨ok, (Int.add_zero _).symm, ?_, ?_⟩
    · rw [z.1]; rfl
    · rw [z.2]; rfl
  | k + 1 => by
    obtain ⟨i0, i1, i2, i3⟩ := stI_ln (ml := ml) (ln := ln) (nr := nr) (ms := ms) (ea := ea) ok k
    obtain ⟨d1, d2⟩ := st_due i0
    have tt := tw_tw (p := fun q : Int × Int => decide (q.1 ≤ w.1 + (k : Int))) (q := fun q : Int × Int => decide (q.1 ≤ w.1 + ((k + 1 : Nat) : Int))) (fun x hx => decide_eq_true (by have := of_decide_eq_true hx; omega)) (srt w.2.2.2.2.1)
    have eP : (fun q : Int × Int => decide (q.1 ≤ w.1 + ((k + 1 : Nat) : Int))) = fun q : Int × Int => decide (q.1 ≤ (stI ml ln nr ms ea k w).1 + 1) := funext fun q => decide_eq_decide.mpr (by omega)
    refine ⟨OKW_st i0, ?_, ?_, ?_⟩
    · show (stI ml ln nr ms ea k w).1 + 1 = _
      omega
    · show stL (stI ml ln nr ms ea k w) = _
      rw [← d1, tt.1, List.foldl_append, ← i2, eP, ← i3]
      rfl
    · show srt ((stI ml ln nr ms ea k w).2.2.2.2.1.filter fun q => !decide (q.1 = (stI ml ln nr ms ea k w).1 + 1)) = _
      rw [← d2, tt.2, eP, ← i3]
      rfl
theorem lnW_stI {ml ln : Nat → Int} {nr : Nat} {ms : Int} {ea : Nat → Int} {w : WS} (ok : OKW w) (k : Nat) : (stI ml ln nr ms ea k w).2.1 = lnW w k := by
  rw [(stI_ln ok k).2.2.1]
  unfold lnW
  rw [show (fun q : Int × Int => decide (q.1 ≤ w.1 + (k : Int))) = fun q : Int × Int => decide (q.1 - w.1 ≤ (k : Int)) from funext fun q => decide_eq_decide.mpr (by omega)]
theorem lnW_b {w : WS} (hl : 0 ≤ w.2.1 ∧ w.2.1 ≤ 8) (n : Int) : 0 ≤ lnW w n ∧ lnW w n ≤ 8 := cpF_b hl _
/-- ROCKS that are hit in n STEPS, of the first i -/
noncomputable def lhW (ml ln : Nat → Int) (w : WS) (n : Int) : Nat → Int
  | 0 => 0
  | i + 1 => lhW ml ln w n i + if 1 ≤ ml i - w.1 ∧ ml i - w.1 ≤ n ∧ ln i = lnW w (ml i - w.1) then 1 else 0
theorem lhW_b (ml ln : Nat → Int) (w : WS) (n : Int) : ∀ i : Nat, 0 ≤ lhW ml ln w n i ∧ lhW ml ln w n i ≤ i
  | 0 => ⟨Int.le_refl _, Int.le_refl _⟩
  | i + 1 => by
    have := lhW_b ml ln w n i
    show 0 ≤ lhW ml ln w n i + (if 1 ≤ ml i - w.1 ∧ ml i - w.1 ≤ n ∧ ln i = lnW w (ml i - w.1) then 1 else 0) ∧ lhW ml ln w n i + (if 1 ≤ ml i - w.1 ∧ ml i - w.1 ≤ n ∧ ln i = lnW w (ml i - w.1) then 1 else 0) ≤ ((i + 1 : Nat) : Int)
    split <;> omega
set_option maxRecDepth 4000 in
theorem ctX10_laneF {SP : CT} (hSP : MONO SP) {sh : List (Nat × Nat)} {h : aH} (hG : GD gE gRL sh h) {b : Int} {w : WS} {ms : Int} (hS : STR ms (kS h 23) w) (hw : WW b w) (hb : b ≤ 950000) (hml : ∀ j : Nat, (j : Int) < gi h 19 0 → 0 ≤ gi h 20 j ∧ gi h 20 j ≤ 999) {n : Int} (rn : r32 n) : CLd SP 4 mX10_lane [.ref 0, .int (I n)] h 0 0 (fun rv h' => ((¬ (0 ≤ n ∧ n ≤ 60) ∧ rv = some (.int (I (-1))) ∧ h' = h) ∨ ((0 ≤ n ∧ n ≤ 60) ∧ rv = some (.int (I (lnW w n))) ∧ gi h' 3 1 = 1 ∧ crow h' = [lhW (gi h 20) (gi h 21) w n (gi h 19 0).toNat])) ∧ GD gE gRL sh h' ∧ FRM gRL [(0, 3, 1, 1), (1, 4, 0, 29)] h h') := by
  refine x_met _ rfl (Nat.le_of_ble_eq_true rfl) (fun K hK => ?_)
  have hmono := MONO_CLd hSP 3
  obtain ⟨k0, k1, k2, k3, k4, k5, k6⟩ := STR_to hG hS
  have hb1 := STR_hb hG hS hw (by omega)
  have lb := hw.2.1
  have w0 := hw.1
  have g19 := gri 0 16 hG (a := 19) (r := 13) (k := 0) rfl rfl
  have loop : ∀ (mz : Nat) (c i : Int) (ls : List (Nat × Value)), (((gi h 19 0) - i).toNat = mz) → (0 ≤ n ∧ n ≤ 60) → (0 ≤ i ∧ i ≤ (gi h 19 0)) → (c = lhW (gi h 20) (gi h 21) w n i.toNat) → lk ls 0 = some (.ref 0) → lk ls 1 = some (.int (I n)) → lk ls 2 = some (.int (I c)) → lk ls 3 = some (.int (I i)) → K 16 ls [] h 0 0 := by
    intro mz
    induction mz using Nat.strongRecOn with
    | ind mz ih =>
    intro c i ls hm n0 i0 ce l0 l1 l2 l3
    have cb := lhW_b (gi h 20) (gi h 21) w n i.toNat
    have gm := fun z : i < (gi h 19 0) => hml i.toNat (by omega)
    have gl2 := fun z : i < (gi h 19 0) => grn 0 8 hG (a := 21) (r := 15) (k := i.toNat) rfl rfl (by omega)
    refine x_iload_n 17 hK rfl rfl l3 ?_
    refine x_aload_n 18 hK rfl rfl l0 ?_
    refine x_getR 21 hK rfl rfl (sp_0 (h := h) hG) (rf_0_7 (h := h) hG) ?_
    have g552 := gri (0) (16) hG (a := 19) (r := 13) (k := 0) rfl rfl
    refine x_getE 24 hK rfl (Or.inl rfl) rfl (sp_19 (h := h) hG) (e := (gi h 19 0)) (rfl) ?_
    refine x_if_icmp_ge 88 27 hK rfl rfl rfl (by omega) (by omega) (fun c5 => ?_) (fun c5 => ?_)
    · refine x_aload_n 89 hK rfl rfl l0 ?_
      refine x_getR 92 hK rfl rfl (sp_0 (h := h) hG) (rf_0_1 (h := h) hG) ?_
      refine x_iload_n 93 hK rfl rfl l2 ?_
      refine x_i2l 94 hK rfl rfl (by omega) ?_
      refine x_callV 97 hK hmono rfl rfl [.ref 3, .long (J c)] [] rfl rfl (Nat.le_of_ble_eq_true rfl) (Nat.le_of_ble_eq_true rfl) rfl (sp_3 (h := h) hG) (CLd_le (Nat.le_of_ble_eq_true rfl) (ctX3_tellOne hSP hG (by omega))) ?_
      rintro v553 h553 ⟨rfl, hG553, hF553, t553, s553⟩
      refine x_aload_n 98 hK rfl rfl l0 ?_
      refine x_getR 101 hK rfl rfl (sp_0 (h := h553) hG553) (rf_0_10 (h := h553) hG553) ?_
      refine x_iload_n 102 hK rfl rfl l1 ?_
      have hS554 : STR ms (kS h553 23) w := by rw [kS23_F hF553 (by decide)]; exact hS
      obtain ⟨q0, q1, q2, q3, q4, q5, q6⟩ := STR_to hG553 hS554
      refine x_callV 105 hK hmono rfl rfl [.ref 23, .int (I n)] [] rfl rfl (Nat.le_of_ble_eq_true rfl) (Nat.le_of_ble_eq_true rfl) rfl (sp_23 (h := h553) hG553) (CLd_le (Nat.le_of_ble_eq_true rfl) (ctX8_laneIn hSP hG553 (n := n) (by omega) (STR_hb hG553 hS554 hw (by omega)) (by omega))) ?_
      rintro v9 h9 ⟨e9, rfl⟩
      rw [show ((kO h553 23 (gi h553 23 4).toNat).takeWhile fun q => decide (q.1 - gi h553 23 0 ≤ n)).foldl cpt (gi h553 23 1) = lnW w n from by rw [q5, q0, q1]; rfl]
      rw [e9]
      clear e9
      exact x_iret hK rfl ⟨Or.inr ⟨n0, rfl, t553, by rw [s553, ce, show i.toNat = (gi h 19 0).toNat by omega]⟩, hG553, hF553⟩
    · refine x_aload_n 28 hK rfl rfl l0 ?_
      refine x_getR 31 hK rfl rfl (sp_0 (h := h) hG) (rf_0_7 (h := h) hG) ?_
      refine x_getR 34 hK rfl rfl (sp_19 (h := h) hG) (rf_19_1 (h := h) hG) ?_
      refine x_iload_n 35 hK rfl rfl l3 ?_
      have g555 := gi_r h 20 i.toNat
      refine x_ialoadE 36 hK rfl rfl (sp_20 (h := h) hG) (by omega) (by omega) (by omega) (e' := (gi h 20 i.toNat)) (rfl) ?_
      refine x_aload_n 37 hK rfl rfl l0 ?_
      refine x_getR 40 hK rfl rfl (sp_0 (h := h) hG) (rf_0_10 (h := h) hG) ?_
      refine x_getE 43 hK rfl (Or.inl rfl) rfl (sp_23 (h := h) hG) (e := (w.1)) (k0) ?_
      refine x_isub 44 hK rfl rfl ?_
      refine x_istore 46 hK rfl rfl _ rfl ?_
      refine x_iload 48 hK rfl rfl lk1_s ?_
      refine x_iconst 49 hK rfl rfl ?_
      refine x_if_icmp_lt 82 52 hK rfl rfl rfl (by omega) (by omega) (fun c28 => ?_) (fun c28 => ?_)
      · refine x_iinc 85 hK rfl rfl (lk1_n l3 (by decide) (Or.inl rfl)) _ rfl ?_
        refine x_goto 16 hK rfl rfl ?_
        exact ih _ (by omega) c (i + 1) _ rfl (n0) (by omega) (by rw [tn_s i0.1, ce]; show _ = lhW (gi h 20) (gi h 21) w n i.toNat + (if 1 ≤ gi h 20 i.toNat - w.1 ∧ gi h 20 i.toNat - w.1 ≤ n ∧ gi h 21 i.toNat = lnW w (gi h 20 i.toNat - w.1) then 1 else 0); first | (rw [if_pos (by omega)]; done) | (rw [if_neg (by omega)]; done) | (rw [if_neg (by omega)]; omega)) (lk1_n (lk1_n l0 (by decide) (Or.inl rfl)) (by decide) (Or.inl rfl)) (lk1_n (lk1_n l1 (by decide) (Or.inl rfl)) (by decide) (Or.inl rfl)) (lk1_n (lk1_n l2 (by decide) (Or.inl rfl)) (by decide) (Or.inl rfl)) lk1_s
      · refine x_iload 54 hK rfl rfl lk1_s ?_
        refine x_iload_n 55 hK rfl rfl (lk1_n l1 (by decide) (Or.inl rfl)) ?_
        refine x_if_icmp_gt 82 58 hK rfl rfl rfl (by omega) (by omega) (fun c34 => ?_) (fun c34 => ?_)
        · refine x_iinc 85 hK rfl rfl (lk1_n l3 (by decide) (Or.inl rfl)) _ rfl ?_
          refine x_goto 16 hK rfl rfl ?_
          exact ih _ (by omega) c (i + 1) _ rfl (n0) (by omega) (by rw [tn_s i0.1, ce]; show _ = lhW (gi h 20) (gi h 21) w n i.toNat + (if 1 ≤ gi h 20 i.toNat - w.1 ∧ gi h 20 i.toNat - w.1 ≤ n ∧ gi h 21 i.toNat = lnW w (gi h 20 i.toNat - w.1) then 1 else 0); first | (rw [if_pos (by omega)]; done) | (rw [if_neg (by omega)]; done) | (rw [if_neg (by omega)]; omega)) (lk1_n (lk1_n l0 (by decide) (Or.inl rfl)) (by decide) (Or.inl rfl)) (lk1_n (lk1_n l1 (by decide) (Or.inl rfl)) (by decide) (Or.inl rfl)) (lk1_n (lk1_n l2 (by decide) (Or.inl rfl)) (by decide) (Or.inl rfl)) lk1_s
        · refine x_aload_n 59 hK rfl rfl (lk1_n l0 (by decide) (Or.inl rfl)) ?_
          refine x_getR 62 hK rfl rfl (sp_0 (h := h) hG) (rf_0_10 (h := h) hG) ?_
          refine x_iload 64 hK rfl rfl lk1_s ?_
          have li556 := lnW_b lb ((gi h 20 i.toNat) - (w.1))
          refine x_callV 67 hK hmono rfl rfl [.ref 23, .int (I ((gi h 20 i.toNat) - (w.1)))] [] rfl rfl (Nat.le_of_ble_eq_true rfl) (Nat.le_of_ble_eq_true rfl) rfl (sp_23 (h := h) hG) (CLd_le (Nat.le_of_ble_eq_true rfl) (ctX8_laneIn hSP hG (n := ((gi h 20 i.toNat) - (w.1))) (by omega) hb1 (by omega))) ?_
          rintro v9 h9 ⟨e9, rfl⟩
          rw [show ((kO h 23 (gi h 23 4).toNat).takeWhile fun q => decide (q.1 - gi h 23 0 ≤ ((gi h 20 i.toNat) - (w.1)))).foldl cpt (gi h 23 1) = lnW w ((gi h 20 i.toNat) - (w.1)) from by rw [k5, k0, k1]; rfl]
          rw [e9]
          clear e9
          refine x_aload_n 68 hK rfl rfl (lk1_n l0 (by decide) (Or.inl rfl)) ?_
          refine x_getR 71 hK rfl rfl (sp_0 (h := h) hG) (rf_0_7 (h := h) hG) ?_
          refine x_getR 74 hK rfl rfl (sp_19 (h := h) hG) (rf_19_2 (h := h) hG) ?_
          refine x_iload_n 75 hK rfl rfl (lk1_n l3 (by decide) (Or.inl rfl)) ?_
          have g557 := grn (0) (8) hG (a := 21) (r := 15) (k := i.toNat) rfl rfl (by omega)
          refine x_ialoadE 76 hK rfl rfl (sp_21 (h := h) hG) (by omega) (by omega) (by omega) (e' := (gi h 21 i.toNat)) (rfl) ?_
          refine x_if_icmp_ne 82 79 hK rfl rfl rfl (by omega) (by omega) (fun c47 => ?_) (fun c47 => ?_)
          · refine x_iinc 85 hK rfl rfl (lk1_n l3 (by decide) (Or.inl rfl)) _ rfl ?_
            refine x_goto 16 hK rfl rfl ?_
            exact ih _ (by omega) c (i + 1) _ rfl (n0) (by omega) (by rw [tn_s i0.1, ce]; show _ = lhW (gi h 20) (gi h 21) w n i.toNat + (if 1 ≤ gi h 20 i.toNat - w.1 ∧ gi h 20 i.toNat - w.1 ≤ n ∧ gi h 21 i.toNat = lnW w (gi h 20 i.toNat - w.1) then 1 else 0); first | (rw [if_pos (by omega)]; done) | (rw [if_neg (by omega)]; done) | (rw [if_neg (by omega)]; omega)) (lk1_n (lk1_n l0 (by decide) (Or.inl rfl)) (by decide) (Or.inl rfl)) (lk1_n (lk1_n l1 (by decide) (Or.inl rfl)) (by decide) (Or.inl rfl)) (lk1_n (lk1_n l2 (by decide) (Or.inl rfl)) (by decide) (Or.inl rfl)) lk1_s
          · refine x_iinc 82 hK rfl rfl (lk1_n l2 (by decide) (Or.inl rfl)) _ rfl ?_
            refine x_iinc 85 hK rfl rfl (lk1_n (lk1_n l3 (by decide) (Or.inl rfl)) (by decide) (Or.inl rfl)) _ rfl ?_
            refine x_goto 16 hK rfl rfl ?_
            exact ih _ (by omega) (c + 1) (i + 1) _ rfl (n0) (by omega) (by rw [tn_s i0.1, ce]; show _ = lhW (gi h 20) (gi h 21) w n i.toNat + (if 1 ≤ gi h 20 i.toNat - w.1 ∧ gi h 20 i.toNat - w.1 ≤ n ∧ gi h 21 i.toNat = lnW w (gi h 20 i.toNat - w.1) then 1 else 0); first | (rw [if_pos (by omega)]; done) | (rw [if_neg (by omega)]; done) | (rw [if_neg (by omega)]; omega)) (lk1_n (lk1_n (lk1_n l0 (by decide) (Or.inl rfl)) (by decide) (Or.inl rfl)) (by decide) (Or.inl rfl)) (lk1_n (lk1_n (lk1_n l1 (by decide) (Or.inl rfl)) (by decide) (Or.inl rfl)) (by decide) (Or.inl rfl)) (lk1_n lk1_s (by decide) (Or.inl rfl)) lk1_s
  refine x_iload_n 1 hK rfl rfl rfl ?_
  refine x_if_lt 10 4 hK rfl rfl rfl (by omega) (fun c2 => ?_) (fun c2 => ?_)
  · refine x_iconst 11 hK rfl rfl ?_
    exact x_iret hK rfl ⟨Or.inl ⟨by omega, rfl, rfl⟩, hG, FRM.rf⟩
  · refine x_iload_n 5 hK rfl rfl rfl ?_
    refine x_bipush 7 hK rfl rfl rfl ?_
    refine x_if_icmp_le 12 10 hK rfl rfl rfl (by omega) (by omega) (fun c7 => ?_) (fun c7 => ?_)
    · refine x_iconst 13 hK rfl rfl ?_
      refine x_istore_n 14 hK rfl rfl [(2, .int (I 0)), (0, .ref 0), (1, .int (I n))] rfl ?_
      refine x_iconst 15 hK rfl rfl ?_
      refine x_istore_n 16 hK rfl rfl [(3, .int (I 0)), (2, .int (I 0)), (0, .ref 0), (1, .int (I n))] rfl ?_
      exact loop _ 0 0 _ rfl (⟨by omega, by omega⟩) (by omega) (rfl) rfl rfl rfl rfl
    · refine x_iconst 11 hK rfl rfl ?_
      exact x_iret hK rfl ⟨Or.inl ⟨by omega, rfl, rfl⟩, hG, FRM.rf⟩
set_option maxRecDepth 4000 in
theorem ctX11_laneF {SP : CT} (hSP : MONO SP) {sh : List (Nat × Nat)} {h : aH} (hG : GD gE gRL sh h) {n b : Int} (rn : r32 n) (wb : WB b (RC h 178 0)) (hb : b ≤ 900000) : CLd SP 9 mX11_lane [.ref 171, .int (I n)] h 0 0 (fun rv h' => ((¬ (0 ≤ n ∧ n ≤ 60) ∧ rv = some (.int (I (-1))) ∧ mrow h' = mrow h ∧ gi h' 171 1 = gi h 171 1) ∨ ((0 ≤ n ∧ n ≤ 60) ∧ rv = some (.int (I (stI (gi h 175) (gi h 176) (gi h 171 6).toNat (gi h 171 7) (gi h 177) n.toNat (vw (RC h 178 0))).2.1)) ∧ mrow h' = [sHs (gi h 175) (gi h 176) (gi h 171 6).toNat (gi h 171 7) (gi h 177) n.toNat (vw (RC h 178 0))])) ∧ GD gE gRL sh h' ∧ FRM gRL [(0, 54, 0, 0), (0, 54, 1, 1), (0, 54, 31, 32), (0, 62, 0, 56), (1, 55, 0, 39)] h h') := by
  refine x_met _ rfl (Nat.le_of_ble_eq_true rfl) (fun K hK => ?_)
  have hmono := MONO_CLd hSP 8
  have g6 := gri 0 16 hG (a := 171) (r := 54) (k := 6) rfl rfl
  have g7 := gri 0 8 hG (a := 171) (r := 54) (k := 7) rfl rfl
  have sb := sHs_b (ml := gi h 175) (ln := gi h 176) (ms := gi h 171 7) (ea := gi h 177) (show (gi h 171 6).toNat ≤ 16 by omega) (vw (RC h 178 0))
  have ub := sUs_b (ml := gi h 175) (ln := gi h 176) (nr := (gi h 171 6).toNat) (ea := gi h 177) g7.2 (vw (RC h 178 0))
  have loop : ∀ (mz : Nat) (k : Int) (h4 : aH) (ls : List (Nat × Value)), ((n - k).toNat = mz) → (0 ≤ n ∧ n ≤ 60) → (0 ≤ k ∧ k ≤ n) → (vw (RC h4 179 0) = stI (gi h 175) (gi h 176) (gi h 171 6).toNat (gi h 171 7) (gi h 177) k.toNat (vw (RC h 178 0))) → (gi h4 171 31 = sHs (gi h 175) (gi h 176) (gi h 171 6).toNat (gi h 171 7) (gi h 177) k.toNat (vw (RC h 178 0))) → (gi h4 171 32 = sUs (gi h 175) (gi h 176) (gi h 171 6).toNat (gi h 171 7) (gi h 177) k.toNat (vw (RC h 178 0))) → (WB (b + k) (RC h4 179 0)) → lk ls 0 = some (.ref 171) → lk ls 1 = some (.int (I n)) → lk ls 2 = some (.int (I k)) → GD gE gRL sh h4 → FRM gRL [(0, 54, 0, 0), (0, 54, 1, 1), (0, 54, 31, 32), (0, 62, 0, 56), (1, 55, 0, 39)] h h4 → K 29 ls [] h4 0 0 := by
    intro mz
    induction mz using Nat.strongRecOn with
    | ind mz ih =>
    intro k h4 ls hm n0 k0 sv s31 s32 wb4 l0 l1 l2 hG4 hF4
    have sbk := sb k.toNat
    have ubk := ub k.toNat
    have gl := gri 0 8 hG4 (a := 179) (r := 62) (k := 1) rfl rfl
    refine x_iload_n 30 hK rfl rfl l2 ?_
    refine x_iload_n 31 hK rfl rfl l1 ?_
    refine x_if_icmp_ge 48 34 hK rfl rfl rfl (by omega) (by omega) (fun c3 => ?_) (fun c3 => ?_)
    · refine x_aload_n 49 hK rfl rfl l0 ?_
      refine x_iconst 50 hK rfl rfl ?_
      refine x_putI 53 hK rfl rfl (sp_171 (h := h4) hG4) ?_
      refine x_aload_n 54 hK rfl rfl l0 ?_
      refine x_aload_n 55 hK rfl rfl l0 ?_
      refine x_getE 58 hK rfl (Or.inl rfl) rfl (sp_171 (h := h4) hG4) (e := (sHs (gi h 175) (gi h 176) (gi h 171 6).toNat (gi h 171 7) (gi h 177) k.toNat (vw (RC h 178 0)))) ((gi_k (by decide) _).trans (s31)) ?_
      refine x_i2l 59 hK rfl rfl (by omega) ?_
      have hGp558 : GD gE gRL sh (wI h4 171 1 0) := GD_w1 (hG4) (r := 54) rfl (by omega) rfl (by omega) (by omega)
      have z560 : gi (wI h4 171 1 0) 171 1 = 0 := gi_same (by omega)
      have z560r : mrow (wI h4 171 1 0) = [] := mrow_0 (gi_same (by omega))
      refine x_callV 62 hK hmono rfl rfl [.ref 171, .long (J (sHs (gi h 175) (gi h 176) (gi h 171 6).toNat (gi h 171 7) (gi h 177) k.toNat (vw (RC h 178 0))))] [] rfl rfl (Nat.le_of_ble_eq_true rfl) (Nat.le_of_ble_eq_true rfl) rfl (sp_171 (h := h4) hG4) (CLd_le (Nat.le_of_ble_eq_true rfl) (ctX11_entersF hSP hGp558 (by omega) (by omega))) ?_
      rintro v559 h559 ⟨rfl, hG559, hF559, t559, s559⟩
      rw [z560] at t559
      rw [z560r] at s559
      replace t559 : gi h559 171 1 = 1 := t559
      change mrow h559 = [(sHs (gi h 175) (gi h 176) (gi h 171 6).toNat (gi h 171 7) (gi h 177) k.toNat (vw (RC h 178 0)))] at s559
      refine x_aload_n 63 hK rfl rfl l0 ?_
      refine x_getR 66 hK rfl rfl (sp_171 (h := h559) hG559) (rf_171_15 (h := h559) hG559) ?_
      refine x_iconst 67 hK rfl rfl ?_
      have g561 := gri (0) (8) hG4 (a := 179) (r := 62) (k := 1) rfl rfl
      refine x_ialoadE 68 hK rfl rfl (sp_179 (h := h559) hG559) (by omega) (by omega) (by omega) (e' := (gi h4 179 1)) ((FRM_gi hF559 (r := 62) rfl rfl).trans (gi_a (by decide) _)) ?_
      obtain rfl : k = n := by omega
      have x2 : gi h4 179 1 = (stI (gi h 175) (gi h 176) (gi h 171 6).toNat (gi h 171 7) (gi h 177) k.toNat (vw (RC h 178 0))).2.1 := by rw [← sv]; show _ = RC h4 179 0 1; rw [RC_0 (by omega)]
      exact x_iret hK rfl ⟨Or.inr ⟨n0, by rw [x2], s559⟩, hG559, (FRM_w (hF4) (r := 54) rfl rfl).trans ((hF559).mono rfl)⟩
    · refine x_aload_n 35 hK rfl rfl l0 ?_
      refine x_aload_n 36 hK rfl rfl l0 ?_
      refine x_getR 39 hK rfl rfl (sp_171 (h := h4) hG4) (rf_171_15 (h := h4) hG4) ?_
      refine x_callV 42 hK hmono rfl rfl [.ref 171, .ref 179] [] rfl rfl (Nat.le_of_ble_eq_true rfl) (Nat.le_of_ble_eq_true rfl) rfl (sp_171 (h := h4) hG4) (CLd_le (Nat.le_of_ble_eq_true rfl) (ctX11_stepGoesTF hSP hG4 wb4 (by omega) (by omega) (by omega))) ?_
      rw [sv, show gi h4 175 = gi h 175 from funext fun j => FRM_gi hF4 (r := 58) rfl rfl, show gi h4 176 = gi h 176 from funext fun j => FRM_gi hF4 (r := 59) rfl rfl, show gi h4 171 6 = gi h 171 6 from FRM_gi hF4 (r := 54) rfl rfl, show gi h4 171 7 = gi h 171 7 from FRM_gi hF4 (r := 54) rfl rfl, show gi h4 177 = gi h 177 from funext fun j => FRM_gi hF4 (r := 60) rfl rfl]
      rintro v562 h562 ⟨rfl, hG562, hF562, sv562, x31562, x32562, wb562⟩
      refine x_iinc 45 hK rfl rfl l2 _ rfl ?_
      refine x_goto 29 hK rfl rfl ?_
      exact ih _ (by omega) (k + 1) _ _ rfl (n0) (by omega) ((by rw [tn_s k0.1]; exact sv562)) ((by rw [tn_s k0.1, x31562, s31]; rfl)) ((by rw [tn_s k0.1, x32562, s32]; rfl)) ((by rw [show b + (k + 1) = b + k + 1 by omega]; exact wb562)) (lk1_n l0 (by decide) (Or.inl rfl)) (lk1_n l1 (by decide) (Or.inl rfl)) lk1_s (hG562) ((hF4).trans ((hF562).mono rfl))
  refine x_aload_n 1 hK rfl rfl rfl ?_
  refine x_iconst 2 hK rfl rfl ?_
  refine x_putI 5 hK rfl rfl (sp_171 (h := h) hG) ?_
  refine x_iload_n 6 hK rfl rfl rfl ?_
  refine x_i2l 7 hK rfl rfl (by omega) ?_
  refine x_lconstE 8 0 hK rfl rfl rfl ?_
  refine x_ldc2_w 11 hK rfl rfl ?_
  have hGp563 : GD gE gRL sh (wI h 171 0 0) := GD_w1 (hG) (r := 54) rfl (by omega) rfl (by omega) (by omega)
  refine x_callS 14 hK hmono rfl (Or.inl rfl) rfl [.long (J n), .long (J 0), .long (J 60)] [] rfl rfl (Nat.le_of_ble_eq_true rfl) (Nat.le_of_ble_eq_true rfl) (CLd_le (Nat.le_of_ble_eq_true rfl) (ctX11_in (by omega) (by omega) (by omega))) ?_
  rintro v9 h9 ⟨e9, ⟨rfl, i1564, i2564⟩ | ⟨rfl, i1564⟩⟩ <;> rw [e9] <;> clear e9
  · refine x_if_ne 19 17 hK rfl rfl rfl (by omega) (fun _ => ?_) (fun c => by omega)
    refine x_aload_n 20 hK rfl rfl rfl ?_
    have hGp566 : GD gE gRL sh (wI h 171 0 0) := GD_w1 (hG) (r := 54) rfl (by omega) rfl (by omega) (by omega)
    refine x_callV 23 hK hmono rfl rfl [.ref 171] [] rfl rfl (Nat.le_of_ble_eq_true rfl) (Nat.le_of_ble_eq_true rfl) rfl (sp_171 (h := h) hG) (CLd_le (Nat.le_of_ble_eq_true rfl) (ctX11_putsF hSP hGp566)) ?_
    rintro v565 h565 ⟨rfl, hG565, hF565, pt565⟩
    refine x_aload_n 24 hK rfl rfl rfl ?_
    refine x_callV 27 hK hmono rfl rfl [.ref 171] [] rfl rfl (Nat.le_of_ble_eq_true rfl) (Nat.le_of_ble_eq_true rfl) rfl (sp_171 (h := h565) hG565) (CLd_le (Nat.le_of_ble_eq_true rfl) (ctX11_startsCountingF hSP hG565)) ?_
    rintro v3 h3 ⟨rfl, hG3, hF3, z31, z32⟩
    refine x_iconst 28 hK rfl rfl ?_
    refine x_istore_n 29 hK rfl rfl [(2, .int (I 0)), (0, .ref 171), (1, .int (I n))] rfl ?_
    have c178 : RC (wI h 171 0 0) 178 0 = RC h 178 0 := RC_w (by decide)
    have c3 : RC h3 179 0 = RC h 178 0 := (RC_F hF3 (r := 62) rfl rfl 0).trans (pt565.trans c178)
    exact loop _ 0 _ _ rfl (⟨by omega, by omega⟩) (by omega) ((by rw [c3]; rfl)) (z31) (z32) ((by rw [c3, show b + 0 = b by omega]; exact wb)) rfl rfl rfl (hG3) (((FRM_w ((FRM.rf : FRM gRL [(0, 54, 0, 0), (0, 54, 1, 1), (0, 54, 31, 32), (0, 62, 0, 56), (1, 55, 0, 39)] h h)) (r := 54) rfl rfl).trans ((hF565).mono rfl)).trans ((hF3).mono rfl))
  · refine x_if_ne 19 17 hK rfl rfl rfl (by omega) (fun c => by omega) (fun _ => ?_)
    refine x_iconst 18 hK rfl rfl ?_
    exact x_iret hK rfl ⟨Or.inl ⟨by omega, rfl, mrow_k (by decide), gi_k (by decide) _⟩, GD_w1 (hG) (r := 54) rfl (by omega) rfl (by omega) (by omega), FRM_w ((FRM.rf : FRM gRL [(0, 54, 0, 0), (0, 54, 1, 1), (0, 54, 31, 32), (0, 62, 0, 56), (1, 55, 0, 39)] h h)) (r := 54) rfl rfl⟩
end
section
/-! VOYAGES, both -/
theorem bUsh16 (a : Int) : 0 ≤ bUsh a 16 ∧ bUsh a 16 ≤ 65535 := by
  have h : ∀ x : UInt32, 0 ≤ (x >>> 16).toInt32.toInt ∧ (x >>> 16).toInt32.toInt ≤ 65535 := by
    intro x
    have e : (x >>> 16).toNat = x.toNat / 65536 := by
      rw [UInt32.toNat_shiftRight, Nat.shiftRight_eq_div_pow]
      rfl
    have l := UInt32.toNat_lt x
    have e2 : (x >>> 16).toInt32.toInt = ((x >>> 16).toNat : Int) := by
      show (x >>> 16).toBitVec.toInt = _
      rw [BitVec.toInt_eq_toNat_of_lt (by show 2 * (x >>> 16).toNat < 2 ^ 32; omega)]
      rfl
    omega
  have e16 : ((I 16).toUInt32 &&& Int32.toUInt32 31) = 16 := by decide
  unfold bUsh
  rw [e16]
  exact h _
/-- what is drawn -/
noncomputable def drv (d : Int) : Int := (bUsh (d * 1103515245 + 12345) 16).tmod 4
theorem drv_b (d : Int) : 0 ≤ drv d ∧ drv d ≤ 3 := by
  have h := bUsh16 (d * 1103515245 + 12345)
  unfold drv
  rw [Int.tmod_eq_emod_of_nonneg h.1]
  omega
theorem WW_gv {b d v : Int} {w : WS} (hw : WW b w) : WW b (gvW d v w) := by
  obtain ⟨w0, w1, w2, w3, w4⟩ := hw
  exact ⟨w0, w1, w2, by show -1 ≤ w.1 ∧ w.1 ≤ b; omega, w4⟩
/-- a drawn voyage: n STEPS to go, what was drawn last, the state, how many ORDERS, HITS -/
noncomputable def vgI (dl : Int → Int) (l : Int) (ml ln : Nat → Int) (nr : Nat) (ms : Int) (ea : Nat → Int) : Nat → Int → WS → Int → Int → WS × Int × Int
  | 0, _, w, g, k => (w, g, k)
  | n + 1, d, w, g, k => if drv d < 2 ∧ gvR 0 w = 0 then vgI dl l ml ln nr ms ea n (d * 1103515245 + 12345) (stW ml ln nr ms ea (gvW (dl w.1) (tvF l (2 * drv d - 1)) w)) (g + 1) (k + stH ml ln nr (gvW (dl w.1) (tvF l (2 * drv d - 1)) w)) else vgI dl l ml ln nr ms ea n (d * 1103515245 + 12345) (stW ml ln nr ms ea w) g (k + stH ml ln nr w)
theorem vg_h {dl : Int → Int} {l : Int} {ml ln : Nat → Int} {nr : Nat} {ms : Int} {ea : Nat → Int} : ∀ (n : Nat) (d : Int) (w : WS) (g k : Int), (vgI dl l ml ln nr ms ea n d w g k).1.2.2.1 - w.2.2.1 = (vgI dl l ml ln nr ms ea n d w g k).2.2 - k
  | 0, _, w, g, k => by
    show w.2.2.1 - w.2.2.1 = k - k
    omega
  | n + 1, d, w, g, k => by
    unfold vgI
    split
    · have ih := vg_h (dl := dl) (l := l) (ml := ml) (ln := ln) (nr := nr) (ms := ms) (ea := ea) n (d * 1103515245 + 12345) (stW ml ln nr ms ea (gvW (dl w.1) (tvF l (2 * drv d - 1)) w)) (g + 1) (k + stH ml ln nr (gvW (dl w.1) (tvF l (2 * drv d - 1)) w))
      have e : (stW ml ln nr ms ea (gvW (dl w.1) (tvF l (2 * drv d - 1)) w)).2.2.1 = w.2.2.1 + stH ml ln nr (gvW (dl w.1) (tvF l (2 * drv d - 1)) w) := rfl
      omega
    · have ih := vg_h (dl := dl) (l := l) (ml := ml) (ln := ln) (nr := nr) (ms := ms) (ea := ea) n (d * 1103515245 + 12345) (stW ml ln nr ms ea w) g (k + stH ml ln nr w)
      have e : (stW ml ln nr ms ea w).2.2.1 = w.2.2.1 + stH ml ln nr w := rfl
      omega
set_option maxRecDepth 4000 in
theorem ctX10_voyagesF {SP : CT} (hSP : MONO SP) {sh : List (Nat × Nat)} {h : aH} (hG : GD gE gRL sh h) {s u : Nat} (hP : PT h) (hX : XI h) (hD : DR h s u) {b : Int} {w : WS} (hS : STR (gi h 0 9) (kS h 23) w) (hw : WW b w) (hb : b ≤ 800000) {ml ln ea : Nat → Int} (hml : ∀ j : Nat, (j : Int) < gi h 19 0 → gi h 20 j = ml j ∧ gi h 21 j = ln j) (hea : ∀ m : Nat, (m : Int) < (gi h 0 9) → gi h 22 m = ea m ∧ 0 ≤ ea m ∧ ea m ≤ 9) {x n : Int} (rx : r32 x) (rn : r32 n) : CLd SP 12 mX10_voyages [.ref 0, .int (I x), .int (I n)] h 0 0 (fun rv h' => ((¬ (1 ≤ n ∧ n ≤ 60) ∧ rv = some (.int (I (-1))) ∧ h' = h) ∨ ((1 ≤ n ∧ n ≤ 60) ∧ rv = some (.int (I (vgI (dlA h) (gi h 171 5) ml ln (gi h 19 0).toNat (gi h 0 9) ea n.toNat x w 0 0).2.2)) ∧ kS h' 23 = kS h 23 ∧ gi h' 3 1 = 2 ∧ crow h' = [(vgI (dlA h) (gi h 171 5) ml ln (gi h 19 0).toNat (gi h 0 9) ea n.toNat x w 0 0).1.2.1, (vgI (dlA h) (gi h 171 5) ml ln (gi h 19 0).toNat (gi h 0 9) ea n.toNat x w 0 0).2.1])) ∧ GD gE gRL sh h' ∧ FRM gRL [(0, 3, 1, 1), (0, 8, 3, 3), (0, 10, 0, 39), (0, 17, 0, 4), (0, 18, 0, 11), (0, 19, 0, 11), (0, 20, 0, 7), (0, 21, 0, 7), (0, 22, 0, 4), (0, 23, 0, 11), (0, 24, 0, 11), (0, 25, 0, 7), (0, 26, 0, 7), (1, 4, 0, 29)] h h') := by
  refine x_met _ rfl (Nat.le_of_ble_eq_true rfl) (fun K hK => ?_)
  have hmono := MONO_CLd hSP 11
  obtain ⟨VV, hVV⟩ : ∃ VV, (vgI (dlA h) (gi h 171 5) ml ln (gi h 19 0).toNat (gi h 0 9) ea n.toNat x w 0 0) = VV := ⟨_, rfl⟩
  rw [hVV] at hK
  have g9 := gri 0 8 hG (a := 0) (r := 0) (k := 9) rfl rfl
  have g19 := gri 0 16 hG (a := 19) (r := 13) (k := 0) rfl rfl
  have k2 := (STR_to hG hS).2.2.1
  have wh := hw.2.2.1
  have vh := vg_h (dl := dlA h) (l := gi h 171 5) (ml := ml) (ln := ln) (nr := (gi h 19 0).toNat) (ms := gi h 0 9) (ea := ea) n.toNat x w 0 0
  rw [hVV] at vh
  have loop : ∀ (mz : Nat) (d g i : Int) (h4 : aH) (ls : List (Nat × Value)), ((n - i).toNat = mz) → (1 ≤ n ∧ n ≤ 60) → (0 ≤ i ∧ i ≤ n) → (0 ≤ g ∧ g ≤ i) → (∃ (x : WS) (k : Int), STR (gi h 0 9) (kS h4 23) x ∧ WW (b + i) x ∧ (vgI (dlA h) (gi h 171 5) ml ln (gi h 19 0).toNat (gi h 0 9) ea (n - i).toNat d x g k) = VV) → (kS h4 28 = kS h 23) → lk ls 0 = some (.ref 0) → lk ls 2 = some (.int (I n)) → lk ls 3 = some (.int (I d)) → lk ls 4 = some (.int (I g)) → lk ls 5 = some (.int (I i)) → GD gE gRL sh h4 → FRM gRL [(0, 8, 3, 3), (0, 10, 0, 39), (0, 17, 0, 4), (0, 18, 0, 11), (0, 19, 0, 11), (0, 20, 0, 7), (0, 21, 0, 7), (0, 22, 0, 4), (0, 23, 0, 11), (0, 24, 0, 11), (0, 25, 0, 7), (0, 26, 0, 7)] h h4 → K 32 ls [] h4 0 0 := by
    intro mz
    induction mz using Nat.strongRecOn with
    | ind mz ih =>
    intro d g i h4 ls hm n0 i0 g0 hx s28 l0 l2 l3 l4 l5 hG4 hF4
    obtain ⟨x, k, hs, wx, hv⟩ := hx
    have e28 : gi h4 28 2 = gi h 23 2 := congrArg (fun z : CWS => z.2.2.1) s28
    have n94 : gi h4 0 9 = (gi h 0 9) := FRM_gi hF4 (r := 0) rfl rfl
    have jx := STR_to hG4 hs
    have wx2 := wx.2.2.1
    have wx1 := wx.2.1
    have gb : -3 ≤ gvR 0 x ∧ gvR 0 x ≤ 0 := by unfold gvR; (repeat' split) <;> omega
    refine x_iload 34 hK rfl rfl l5 ?_
    refine x_iload_n 35 hK rfl rfl l2 ?_
    refine x_if_icmp_ge 98 38 hK rfl rfl rfl (by omega) (by omega) (fun c3 => ?_) (fun c3 => ?_)
    · refine x_aload_n 99 hK rfl rfl l0 ?_
      refine x_getR 102 hK rfl rfl (sp_0 (h := h4) hG4) (rf_0_10 (h := h4) hG4) ?_
      refine x_getE 105 hK rfl (Or.inl rfl) rfl (sp_23 (h := h4) hG4) (e := (x.2.2.1)) (jx.2.2.1) ?_
      refine x_aload_n 106 hK rfl rfl l0 ?_
      refine x_getR 109 hK rfl rfl (sp_0 (h := h4) hG4) (rf_0_11 (h := h4) hG4) ?_
      have g579 := gi_r h 23 2
      refine x_getE 112 hK rfl (Or.inl rfl) rfl (sp_28 (h := h4) hG4) (e := (gi h 23 2)) (e28) ?_
      refine x_isub 113 hK rfl rfl ?_
      refine x_istore 115 hK rfl rfl _ rfl ?_
      refine x_aload_n 116 hK rfl rfl (lk1_n l0 (by decide) (Or.inl rfl)) ?_
      refine x_getR 119 hK rfl rfl (sp_0 (h := h4) hG4) (rf_0_1 (h := h4) hG4) ?_
      refine x_aload_n 120 hK rfl rfl (lk1_n l0 (by decide) (Or.inl rfl)) ?_
      refine x_getR 123 hK rfl rfl (sp_0 (h := h4) hG4) (rf_0_10 (h := h4) hG4) ?_
      refine x_getE 126 hK rfl (Or.inl rfl) rfl (sp_23 (h := h4) hG4) (e := (x.2.1)) (jx.2.1) ?_
      refine x_i2l 127 hK rfl rfl (by omega) ?_
      refine x_iload 129 hK rfl rfl (lk1_n l4 (by decide) (Or.inl rfl)) ?_
      refine x_i2l 130 hK rfl rfl (by omega) ?_
      refine x_callV 133 hK hmono rfl rfl [.ref 3, .long (J (x.2.1)), .long (J g)] [] rfl rfl (Nat.le_of_ble_eq_true rfl) (Nat.le_of_ble_eq_true rfl) rfl (sp_3 (h := h4) hG4) (CLd_le (Nat.le_of_ble_eq_true rfl) (ctX3_tellTwo hSP hG4 (by omega) (by omega))) ?_
      rintro v580 h580 ⟨rfl, hG580, hF580, t580, s580⟩
      refine x_aload_n 134 hK rfl rfl (lk1_n l0 (by decide) (Or.inl rfl)) ?_
      refine x_getR 137 hK rfl rfl (sp_0 (h := h580) hG580) (rf_0_10 (h := h580) hG580) ?_
      refine x_aload_n 138 hK rfl rfl (lk1_n l0 (by decide) (Or.inl rfl)) ?_
      refine x_getR 141 hK rfl rfl (sp_0 (h := h580) hG580) (rf_0_11 (h := h580) hG580) ?_
      refine x_callV 144 hK hmono rfl rfl [.ref 23, .ref 28] [] rfl rfl (Nat.le_of_ble_eq_true rfl) (Nat.le_of_ble_eq_true rfl) rfl (sp_23 (h := h580) hG580) (CLd_le (Nat.le_of_ble_eq_true rfl) (ctX8_copyFrom_23_28 hSP hG580 (show PT h580 from (PT_F hF580 (by decide) (PT_F hF4 (by decide) hP))))) ?_
      rintro v581 h581 ⟨rfl, hG581, hF581, eS581, ot581⟩
      refine x_iload 146 hK rfl rfl lk1_s ?_
      have z0 : (n - i).toNat = 0 := by omega
      rw [z0] at hv
      have hv : (x, g, k) = VV := hv
      subst hv
      have vh2 : x.2.2.1 - gi h 23 2 = k := by have vh : x.2.2.1 - w.2.2.1 = k - 0 := vh; omega
      exact x_iret hK rfl ⟨Or.inr ⟨n0, by rw [vh2], (eS581).trans ((kS28_F hF580 (by decide)).trans (s28)), (FRM_gi hF581 (r := 3) rfl rfl).trans (t580), (crow_F hF581 rfl rfl).trans (s580)⟩, hG581, (((hF4).mono rfl).trans ((hF580).mono rfl)).trans ((hF581).mono rfl)⟩
    · refine x_iload_n 39 hK rfl rfl l3 ?_
      refine x_ldc_w 42 hK rfl rfl ?_
      refine x_imul 43 hK rfl rfl ?_
      refine x_sipush 46 hK rfl rfl rfl ?_
      refine x_iadd 47 hK rfl rfl ?_
      refine x_istore_n 48 hK rfl rfl _ rfl ?_
      refine x_iload_n 49 hK rfl rfl lk1_s ?_
      refine x_bipush 51 hK rfl rfl rfl ?_
      have g582 := bUsh_r ((d * 1103515245) + 12345) 16
      refine x_iushrF 52 hK rfl rfl ?_
      refine x_iconst 53 hK rfl rfl ?_
      refine x_irem 54 hK rfl rfl (by omega) (by omega) (by omega) (by omega) ?_
      have tm := drv_b d
      rw [show (bUsh (d * 1103515245 + 12345) 16).tmod 4 = drv d from rfl]
      refine x_istore 56 hK rfl rfl _ rfl ?_
      refine x_iload 58 hK rfl rfl lk1_s ?_
      refine x_iconst 59 hK rfl rfl ?_
      refine x_if_icmp_ge 87 62 hK rfl rfl rfl (by omega) (by omega) (fun c42 => ?_) (fun c42 => ?_)
      · refine x_aload_n 88 hK rfl rfl (lk1_n (lk1_n l0 (by decide) (Or.inl rfl)) (by decide) (Or.inl rfl)) ?_
        have n9583 : gi h4 0 9 = (gi h 0 9) := FRM_gi hF4 (r := 0) rfl rfl
        have n19583 : gi h4 19 0 = gi h 19 0 := FRM_gi hF4 (r := 13) rfl rfl
        refine x_callV 91 hK hmono rfl rfl [.ref 0] [] rfl rfl (Nat.le_of_ble_eq_true rfl) (Nat.le_of_ble_eq_true rfl) rfl (sp_0 (h := h4) hG4) (CLd_le (Nat.le_of_ble_eq_true rfl) (ctX10_goStepF hSP hG4 (b := b + i) (w := x) (ml := ml) (ln := ln) (ea := ea) (by rw [n9583]; exact hs) wx (by omega) (fun j hj => by rw [n19583] at hj; rw [show gi h4 20 j = gi h 20 j from FRM_gi hF4 (r := 14) rfl rfl, show gi h4 21 j = gi h 21 j from FRM_gi hF4 (r := 15) rfl rfl]; exact hml j hj) (fun m hm => by rw [n9583] at hm; rw [show gi h4 22 m = gi h 22 m from FRM_gi hF4 (r := 16) rfl rfl]; exact hea m hm))) ?_
        rw [n9583, n19583]
        rintro v583 h583 ⟨rfl, hG583, hF583, hS583⟩
        refine x_pop 92 hK rfl rfl rfl ?_
        refine x_iinc 95 hK rfl rfl (lk1_n (lk1_n l5 (by decide) (Or.inl rfl)) (by decide) (Or.inl rfl)) _ rfl ?_
        refine x_goto 32 hK rfl rfl ?_
        obtain ⟨q, hq⟩ : ∃ q : Nat, (n - i).toNat = q + 1 := ⟨(n - i).toNat - 1, by omega⟩
        rw [hq] at hv
        unfold vgI at hv
        rw [if_neg (by omega)] at hv
        have wd : WW (b + i + 1) (stW ml ln (gi h 19 0).toNat (gi h 0 9) ea x) := WW_st (by omega) g9.2 (fun m hm => (hea m hm).2) wx
        exact ih _ (by omega) ((d * 1103515245) + 12345) g (i + 1) _ _ rfl (n0) (by omega) (by omega) (⟨_, _, hS583, by rw [show b + (i + 1) = b + i + 1 by omega]; exact wd, by rw [show (n - (i + 1)).toNat = q by omega]; exact hv⟩) ((kS28_F hF583 (by decide)).trans (s28)) (lk1_n (lk1_n (lk1_n l0 (by decide) (Or.inl rfl)) (by decide) (Or.inl rfl)) (by decide) (Or.inl rfl)) (lk1_n (lk1_n (lk1_n l2 (by decide) (Or.inl rfl)) (by decide) (Or.inl rfl)) (by decide) (Or.inl rfl)) (lk1_n (lk1_n lk1_s (by decide) (Or.inl rfl)) (by decide) (Or.inl rfl)) (lk1_n (lk1_n (lk1_n l4 (by decide) (Or.inl rfl)) (by decide) (Or.inl rfl)) (by decide) (Or.inl rfl)) lk1_s (hG583) ((hF4).trans ((hF583).mono rfl))
      · refine x_aload_n 63 hK rfl rfl (lk1_n (lk1_n l0 (by decide) (Or.inl rfl)) (by decide) (Or.inl rfl)) ?_
        refine x_callV 66 hK hmono rfl rfl [.ref 0] [] rfl rfl (Nat.le_of_ble_eq_true rfl) (Nat.le_of_ble_eq_true rfl) rfl (sp_0 (h := h4) hG4) (CLd_le (Nat.le_of_ble_eq_true rfl) (ctX10_orderRefusalF hSP hG4 hs)) ?_
        rintro v9 h9 ⟨e9, rfl⟩
        rw [e9]
        clear e9
        refine x_if_ne 87 69 hK rfl rfl rfl (by omega) (fun c51 => ?_) (fun c51 => ?_)
        · refine x_aload_n 88 hK rfl rfl (lk1_n (lk1_n l0 (by decide) (Or.inl rfl)) (by decide) (Or.inl rfl)) ?_
          have n9584 : gi h4 0 9 = (gi h 0 9) := FRM_gi hF4 (r := 0) rfl rfl
          have n19584 : gi h4 19 0 = gi h 19 0 := FRM_gi hF4 (r := 13) rfl rfl
          refine x_callV 91 hK hmono rfl rfl [.ref 0] [] rfl rfl (Nat.le_of_ble_eq_true rfl) (Nat.le_of_ble_eq_true rfl) rfl (sp_0 (h := h4) hG4) (CLd_le (Nat.le_of_ble_eq_true rfl) (ctX10_goStepF hSP hG4 (b := b + i) (w := x) (ml := ml) (ln := ln) (ea := ea) (by rw [n9584]; exact hs) wx (by omega) (fun j hj => by rw [n19584] at hj; rw [show gi h4 20 j = gi h 20 j from FRM_gi hF4 (r := 14) rfl rfl, show gi h4 21 j = gi h 21 j from FRM_gi hF4 (r := 15) rfl rfl]; exact hml j hj) (fun m hm => by rw [n9584] at hm; rw [show gi h4 22 m = gi h 22 m from FRM_gi hF4 (r := 16) rfl rfl]; exact hea m hm))) ?_
          rw [n9584, n19584]
          rintro v584 h584 ⟨rfl, hG584, hF584, hS584⟩
          refine x_pop 92 hK rfl rfl rfl ?_
          refine x_iinc 95 hK rfl rfl (lk1_n (lk1_n l5 (by decide) (Or.inl rfl)) (by decide) (Or.inl rfl)) _ rfl ?_
          refine x_goto 32 hK rfl rfl ?_
          obtain ⟨q, hq⟩ : ∃ q : Nat, (n - i).toNat = q + 1 := ⟨(n - i).toNat - 1, by omega⟩
          rw [hq] at hv
          unfold vgI at hv
          rw [if_neg (by omega)] at hv
          have wd : WW (b + i + 1) (stW ml ln (gi h 19 0).toNat (gi h 0 9) ea x) := WW_st (by omega) g9.2 (fun m hm => (hea m hm).2) wx
          exact ih _ (by omega) ((d * 1103515245) + 12345) g (i + 1) _ _ rfl (n0) (by omega) (by omega) (⟨_, _, hS584, by rw [show b + (i + 1) = b + i + 1 by omega]; exact wd, by rw [show (n - (i + 1)).toNat = q by omega]; exact hv⟩) ((kS28_F hF584 (by decide)).trans (s28)) (lk1_n (lk1_n (lk1_n l0 (by decide) (Or.inl rfl)) (by decide) (Or.inl rfl)) (by decide) (Or.inl rfl)) (lk1_n (lk1_n (lk1_n l2 (by decide) (Or.inl rfl)) (by decide) (Or.inl rfl)) (by decide) (Or.inl rfl)) (lk1_n (lk1_n lk1_s (by decide) (Or.inl rfl)) (by decide) (Or.inl rfl)) (lk1_n (lk1_n (lk1_n l4 (by decide) (Or.inl rfl)) (by decide) (Or.inl rfl)) (by decide) (Or.inl rfl)) lk1_s (hG584) ((hF4).trans ((hF584).mono rfl))
        · refine x_aload_n 70 hK rfl rfl (lk1_n (lk1_n l0 (by decide) (Or.inl rfl)) (by decide) (Or.inl rfl)) ?_
          refine x_iload 72 hK rfl rfl lk1_s ?_
          refine x_if_ne 79 75 hK rfl rfl rfl (by omega) (fun c60 => ?_) (fun c60 => ?_)
          · refine x_iconst 80 hK rfl rfl ?_
            have dl4 : dlA h4 x.1 = dlA h x.1 := dlA_F hF4 rfl _
            have l54 : gi h4 171 5 = gi h 171 5 := FRM_gi hF4 (r := 54) rfl rfl
            refine x_callV 83 hK hmono rfl rfl [.ref 0, .int (I 1)] [] rfl rfl (Nat.le_of_ble_eq_true rfl) (Nat.le_of_ble_eq_true rfl) rfl (sp_0 (h := h4) hG4) (CLd_le (Nat.le_of_ble_eq_true rfl) (ctX10_giveOrderF hSP hG4 (show PT h4 from PT_F hF4 (by decide) hP) (show XI h4 from (xOk_ok rfl _ h4 hF4 hX)) (DR_F hF4 rfl hD) (w := x) (b := b + i) (by rw [n94]; exact hs) wx (by omega) (v := 1) (by omega) (by omega))) ?_
            rw [dl4, l54, n94]
            rintro v585 h585 ⟨rfl, hG585, hF585, hS585⟩
            have db := dlA_b h x.1
            have ev : 1 = 2 * drv d - 1 := by omega
            rw [ev] at hS585
            refine x_pop 84 hK rfl rfl rfl ?_
            refine x_iinc 87 hK rfl rfl (lk1_n (lk1_n l4 (by decide) (Or.inl rfl)) (by decide) (Or.inl rfl)) _ rfl ?_
            refine x_aload_n 88 hK rfl rfl (lk1_n (lk1_n (lk1_n l0 (by decide) (Or.inl rfl)) (by decide) (Or.inl rfl)) (by decide) (Or.inl rfl)) ?_
            have n9586 : gi h585 0 9 = (gi h 0 9) := (FRM_gi hF585 (r := 0) rfl rfl).trans (FRM_gi hF4 (r := 0) rfl rfl)
            have n19586 : gi h585 19 0 = gi h 19 0 := (FRM_gi hF585 (r := 13) rfl rfl).trans (FRM_gi hF4 (r := 13) rfl rfl)
            refine x_callV 91 hK hmono rfl rfl [.ref 0] [] rfl rfl (Nat.le_of_ble_eq_true rfl) (Nat.le_of_ble_eq_true rfl) rfl (sp_0 (h := h585) hG585) (CLd_le (Nat.le_of_ble_eq_true rfl) (ctX10_goStepF hSP hG585 (b := b + i) (w := (gvW (dlA h x.1) (tvF (gi h 171 5) (2 * drv d - 1)) x)) (ml := ml) (ln := ln) (ea := ea) (by rw [n9586]; exact hS585) (WW_gv wx) (by omega) (fun j hj => by rw [n19586] at hj; rw [show gi h585 20 j = gi h 20 j from (FRM_gi hF585 (r := 14) rfl rfl).trans (FRM_gi hF4 (r := 14) rfl rfl), show gi h585 21 j = gi h 21 j from (FRM_gi hF585 (r := 15) rfl rfl).trans (FRM_gi hF4 (r := 15) rfl rfl)]; exact hml j hj) (fun m hm => by rw [n9586] at hm; rw [show gi h585 22 m = gi h 22 m from (FRM_gi hF585 (r := 16) rfl rfl).trans (FRM_gi hF4 (r := 16) rfl rfl)]; exact hea m hm))) ?_
            rw [n9586, n19586]
            rintro v586 h586 ⟨rfl, hG586, hF586, hS586⟩
            refine x_pop 92 hK rfl rfl rfl ?_
            refine x_iinc 95 hK rfl rfl (lk1_n (lk1_n (lk1_n l5 (by decide) (Or.inl rfl)) (by decide) (Or.inl rfl)) (by decide) (Or.inl rfl)) _ rfl ?_
            refine x_goto 32 hK rfl rfl ?_
            obtain ⟨q, hq⟩ : ∃ q : Nat, (n - i).toNat = q + 1 := ⟨(n - i).toNat - 1, by omega⟩
            rw [hq] at hv
            unfold vgI at hv
            rw [if_pos (by omega)] at hv
            have wd : WW (b + i + 1) (stW ml ln (gi h 19 0).toNat (gi h 0 9) ea (gvW (dlA h x.1) (tvF (gi h 171 5) (2 * drv d - 1)) x)) := WW_st (by omega) g9.2 (fun m hm => (hea m hm).2) (WW_gv wx)
            exact ih _ (by omega) ((d * 1103515245) + 12345) (g + 1) (i + 1) _ _ rfl (n0) (by omega) (by omega) (⟨_, _, hS586, by rw [show b + (i + 1) = b + i + 1 by omega]; exact wd, by rw [show (n - (i + 1)).toNat = q by omega]; exact hv⟩) ((kS28_F hF586 (by decide)).trans ((kS28_F hF585 (by decide)).trans (s28))) (lk1_n (lk1_n (lk1_n (lk1_n l0 (by decide) (Or.inl rfl)) (by decide) (Or.inl rfl)) (by decide) (Or.inl rfl)) (by decide) (Or.inl rfl)) (lk1_n (lk1_n (lk1_n (lk1_n l2 (by decide) (Or.inl rfl)) (by decide) (Or.inl rfl)) (by decide) (Or.inl rfl)) (by decide) (Or.inl rfl)) (lk1_n (lk1_n (lk1_n lk1_s (by decide) (Or.inl rfl)) (by decide) (Or.inl rfl)) (by decide) (Or.inl rfl)) (lk1_n lk1_s (by decide) (Or.inl rfl)) lk1_s (hG586) (((hF4).trans ((hF585).mono rfl)).trans ((hF586).mono rfl))
          · refine x_iconst 76 hK rfl rfl ?_
            refine x_goto 80 hK rfl rfl ?_
            have dl4 : dlA h4 x.1 = dlA h x.1 := dlA_F hF4 rfl _
            have l54 : gi h4 171 5 = gi h 171 5 := FRM_gi hF4 (r := 54) rfl rfl
            refine x_callV 83 hK hmono rfl rfl [.ref 0, .int (I (-1))] [] rfl rfl (Nat.le_of_ble_eq_true rfl) (Nat.le_of_ble_eq_true rfl) rfl (sp_0 (h := h4) hG4) (CLd_le (Nat.le_of_ble_eq_true rfl) (ctX10_giveOrderF hSP hG4 (show PT h4 from PT_F hF4 (by decide) hP) (show XI h4 from (xOk_ok rfl _ h4 hF4 hX)) (DR_F hF4 rfl hD) (w := x) (b := b + i) (by rw [n94]; exact hs) wx (by omega) (v := (-1)) (by omega) (by omega))) ?_
            rw [dl4, l54, n94]
            rintro v587 h587 ⟨rfl, hG587, hF587, hS587⟩
            have db := dlA_b h x.1
            have ev : (-1) = 2 * drv d - 1 := by omega
            rw [ev] at hS587
            refine x_pop 84 hK rfl rfl rfl ?_
            refine x_iinc 87 hK rfl rfl (lk1_n (lk1_n l4 (by decide) (Or.inl rfl)) (by decide) (Or.inl rfl)) _ rfl ?_
            refine x_aload_n 88 hK rfl rfl (lk1_n (lk1_n (lk1_n l0 (by decide) (Or.inl rfl)) (by decide) (Or.inl rfl)) (by decide) (Or.inl rfl)) ?_
            have n9588 : gi h587 0 9 = (gi h 0 9) := (FRM_gi hF587 (r := 0) rfl rfl).trans (FRM_gi hF4 (r := 0) rfl rfl)
            have n19588 : gi h587 19 0 = gi h 19 0 := (FRM_gi hF587 (r := 13) rfl rfl).trans (FRM_gi hF4 (r := 13) rfl rfl)
            refine x_callV 91 hK hmono rfl rfl [.ref 0] [] rfl rfl (Nat.le_of_ble_eq_true rfl) (Nat.le_of_ble_eq_true rfl) rfl (sp_0 (h := h587) hG587) (CLd_le (Nat.le_of_ble_eq_true rfl) (ctX10_goStepF hSP hG587 (b := b + i) (w := (gvW (dlA h x.1) (tvF (gi h 171 5) (2 * drv d - 1)) x)) (ml := ml) (ln := ln) (ea := ea) (by rw [n9588]; exact hS587) (WW_gv wx) (by omega) (fun j hj => by rw [n19588] at hj; rw [show gi h587 20 j = gi h 20 j from (FRM_gi hF587 (r := 14) rfl rfl).trans (FRM_gi hF4 (r := 14) rfl rfl), show gi h587 21 j = gi h 21 j from (FRM_gi hF587 (r := 15) rfl rfl).trans (FRM_gi hF4 (r := 15) rfl rfl)]; exact hml j hj) (fun m hm => by rw [n9588] at hm; rw [show gi h587 22 m = gi h 22 m from (FRM_gi hF587 (r := 16) rfl rfl).trans (FRM_gi hF4 (r := 16) rfl rfl)]; exact hea m hm))) ?_
            rw [n9588, n19588]
            rintro v588 h588 ⟨rfl, hG588, hF588, hS588⟩
            refine x_pop 92 hK rfl rfl rfl ?_
            refine x_iinc 95 hK rfl rfl (lk1_n (lk1_n (lk1_n l5 (by decide) (Or.inl rfl)) (by decide) (Or.inl rfl)) (by decide) (Or.inl rfl)) _ rfl ?_
            refine x_goto 32 hK rfl rfl ?_
            obtain ⟨q, hq⟩ : ∃ q : Nat, (n - i).toNat = q + 1 := ⟨(n - i).toNat - 1, by omega⟩
            rw [hq] at hv
            unfold vgI at hv
            rw [if_pos (by omega)] at hv
            have wd : WW (b + i + 1) (stW ml ln (gi h 19 0).toNat (gi h 0 9) ea (gvW (dlA h x.1) (tvF (gi h 171 5) (2 * drv d - 1)) x)) := WW_st (by omega) g9.2 (fun m hm => (hea m hm).2) (WW_gv wx)
            exact ih _ (by omega) ((d * 1103515245) + 12345) (g + 1) (i + 1) _ _ rfl (n0) (by omega) (by omega) (⟨_, _, hS588, by rw [show b + (i + 1) = b + i + 1 by omega]; exact wd, by rw [show (n - (i + 1)).toNat = q by omega]; exact hv⟩) ((kS28_F hF588 (by decide)).trans ((kS28_F hF587 (by decide)).trans (s28))) (lk1_n (lk1_n (lk1_n (lk1_n l0 (by decide) (Or.inl rfl)) (by decide) (Or.inl rfl)) (by decide) (Or.inl rfl)) (by decide) (Or.inl rfl)) (lk1_n (lk1_n (lk1_n (lk1_n l2 (by decide) (Or.inl rfl)) (by decide) (Or.inl rfl)) (by decide) (Or.inl rfl)) (by decide) (Or.inl rfl)) (lk1_n (lk1_n (lk1_n lk1_s (by decide) (Or.inl rfl)) (by decide) (Or.inl rfl)) (by decide) (Or.inl rfl)) (lk1_n lk1_s (by decide) (Or.inl rfl)) lk1_s (hG588) (((hF4).trans ((hF587).mono rfl)).trans ((hF588).mono rfl))
  refine x_iload_n 1 hK rfl rfl rfl ?_
  refine x_iconst 2 hK rfl rfl ?_
  refine x_if_icmp_lt 11 5 hK rfl rfl rfl (by omega) (by omega) (fun c3 => ?_) (fun c3 => ?_)
  · refine x_iconst 12 hK rfl rfl ?_
    exact x_iret hK rfl ⟨Or.inl ⟨by omega, rfl, rfl⟩, hG, FRM.rf⟩
  · refine x_iload_n 6 hK rfl rfl rfl ?_
    refine x_bipush 8 hK rfl rfl rfl ?_
    refine x_if_icmp_le 13 11 hK rfl rfl rfl (by omega) (by omega) (fun c8 => ?_) (fun c8 => ?_)
    · refine x_aload_n 14 hK rfl rfl rfl ?_
      refine x_getR 17 hK rfl rfl (sp_0 (h := h) hG) (rf_0_11 (h := h) hG) ?_
      refine x_aload_n 18 hK rfl rfl rfl ?_
      refine x_getR 21 hK rfl rfl (sp_0 (h := h) hG) (rf_0_10 (h := h) hG) ?_
      refine x_callV 24 hK hmono rfl rfl [.ref 28, .ref 23] [] rfl rfl (Nat.le_of_ble_eq_true rfl) (Nat.le_of_ble_eq_true rfl) rfl (sp_28 (h := h) hG) (CLd_le (Nat.le_of_ble_eq_true rfl) (ctX8_copyFrom_28_23 hSP hG (show PT h from hP))) ?_
      rintro v589 h589 ⟨rfl, hG589, hF589, eS589, ot589⟩
      refine x_iload_n 25 hK rfl rfl rfl ?_
      refine x_istore_n 26 hK rfl rfl [(3, .int (I x)), (0, .ref 0), (1, .int (I x)), (2, .int (I n))] rfl ?_
      refine x_iconst 27 hK rfl rfl ?_
      refine x_istore 29 hK rfl rfl [(4, .int (I 0)), (3, .int (I x)), (0, .ref 0), (1, .int (I x)), (2, .int (I n))] rfl ?_
      refine x_iconst 30 hK rfl rfl ?_
      refine x_istore 32 hK rfl rfl [(5, .int (I 0)), (4, .int (I 0)), (3, .int (I x)), (0, .ref 0), (1, .int (I x)), (2, .int (I n))] rfl ?_
      exact loop _ x 0 0 _ _ rfl (⟨by omega, by omega⟩) (by omega) (by omega) (⟨w, 0, by rw [kS23_F hF589 (by decide)]; exact hS, by rw [show b + 0 = b by omega]; exact hw, by rw [show n - 0 = n by omega]; exact hVV⟩) (eS589) rfl rfl rfl rfl rfl (hG589) ((hF589).mono rfl)
    · refine x_iconst 12 hK rfl rfl ?_
      exact x_iret hK rfl ⟨Or.inl ⟨by omega, rfl, rfl⟩, hG, FRM.rf⟩
set_option maxRecDepth 4000 in
theorem ctX11_voyagesF {SP : CT} (hSP : MONO SP) {sh : List (Nat × Nat)} {h : aH} (hG : GD gE gRL sh h) {x n b : Int} (hX : XI h) (rx : r32 x) (rn : r32 n) (wb : WB b (RC h 178 0)) (hb : b ≤ 900000) : CLd SP 12 mX11_voyages [.ref 171, .int (I x), .int (I n)] h 0 0 (fun rv h' => ((¬ (1 ≤ n ∧ n ≤ 60) ∧ rv = some (.int (I (-1))) ∧ mrow h' = mrow h ∧ gi h' 171 1 = gi h 171 1) ∨ ((1 ≤ n ∧ n ≤ 60) ∧ rv = some (.int (I (vgI (dlA h) (gi h 171 5) (gi h 175) (gi h 176) (gi h 171 6).toNat (gi h 171 7) (gi h 177) n.toNat x (vw (RC h 178 0)) 0 0).2.2)) ∧ mrow h' = [(vgI (dlA h) (gi h 171 5) (gi h 175) (gi h 176) (gi h 171 6).toNat (gi h 171 7) (gi h 177) n.toNat x (vw (RC h 178 0)) 0 0).1.2.1, (vgI (dlA h) (gi h 171 5) (gi h 175) (gi h 176) (gi h 171 6).toNat (gi h 171 7) (gi h 177) n.toNat x (vw (RC h 178 0)) 0 0).2.1])) ∧ GD gE gRL sh h' ∧ FRM gRL [(0, 54, 0, 0), (0, 54, 1, 1), (0, 54, 31, 32), (0, 62, 0, 56), (0, 67, 0, 79), (0, 68, 0, 3), (1, 55, 0, 39)] h h') := by
  refine x_met _ rfl (Nat.le_of_ble_eq_true rfl) (fun K hK => ?_)
  have hmono := MONO_CLd hSP 11
  obtain ⟨VV, hVV⟩ : ∃ VV, (vgI (dlA h) (gi h 171 5) (gi h 175) (gi h 176) (gi h 171 6).toNat (gi h 171 7) (gi h 177) n.toNat x (vw (RC h 178 0)) 0 0) = VV := ⟨_, rfl⟩
  rw [hVV] at hK
  have g6 := gri 0 16 hG (a := 171) (r := 54) (k := 6) rfl rfl
  have g7 := gri 0 8 hG (a := 171) (r := 54) (k := 7) rfl rfl
  have loop : ∀ (mz : Nat) (d g i k : Int) (h4 : aH) (ls : List (Nat × Value)), ((n - i).toNat = mz) → (1 ≤ n ∧ n ≤ 60) → (0 ≤ i ∧ i ≤ n) → (0 ≤ g ∧ g ≤ i) → (0 ≤ k ∧ k ≤ 16 * i) → (gi h4 171 31 = k) → (0 ≤ gi h4 171 32 ∧ gi h4 171 32 ≤ 8 * i) → ((vgI (dlA h) (gi h 171 5) (gi h 175) (gi h 176) (gi h 171 6).toNat (gi h 171 7) (gi h 177) (n - i).toNat d (vw (RC h4 179 0)) g k) = VV) → (WB (b + i) (RC h4 179 0)) → lk ls 0 = some (.ref 171) → lk ls 2 = some (.int (I n)) → lk ls 3 = some (.int (I d)) → lk ls 4 = some (.int (I g)) → lk ls 5 = some (.int (I i)) → GD gE gRL sh h4 → FRM gRL [(0, 54, 0, 0), (0, 54, 1, 1), (0, 54, 31, 32), (0, 62, 0, 56), (0, 67, 0, 79), (0, 68, 0, 3), (1, 55, 0, 39)] h h4 → K 35 ls [] h4 0 0 := by
    intro mz
    induction mz using Nat.strongRecOn with
    | ind mz ih =>
    intro d g i k h4 ls hm n0 i0 g0 k0 s31 s32 hv wb4 l0 l2 l3 l4 l5 hG4 hF4
    have gl := gri 0 8 hG4 (a := 179) (r := 62) (k := 1) rfl rfl
    refine x_iload 37 hK rfl rfl l5 ?_
    refine x_iload_n 38 hK rfl rfl l2 ?_
    refine x_if_icmp_ge 109 41 hK rfl rfl rfl (by omega) (by omega) (fun c3 => ?_) (fun c3 => ?_)
    · refine x_aload_n 110 hK rfl rfl l0 ?_
      refine x_iconst 111 hK rfl rfl ?_
      refine x_putI 114 hK rfl rfl (sp_171 (h := h4) hG4) ?_
      refine x_aload_n 115 hK rfl rfl l0 ?_
      refine x_aload_n 116 hK rfl rfl l0 ?_
      refine x_getR 119 hK rfl rfl (sp_171 (h := h4) hG4) (rf_171_15 (h := h4) hG4) ?_
      refine x_iconst 120 hK rfl rfl ?_
      have g590 := gri (0) (8) hG4 (a := 179) (r := 62) (k := 1) rfl rfl
      refine x_ialoadE 121 hK rfl rfl (sp_179 (h := h4) hG4) (by omega) (by omega) (by omega) (e' := (gi h4 179 1)) (gi_a (by decide) _) ?_
      refine x_i2l 122 hK rfl rfl (by omega) ?_
      have hGp591 : GD gE gRL sh (wI h4 171 1 0) := GD_w1 (hG4) (r := 54) rfl (by omega) rfl (by omega) (by omega)
      have z593 : gi (wI h4 171 1 0) 171 1 = 0 := gi_same (by omega)
      have z593r : mrow (wI h4 171 1 0) = [] := mrow_0 (gi_same (by omega))
      refine x_callV 125 hK hmono rfl rfl [.ref 171, .long (J (gi h4 179 1))] [] rfl rfl (Nat.le_of_ble_eq_true rfl) (Nat.le_of_ble_eq_true rfl) rfl (sp_171 (h := h4) hG4) (CLd_le (Nat.le_of_ble_eq_true rfl) (ctX11_entersF hSP hGp591 (by omega) (by omega))) ?_
      rintro v592 h592 ⟨rfl, hG592, hF592, t592, s592⟩
      rw [z593] at t592
      rw [z593r] at s592
      replace t592 : gi h592 171 1 = 1 := t592
      change mrow h592 = [(gi h4 179 1)] at s592
      refine x_aload_n 126 hK rfl rfl l0 ?_
      refine x_iload 128 hK rfl rfl l4 ?_
      refine x_i2l 129 hK rfl rfl (by omega) ?_
      have z595 : gi h592 171 1 = 1 := t592
      have z595r : mrow h592 = [(gi h4 179 1)] := s592
      refine x_callV 132 hK hmono rfl rfl [.ref 171, .long (J g)] [] rfl rfl (Nat.le_of_ble_eq_true rfl) (Nat.le_of_ble_eq_true rfl) rfl (sp_171 (h := h592) hG592) (CLd_le (Nat.le_of_ble_eq_true rfl) (ctX11_entersF hSP hG592 (by omega) (by omega))) ?_
      rintro v594 h594 ⟨rfl, hG594, hF594, t594, s594⟩
      rw [z595] at t594
      rw [z595r] at s594
      replace t594 : gi h594 171 1 = 2 := t594
      change mrow h594 = [(gi h4 179 1), g] at s594
      refine x_aload_n 133 hK rfl rfl l0 ?_
      refine x_getE 136 hK rfl (Or.inl rfl) rfl (sp_171 (h := h594) hG594) (e := k) ((FRM_gi hF594 (r := 54) rfl rfl).trans ((FRM_gi hF592 (r := 54) rfl rfl).trans ((gi_k (by decide) _).trans (s31)))) ?_
      have z0 : (n - i).toNat = 0 := by omega
      rw [z0] at hv
      have hv : (vw (RC h4 179 0), g, k) = VV := hv
      subst hv
      have x2 : gi h4 179 1 = (vw (RC h4 179 0)).2.1 := (RC_0 (a := 179) (k := 1) (by omega)).symm
      exact x_iret hK rfl ⟨Or.inr ⟨n0, rfl, by rw [s594, x2]⟩, hG594, ((FRM_w (hF4) (r := 54) rfl rfl).trans ((hF592).mono rfl)).trans ((hF594).mono rfl)⟩
    · refine x_iload_n 42 hK rfl rfl l3 ?_
      refine x_ldc_w 45 hK rfl rfl ?_
      refine x_imul 46 hK rfl rfl ?_
      refine x_sipush 49 hK rfl rfl rfl ?_
      refine x_iadd 50 hK rfl rfl ?_
      refine x_istore_n 51 hK rfl rfl _ rfl ?_
      refine x_iload_n 52 hK rfl rfl lk1_s ?_
      refine x_bipush 54 hK rfl rfl rfl ?_
      have g596 := bUsh_r ((d * 1103515245) + 12345) 16
      refine x_iushrF 55 hK rfl rfl ?_
      refine x_iconst 56 hK rfl rfl ?_
      refine x_irem 57 hK rfl rfl (by omega) (by omega) (by omega) (by omega) ?_
      have tm := drv_b d
      rw [show (bUsh (d * 1103515245 + 12345) 16).tmod 4 = drv d from rfl]
      refine x_istore 59 hK rfl rfl _ rfl ?_
      refine x_iload 61 hK rfl rfl lk1_s ?_
      refine x_iconst 62 hK rfl rfl ?_
      refine x_if_icmp_ge 95 65 hK rfl rfl rfl (by omega) (by omega) (fun c35 => ?_) (fun c35 => ?_)
      · refine x_aload_n 96 hK rfl rfl (lk1_n (lk1_n l0 (by decide) (Or.inl rfl)) (by decide) (Or.inl rfl)) ?_
        refine x_aload_n 97 hK rfl rfl (lk1_n (lk1_n l0 (by decide) (Or.inl rfl)) (by decide) (Or.inl rfl)) ?_
        refine x_getR 100 hK rfl rfl (sp_171 (h := h4) hG4) (rf_171_15 (h := h4) hG4) ?_
        have z31597 : gi h4 171 31 = k := s31
        have z32597 : gi h4 171 32 = gi h4 171 32 := rfl
        refine x_callV 103 hK hmono rfl rfl [.ref 171, .ref 179] [] rfl rfl (Nat.le_of_ble_eq_true rfl) (Nat.le_of_ble_eq_true rfl) rfl (sp_171 (h := h4) hG4) (CLd_le (Nat.le_of_ble_eq_true rfl) (ctX11_stepGoesTF hSP hG4 wb4 (by omega) (by omega) (by omega))) ?_
        rw [show gi h4 175 = gi h 175 from funext fun j => FRM_gi hF4 (r := 58) rfl rfl, show gi h4 176 = gi h 176 from funext fun j => FRM_gi hF4 (r := 59) rfl rfl, show gi h4 171 6 = gi h 171 6 from FRM_gi hF4 (r := 54) rfl rfl, show gi h4 171 7 = gi h 171 7 from FRM_gi hF4 (r := 54) rfl rfl, show gi h4 177 = gi h 177 from funext fun j => FRM_gi hF4 (r := 60) rfl rfl, z31597, z32597]
        rintro v597 h597 ⟨rfl, hG597, hF597, sv597, x31597, x32597, wb597⟩
        have hh597 := hitN_b (gi h 175) (gi h 176) ((vw (RC h4 179 0)).1 + 1) (stL (vw (RC h4 179 0))) (gi h 171 6).toNat
        have uh597 := hcN_b (vw (RC h4 179 0)).2.2.2.2.2.1 (gi h 177) (gi h 171 7).toNat
        have x31597 : gi h597 171 31 = k + hitN (gi h 175) (gi h 176) ((vw (RC h4 179 0)).1 + 1) (stL (vw (RC h4 179 0))) (gi h 171 6).toNat := x31597
        have x32597 : gi h597 171 32 = gi h4 171 32 + hcN (vw (RC h4 179 0)).2.2.2.2.2.1 (gi h 177) (gi h 171 7).toNat := x32597
        refine x_iinc 106 hK rfl rfl (lk1_n (lk1_n l5 (by decide) (Or.inl rfl)) (by decide) (Or.inl rfl)) _ rfl ?_
        refine x_goto 35 hK rfl rfl ?_
        obtain ⟨q, hq⟩ : ∃ q : Nat, (n - i).toNat = q + 1 := ⟨(n - i).toNat - 1, by omega⟩
        rw [hq] at hv
        unfold vgI at hv
        rw [if_neg (by omega), ← sv597] at hv
        exact ih _ (by omega) ((d * 1103515245) + 12345) g (i + 1) (k + hitN (gi h 175) (gi h 176) ((vw (RC h4 179 0)).1 + 1) (stL (vw (RC h4 179 0))) (gi h 171 6).toNat) _ _ rfl (n0) (by omega) (by omega) (by omega) (x31597) (by omega) (by rw [show (n - (i + 1)).toNat = q by omega]; exact hv) ((by rw [show b + (i + 1) = b + i + 1 by omega]; exact wb597)) (lk1_n (lk1_n (lk1_n l0 (by decide) (Or.inl rfl)) (by decide) (Or.inl rfl)) (by decide) (Or.inl rfl)) (lk1_n (lk1_n (lk1_n l2 (by decide) (Or.inl rfl)) (by decide) (Or.inl rfl)) (by decide) (Or.inl rfl)) (lk1_n (lk1_n lk1_s (by decide) (Or.inl rfl)) (by decide) (Or.inl rfl)) (lk1_n (lk1_n (lk1_n l4 (by decide) (Or.inl rfl)) (by decide) (Or.inl rfl)) (by decide) (Or.inl rfl)) lk1_s (hG597) ((hF4).trans ((hF597).mono rfl))
      · refine x_iload 67 hK rfl rfl (lk1_n (lk1_n l4 (by decide) (Or.inl rfl)) (by decide) (Or.inl rfl)) ?_
        refine x_aload_n 68 hK rfl rfl (lk1_n (lk1_n l0 (by decide) (Or.inl rfl)) (by decide) (Or.inl rfl)) ?_
        refine x_aload_n 69 hK rfl rfl (lk1_n (lk1_n l0 (by decide) (Or.inl rfl)) (by decide) (Or.inl rfl)) ?_
        refine x_getR 72 hK rfl rfl (sp_171 (h := h4) hG4) (rf_171_15 (h := h4) hG4) ?_
        refine x_iconst 73 hK rfl rfl ?_
        refine x_iload 75 hK rfl rfl lk1_s ?_
        refine x_imul 76 hK rfl rfl ?_
        refine x_iconst 77 hK rfl rfl ?_
        refine x_isub 78 hK rfl rfl ?_
        have dl4 : dlA h4 = dlA h := funext fun z => dlA_F hF4 rfl z
        have l54 : gi h4 171 5 = gi h 171 5 := FRM_gi hF4 (r := 54) rfl rfl
        have gi9 : gvR ((2 * (drv d)) - 1) (vw (RC h4 179 0)) = gvR 0 (vw (RC h4 179 0)) := gvR_in (by omega)
        have gb : -3 ≤ gvR 0 (vw (RC h4 179 0)) ∧ gvR 0 (vw (RC h4 179 0)) ≤ 0 := by unfold gvR; (repeat' split) <;> omega
        have e90 : gi h4 179 0 = (vw (RC h4 179 0)).1 := (RC_0 (a := 179) (k := 0) (by omega)).symm
        refine x_callV 81 hK hmono rfl rfl [.ref 171, .ref 179, .int (I ((2 * (drv d)) - 1))] [.int (I g)] rfl rfl (Nat.le_of_ble_eq_true rfl) (Nat.le_of_ble_eq_true rfl) rfl (sp_171 (h := h4) hG4) (CLd_le (Nat.le_of_ble_eq_true rfl) (ctX11_givesTF hSP hG4 (show XI h4 from (xOk_ok rfl _ h4 hF4 hX)) (v := ((2 * (drv d)) - 1)) (by omega) wb4 (by omega))) ?_
        rw [dl4, l54, gi9, e90]
        rintro v598 h598 ⟨⟨gz598, rfl, rc598⟩ | ⟨gz598, rfl, rc598⟩, hG598, hF598, wb598⟩
        · refine x_if_lt 88 84 hK rfl rfl rfl (by omega) (fun c53 => ?_) (fun c53 => ?_)
          · refine x_iconst 89 hK rfl rfl ?_
            refine x_callS 92 hK hmono rfl (Or.inl rfl) rfl [.int (I 0)] [.int (I g)] rfl rfl (Nat.le_of_ble_eq_true rfl) (Nat.le_of_ble_eq_true rfl) (CLd_le (Nat.le_of_ble_eq_true rfl) (ctX11_flag (by omega))) ?_
            rintro v9 h9 ⟨e9, rfl⟩
            rw [e9]
            clear e9
            refine x_iadd 93 hK rfl rfl ?_
            refine x_istore 95 hK rfl rfl _ rfl ?_
            refine x_aload_n 96 hK rfl rfl (lk1_n (lk1_n (lk1_n l0 (by decide) (Or.inl rfl)) (by decide) (Or.inl rfl)) (by decide) (Or.inl rfl)) ?_
            refine x_aload_n 97 hK rfl rfl (lk1_n (lk1_n (lk1_n l0 (by decide) (Or.inl rfl)) (by decide) (Or.inl rfl)) (by decide) (Or.inl rfl)) ?_
            refine x_getR 100 hK rfl rfl (sp_171 (h := h598) hG598) (rf_171_15 (h := h598) hG598) ?_
            have z31600 : gi h598 171 31 = k := (FRM_gi hF598 (r := 54) rfl rfl).trans (s31)
            have z32600 : gi h598 171 32 = gi h4 171 32 := FRM_gi hF598 (r := 54) rfl rfl
            refine x_callV 103 hK hmono rfl rfl [.ref 171, .ref 179] [] rfl rfl (Nat.le_of_ble_eq_true rfl) (Nat.le_of_ble_eq_true rfl) rfl (sp_171 (h := h598) hG598) (CLd_le (Nat.le_of_ble_eq_true rfl) (ctX11_stepGoesTF hSP hG598 wb598 (by omega) (by omega) (by omega))) ?_
            rw [rc598, show gi h598 175 = gi h 175 from funext fun j => (FRM_gi hF598 (r := 58) rfl rfl).trans (FRM_gi hF4 (r := 58) rfl rfl), show gi h598 176 = gi h 176 from funext fun j => (FRM_gi hF598 (r := 59) rfl rfl).trans (FRM_gi hF4 (r := 59) rfl rfl), show gi h598 171 6 = gi h 171 6 from (FRM_gi hF598 (r := 54) rfl rfl).trans (FRM_gi hF4 (r := 54) rfl rfl), show gi h598 171 7 = gi h 171 7 from (FRM_gi hF598 (r := 54) rfl rfl).trans (FRM_gi hF4 (r := 54) rfl rfl), show gi h598 177 = gi h 177 from funext fun j => (FRM_gi hF598 (r := 60) rfl rfl).trans (FRM_gi hF4 (r := 60) rfl rfl), z31600, z32600]
            rintro v600 h600 ⟨rfl, hG600, hF600, sv600, x31600, x32600, wb600⟩
            have hh600 := hitN_b (gi h 175) (gi h 176) ((vw (RC h4 179 0)).1 + 1) (stL (vw (RC h4 179 0))) (gi h 171 6).toNat
            have uh600 := hcN_b (vw (RC h4 179 0)).2.2.2.2.2.1 (gi h 177) (gi h 171 7).toNat
            have x31600 : gi h600 171 31 = k + hitN (gi h 175) (gi h 176) ((vw (RC h4 179 0)).1 + 1) (stL (vw (RC h4 179 0))) (gi h 171 6).toNat := x31600
            have x32600 : gi h600 171 32 = gi h4 171 32 + hcN (vw (RC h4 179 0)).2.2.2.2.2.1 (gi h 177) (gi h 171 7).toNat := x32600
            refine x_iinc 106 hK rfl rfl (lk1_n (lk1_n (lk1_n l5 (by decide) (Or.inl rfl)) (by decide) (Or.inl rfl)) (by decide) (Or.inl rfl)) _ rfl ?_
            refine x_goto 35 hK rfl rfl ?_
            obtain ⟨q, hq⟩ : ∃ q : Nat, (n - i).toNat = q + 1 := ⟨(n - i).toNat - 1, by omega⟩
            rw [hq] at hv
            unfold vgI at hv
            rw [if_neg (by omega), ← sv600] at hv
            exact ih _ (by omega) ((d * 1103515245) + 12345) (g + 0) (i + 1) (k + hitN (gi h 175) (gi h 176) ((vw (RC h4 179 0)).1 + 1) (stL (vw (RC h4 179 0))) (gi h 171 6).toNat) _ _ rfl (n0) (by omega) (by omega) (by omega) (x31600) (by omega) (by rw [show (n - (i + 1)).toNat = q by omega, Int.add_zero]; exact hv) ((by rw [show b + (i + 1) = b + i + 1 by omega]; exact wb600)) (lk1_n (lk1_n (lk1_n (lk1_n l0 (by decide) (Or.inl rfl)) (by decide) (Or.inl rfl)) (by decide) (Or.inl rfl)) (by decide) (Or.inl rfl)) (lk1_n (lk1_n (lk1_n (lk1_n l2 (by decide) (Or.inl rfl)) (by decide) (Or.inl rfl)) (by decide) (Or.inl rfl)) (by decide) (Or.inl rfl)) (lk1_n (lk1_n (lk1_n lk1_s (by decide) (Or.inl rfl)) (by decide) (Or.inl rfl)) (by decide) (Or.inl rfl)) (lk1_n lk1_s (by decide) (Or.inl rfl)) lk1_s (hG600) (((hF4).trans ((hF598).mono rfl)).trans ((hF600).mono rfl))
          · refine x_iconst 85 hK rfl rfl ?_
            refine x_goto 89 hK rfl rfl ?_
            refine x_callS 92 hK hmono rfl (Or.inl rfl) rfl [.int (I 1)] [.int (I g)] rfl rfl (Nat.le_of_ble_eq_true rfl) (Nat.le_of_ble_eq_true rfl) (CLd_le (Nat.le_of_ble_eq_true rfl) (ctX11_flag (by omega))) ?_
            rintro v9 h9 ⟨e9, rfl⟩
            rw [e9]
            clear e9
            refine x_iadd 93 hK rfl rfl ?_
            refine x_istore 95 hK rfl rfl _ rfl ?_
            refine x_aload_n 96 hK rfl rfl (lk1_n (lk1_n (lk1_n l0 (by decide) (Or.inl rfl)) (by decide) (Or.inl rfl)) (by decide) (Or.inl rfl)) ?_
            refine x_aload_n 97 hK rfl rfl (lk1_n (lk1_n (lk1_n l0 (by decide) (Or.inl rfl)) (by decide) (Or.inl rfl)) (by decide) (Or.inl rfl)) ?_
            refine x_getR 100 hK rfl rfl (sp_171 (h := h598) hG598) (rf_171_15 (h := h598) hG598) ?_
            have z31602 : gi h598 171 31 = k := (FRM_gi hF598 (r := 54) rfl rfl).trans (s31)
            have z32602 : gi h598 171 32 = gi h4 171 32 := FRM_gi hF598 (r := 54) rfl rfl
            refine x_callV 103 hK hmono rfl rfl [.ref 171, .ref 179] [] rfl rfl (Nat.le_of_ble_eq_true rfl) (Nat.le_of_ble_eq_true rfl) rfl (sp_171 (h := h598) hG598) (CLd_le (Nat.le_of_ble_eq_true rfl) (ctX11_stepGoesTF hSP hG598 wb598 (by omega) (by omega) (by omega))) ?_
            rw [rc598, show gi h598 175 = gi h 175 from funext fun j => (FRM_gi hF598 (r := 58) rfl rfl).trans (FRM_gi hF4 (r := 58) rfl rfl), show gi h598 176 = gi h 176 from funext fun j => (FRM_gi hF598 (r := 59) rfl rfl).trans (FRM_gi hF4 (r := 59) rfl rfl), show gi h598 171 6 = gi h 171 6 from (FRM_gi hF598 (r := 54) rfl rfl).trans (FRM_gi hF4 (r := 54) rfl rfl), show gi h598 171 7 = gi h 171 7 from (FRM_gi hF598 (r := 54) rfl rfl).trans (FRM_gi hF4 (r := 54) rfl rfl), show gi h598 177 = gi h 177 from funext fun j => (FRM_gi hF598 (r := 60) rfl rfl).trans (FRM_gi hF4 (r := 60) rfl rfl), z31602, z32602]
            rintro v602 h602 ⟨rfl, hG602, hF602, sv602, x31602, x32602, wb602⟩
            have hh602 := hitN_b (gi h 175) (gi h 176) ((vw (RC h4 179 0)).1 + 1) (stL (vw (RC h4 179 0))) (gi h 171 6).toNat
            have uh602 := hcN_b (vw (RC h4 179 0)).2.2.2.2.2.1 (gi h 177) (gi h 171 7).toNat
            have x31602 : gi h602 171 31 = k + hitN (gi h 175) (gi h 176) ((vw (RC h4 179 0)).1 + 1) (stL (vw (RC h4 179 0))) (gi h 171 6).toNat := x31602
            have x32602 : gi h602 171 32 = gi h4 171 32 + hcN (vw (RC h4 179 0)).2.2.2.2.2.1 (gi h 177) (gi h 171 7).toNat := x32602
            refine x_iinc 106 hK rfl rfl (lk1_n (lk1_n (lk1_n l5 (by decide) (Or.inl rfl)) (by decide) (Or.inl rfl)) (by decide) (Or.inl rfl)) _ rfl ?_
            refine x_goto 35 hK rfl rfl ?_
            exfalso
            omega
        · have db := dlA_b h (vw (RC h4 179 0)).1
          refine x_if_lt 88 84 hK rfl rfl rfl (by omega) (fun c77 => ?_) (fun c77 => ?_)
          · refine x_iconst 89 hK rfl rfl ?_
            refine x_callS 92 hK hmono rfl (Or.inl rfl) rfl [.int (I 0)] [.int (I g)] rfl rfl (Nat.le_of_ble_eq_true rfl) (Nat.le_of_ble_eq_true rfl) (CLd_le (Nat.le_of_ble_eq_true rfl) (ctX11_flag (by omega))) ?_
            rintro v9 h9 ⟨e9, rfl⟩
            rw [e9]
            clear e9
            refine x_iadd 93 hK rfl rfl ?_
            refine x_istore 95 hK rfl rfl _ rfl ?_
            refine x_aload_n 96 hK rfl rfl (lk1_n (lk1_n (lk1_n l0 (by decide) (Or.inl rfl)) (by decide) (Or.inl rfl)) (by decide) (Or.inl rfl)) ?_
            refine x_aload_n 97 hK rfl rfl (lk1_n (lk1_n (lk1_n l0 (by decide) (Or.inl rfl)) (by decide) (Or.inl rfl)) (by decide) (Or.inl rfl)) ?_
            refine x_getR 100 hK rfl rfl (sp_171 (h := h598) hG598) (rf_171_15 (h := h598) hG598) ?_
            have z31604 : gi h598 171 31 = k := (FRM_gi hF598 (r := 54) rfl rfl).trans (s31)
            have z32604 : gi h598 171 32 = gi h4 171 32 := FRM_gi hF598 (r := 54) rfl rfl
            refine x_callV 103 hK hmono rfl rfl [.ref 171, .ref 179] [] rfl rfl (Nat.le_of_ble_eq_true rfl) (Nat.le_of_ble_eq_true rfl) rfl (sp_171 (h := h598) hG598) (CLd_le (Nat.le_of_ble_eq_true rfl) (ctX11_stepGoesTF hSP hG598 wb598 (by omega) (by omega) (by omega))) ?_
            rw [rc598, show gi h598 175 = gi h 175 from funext fun j => (FRM_gi hF598 (r := 58) rfl rfl).trans (FRM_gi hF4 (r := 58) rfl rfl), show gi h598 176 = gi h 176 from funext fun j => (FRM_gi hF598 (r := 59) rfl rfl).trans (FRM_gi hF4 (r := 59) rfl rfl), show gi h598 171 6 = gi h 171 6 from (FRM_gi hF598 (r := 54) rfl rfl).trans (FRM_gi hF4 (r := 54) rfl rfl), show gi h598 171 7 = gi h 171 7 from (FRM_gi hF598 (r := 54) rfl rfl).trans (FRM_gi hF4 (r := 54) rfl rfl), show gi h598 177 = gi h 177 from funext fun j => (FRM_gi hF598 (r := 60) rfl rfl).trans (FRM_gi hF4 (r := 60) rfl rfl), z31604, z32604]
            rintro v604 h604 ⟨rfl, hG604, hF604, sv604, x31604, x32604, wb604⟩
            have hh604 := hitN_b (gi h 175) (gi h 176) ((gvW (dlA h (vw (RC h4 179 0)).1) (tvF (gi h 171 5) (2 * drv d - 1)) (vw (RC h4 179 0))).1 + 1) (stL (gvW (dlA h (vw (RC h4 179 0)).1) (tvF (gi h 171 5) (2 * drv d - 1)) (vw (RC h4 179 0)))) (gi h 171 6).toNat
            have uh604 := hcN_b (gvW (dlA h (vw (RC h4 179 0)).1) (tvF (gi h 171 5) (2 * drv d - 1)) (vw (RC h4 179 0))).2.2.2.2.2.1 (gi h 177) (gi h 171 7).toNat
            have x31604 : gi h604 171 31 = k + hitN (gi h 175) (gi h 176) ((gvW (dlA h (vw (RC h4 179 0)).1) (tvF (gi h 171 5) (2 * drv d - 1)) (vw (RC h4 179 0))).1 + 1) (stL (gvW (dlA h (vw (RC h4 179 0)).1) (tvF (gi h 171 5) (2 * drv d - 1)) (vw (RC h4 179 0)))) (gi h 171 6).toNat := x31604
            have x32604 : gi h604 171 32 = gi h4 171 32 + hcN (gvW (dlA h (vw (RC h4 179 0)).1) (tvF (gi h 171 5) (2 * drv d - 1)) (vw (RC h4 179 0))).2.2.2.2.2.1 (gi h 177) (gi h 171 7).toNat := x32604
            refine x_iinc 106 hK rfl rfl (lk1_n (lk1_n (lk1_n l5 (by decide) (Or.inl rfl)) (by decide) (Or.inl rfl)) (by decide) (Or.inl rfl)) _ rfl ?_
            refine x_goto 35 hK rfl rfl ?_
            exfalso
            omega
          · refine x_iconst 85 hK rfl rfl ?_
            refine x_goto 89 hK rfl rfl ?_
            refine x_callS 92 hK hmono rfl (Or.inl rfl) rfl [.int (I 1)] [.int (I g)] rfl rfl (Nat.le_of_ble_eq_true rfl) (Nat.le_of_ble_eq_true rfl) (CLd_le (Nat.le_of_ble_eq_true rfl) (ctX11_flag (by omega))) ?_
            rintro v9 h9 ⟨e9, rfl⟩
            rw [e9]
            clear e9
            refine x_iadd 93 hK rfl rfl ?_
            refine x_istore 95 hK rfl rfl _ rfl ?_
            refine x_aload_n 96 hK rfl rfl (lk1_n (lk1_n (lk1_n l0 (by decide) (Or.inl rfl)) (by decide) (Or.inl rfl)) (by decide) (Or.inl rfl)) ?_
            refine x_aload_n 97 hK rfl rfl (lk1_n (lk1_n (lk1_n l0 (by decide) (Or.inl rfl)) (by decide) (Or.inl rfl)) (by decide) (Or.inl rfl)) ?_
            refine x_getR 100 hK rfl rfl (sp_171 (h := h598) hG598) (rf_171_15 (h := h598) hG598) ?_
            have z31606 : gi h598 171 31 = k := (FRM_gi hF598 (r := 54) rfl rfl).trans (s31)
            have z32606 : gi h598 171 32 = gi h4 171 32 := FRM_gi hF598 (r := 54) rfl rfl
            refine x_callV 103 hK hmono rfl rfl [.ref 171, .ref 179] [] rfl rfl (Nat.le_of_ble_eq_true rfl) (Nat.le_of_ble_eq_true rfl) rfl (sp_171 (h := h598) hG598) (CLd_le (Nat.le_of_ble_eq_true rfl) (ctX11_stepGoesTF hSP hG598 wb598 (by omega) (by omega) (by omega))) ?_
            rw [rc598, show gi h598 175 = gi h 175 from funext fun j => (FRM_gi hF598 (r := 58) rfl rfl).trans (FRM_gi hF4 (r := 58) rfl rfl), show gi h598 176 = gi h 176 from funext fun j => (FRM_gi hF598 (r := 59) rfl rfl).trans (FRM_gi hF4 (r := 59) rfl rfl), show gi h598 171 6 = gi h 171 6 from (FRM_gi hF598 (r := 54) rfl rfl).trans (FRM_gi hF4 (r := 54) rfl rfl), show gi h598 171 7 = gi h 171 7 from (FRM_gi hF598 (r := 54) rfl rfl).trans (FRM_gi hF4 (r := 54) rfl rfl), show gi h598 177 = gi h 177 from funext fun j => (FRM_gi hF598 (r := 60) rfl rfl).trans (FRM_gi hF4 (r := 60) rfl rfl), z31606, z32606]
            rintro v606 h606 ⟨rfl, hG606, hF606, sv606, x31606, x32606, wb606⟩
            have hh606 := hitN_b (gi h 175) (gi h 176) ((gvW (dlA h (vw (RC h4 179 0)).1) (tvF (gi h 171 5) (2 * drv d - 1)) (vw (RC h4 179 0))).1 + 1) (stL (gvW (dlA h (vw (RC h4 179 0)).1) (tvF (gi h 171 5) (2 * drv d - 1)) (vw (RC h4 179 0)))) (gi h 171 6).toNat
            have uh606 := hcN_b (gvW (dlA h (vw (RC h4 179 0)).1) (tvF (gi h 171 5) (2 * drv d - 1)) (vw (RC h4 179 0))).2.2.2.2.2.1 (gi h 177) (gi h 171 7).toNat
            have x31606 : gi h606 171 31 = k + hitN (gi h 175) (gi h 176) ((gvW (dlA h (vw (RC h4 179 0)).1) (tvF (gi h 171 5) (2 * drv d - 1)) (vw (RC h4 179 0))).1 + 1) (stL (gvW (dlA h (vw (RC h4 179 0)).1) (tvF (gi h 171 5) (2 * drv d - 1)) (vw (RC h4 179 0)))) (gi h 171 6).toNat := x31606
            have x32606 : gi h606 171 32 = gi h4 171 32 + hcN (gvW (dlA h (vw (RC h4 179 0)).1) (tvF (gi h 171 5) (2 * drv d - 1)) (vw (RC h4 179 0))).2.2.2.2.2.1 (gi h 177) (gi h 171 7).toNat := x32606
            refine x_iinc 106 hK rfl rfl (lk1_n (lk1_n (lk1_n l5 (by decide) (Or.inl rfl)) (by decide) (Or.inl rfl)) (by decide) (Or.inl rfl)) _ rfl ?_
            refine x_goto 35 hK rfl rfl ?_
            obtain ⟨q, hq⟩ : ∃ q : Nat, (n - i).toNat = q + 1 := ⟨(n - i).toNat - 1, by omega⟩
            rw [hq] at hv
            unfold vgI at hv
            rw [if_pos (by omega), ← sv606] at hv
            exact ih _ (by omega) ((d * 1103515245) + 12345) (g + 1) (i + 1) (k + hitN (gi h 175) (gi h 176) ((gvW (dlA h (vw (RC h4 179 0)).1) (tvF (gi h 171 5) (2 * drv d - 1)) (vw (RC h4 179 0))).1 + 1) (stL (gvW (dlA h (vw (RC h4 179 0)).1) (tvF (gi h 171 5) (2 * drv d - 1)) (vw (RC h4 179 0)))) (gi h 171 6).toNat) _ _ rfl (n0) (by omega) (by omega) (by omega) (x31606) (by omega) (by rw [show (n - (i + 1)).toNat = q by omega]; exact hv) ((by rw [show b + (i + 1) = b + i + 1 by omega]; exact wb606)) (lk1_n (lk1_n (lk1_n (lk1_n l0 (by decide) (Or.inl rfl)) (by decide) (Or.inl rfl)) (by decide) (Or.inl rfl)) (by decide) (Or.inl rfl)) (lk1_n (lk1_n (lk1_n (lk1_n l2 (by decide) (Or.inl rfl)) (by decide) (Or.inl rfl)) (by decide) (Or.inl rfl)) (by decide) (Or.inl rfl)) (lk1_n (lk1_n (lk1_n lk1_s (by decide) (Or.inl rfl)) (by decide) (Or.inl rfl)) (by decide) (Or.inl rfl)) (lk1_n lk1_s (by decide) (Or.inl rfl)) lk1_s (hG606) (((hF4).trans ((hF598).mono rfl)).trans ((hF606).mono rfl))
  refine x_aload_n 1 hK rfl rfl rfl ?_
  refine x_iconst 2 hK rfl rfl ?_
  refine x_putI 5 hK rfl rfl (sp_171 (h := h) hG) ?_
  refine x_iload_n 6 hK rfl rfl rfl ?_
  refine x_i2l 7 hK rfl rfl (by omega) ?_
  refine x_lconstE 8 1 hK rfl rfl rfl ?_
  refine x_ldc2_w 11 hK rfl rfl ?_
  have hGp607 : GD gE gRL sh (wI h 171 0 0) := GD_w1 (hG) (r := 54) rfl (by omega) rfl (by omega) (by omega)
  refine x_callS 14 hK hmono rfl (Or.inl rfl) rfl [.long (J n), .long (J 1), .long (J 60)] [] rfl rfl (Nat.le_of_ble_eq_true rfl) (Nat.le_of_ble_eq_true rfl) (CLd_le (Nat.le_of_ble_eq_true rfl) (ctX11_in (by omega) (by omega) (by omega))) ?_
  rintro v9 h9 ⟨e9, ⟨rfl, i1608, i2608⟩ | ⟨rfl, i1608⟩⟩ <;> rw [e9] <;> clear e9
  · refine x_if_ne 19 17 hK rfl rfl rfl (by omega) (fun _ => ?_) (fun c => by omega)
    refine x_iload_n 20 hK rfl rfl rfl ?_
    refine x_istore_n 21 hK rfl rfl [(3, .int (I x)), (0, .ref 171), (1, .int (I x)), (2, .int (I n))] rfl ?_
    refine x_iconst 22 hK rfl rfl ?_
    refine x_istore 24 hK rfl rfl [(4, .int (I 0)), (3, .int (I x)), (0, .ref 171), (1, .int (I x)), (2, .int (I n))] rfl ?_
    refine x_aload_n 25 hK rfl rfl rfl ?_
    have hGp610 : GD gE gRL sh (wI h 171 0 0) := GD_w1 (hG) (r := 54) rfl (by omega) rfl (by omega) (by omega)
    refine x_callV 28 hK hmono rfl rfl [.ref 171] [] rfl rfl (Nat.le_of_ble_eq_true rfl) (Nat.le_of_ble_eq_true rfl) rfl (sp_171 (h := h) hG) (CLd_le (Nat.le_of_ble_eq_true rfl) (ctX11_putsF hSP hGp610)) ?_
    rintro v609 h609 ⟨rfl, hG609, hF609, pt609⟩
    refine x_aload_n 29 hK rfl rfl rfl ?_
    refine x_callV 32 hK hmono rfl rfl [.ref 171] [] rfl rfl (Nat.le_of_ble_eq_true rfl) (Nat.le_of_ble_eq_true rfl) rfl (sp_171 (h := h609) hG609) (CLd_le (Nat.le_of_ble_eq_true rfl) (ctX11_startsCountingF hSP hG609)) ?_
    rintro v3 h3 ⟨rfl, hG3, hF3, z31, z32⟩
    refine x_iconst 33 hK rfl rfl ?_
    refine x_istore 35 hK rfl rfl [(5, .int (I 0)), (4, .int (I 0)), (3, .int (I x)), (0, .ref 171), (1, .int (I x)), (2, .int (I n))] rfl ?_
    have c178 : RC (wI h 171 0 0) 178 0 = RC h 178 0 := RC_w (by decide)
    have c3 : RC h3 179 0 = RC h 178 0 := (RC_F hF3 (r := 62) rfl rfl 0).trans (pt609.trans c178)
    exact loop _ x 0 0 0 _ _ rfl (⟨by omega, by omega⟩) (by omega) (by omega) (by omega) (z31) (by rw [z32]; omega) (by rw [c3, show n - 0 = n by omega]; exact hVV) ((by rw [c3, show b + 0 = b by omega]; exact wb)) rfl rfl rfl rfl rfl (hG3) (((FRM_w ((FRM.rf : FRM gRL [(0, 54, 0, 0), (0, 54, 1, 1), (0, 54, 31, 32), (0, 62, 0, 56), (0, 67, 0, 79), (0, 68, 0, 3), (1, 55, 0, 39)] h h)) (r := 54) rfl rfl).trans ((hF609).mono rfl)).trans ((hF3).mono rfl))
  · refine x_if_ne 19 17 hK rfl rfl rfl (by omega) (fun c => by omega) (fun _ => ?_)
    refine x_iconst 18 hK rfl rfl ?_
    exact x_iret hK rfl ⟨Or.inl ⟨by omega, rfl, mrow_k (by decide), gi_k (by decide) _⟩, GD_w1 (hG) (r := 54) rfl (by omega) rfl (by omega) (by omega), FRM_w ((FRM.rf : FRM gRL [(0, 54, 0, 0), (0, 54, 1, 1), (0, 54, 31, 32), (0, 62, 0, 56), (0, 67, 0, 79), (0, 68, 0, 3), (1, 55, 0, 39)] h h)) (r := 54) rfl rfl⟩
end
